/-! ===== lengths of the class's paths; the valley ===== -/
def dlx (fp len : Nat → Int32) (b : Nat) : Nat := if fp b = -2 then 1000 else (len (fp b).toNatClampNeg).toNatClampNeg
theorem Bf_lnb {m : Nat} {dl : Nat → Nat → Option Nat} {x0 p s c : Nat} {nd ln pv ar : Nat → Nat} (hB : Bf m dl x0 p s c nd ln pv ar) : ∀ i, i < c → ln i ≤ i := by
  intro i
  induction i using Nat.strongRecOn with
  | ind i ihh =>
    intro hi
    by_cases h0 : i = 0
    · rw [h0, hB.2.2.1]
      exact Nat.le_refl 0
    · have g := hB.2.2.2.2.1 i (by omega) hi
      have := ihh (pv i) g.1 (by omega)
      rw [g.2.2.2.1]
      omega
theorem sp_len {n m : Nat} {S T L : Nat → Nat} {w : Nat → Nat → Bool} {own oth t0 : Nat} {arr fp len prv : Nat → Int32} (h : SpF n m S T L w own oth t0 arr fp len prv) {b : Nat} (hb : b < 16) : LnP (EN m S T L w own oth) (2 * t0) b (dlx fp len b) := by
  obtain ⟨c, nd, ln, pv, ar, pl, obj, par, hB, hP, hc, hnd⟩ := h
  have hmin : ∀ k, (wk (EN m S T L w own oth) k (2 * t0) (2 * b) ∨ wk (EN m S T L w own oth) k (2 * t0) (2 * b + 1)) → ∃ j, j < c ∧ nd j / 2 = b ∧ ln j ≤ k := by
    intro k hk
    rcases hk with hk | hk
    · obtain ⟨y, h1, h2, h3⟩ := EN_sim _ _ _ (2 * t0) hk rfl (Nat.le_refl _)
      obtain ⟨j, g1, g2, g3⟩ := Bf_reach hB k y h1
      exact ⟨j, g1, by omega, g3⟩
    · obtain ⟨y, h1, h2, h3⟩ := EN_sim _ _ _ (2 * t0) hk rfl (Nat.le_refl _)
      obtain ⟨j, g1, g2, g3⟩ := Bf_reach hB k y h1
      exact ⟨j, g1, by omega, g3⟩
  unfold dlx
  rcases hP.2.2.2 b hb with ⟨h1, h2⟩ | ⟨i, h1, h2, h3, h4⟩
  · rw [if_pos h1]
    refine ⟨Nat.le_refl _, fun h => absurd h (Nat.lt_irrefl _), fun k hk => ?_⟩
    obtain ⟨j, g1, g2, _⟩ := hmin k hk
    exact absurd g2 (h2 j g1)
  · have hl := Bf_lnb hB i h1
    rw [if_neg (by rw [h2]; exact nI_ne2 (by omega)), h2, nI_clamp (by omega), (hP.2.1 i h1).2.2, nI_clamp (by omega)]
    refine ⟨by omega, fun _ => ?_, fun k hk => ?_⟩
    · have := wk_mono (fun a b => ED_EN) _ _ _ (Bf_walk hB i h1)
      have e : nd i = 2 * b ∨ nd i = 2 * b + 1 := by omega
      rcases e with e | e
      · rw [e] at this
        exact Or.inl this
      · rw [e] at this
        exact Or.inr this
    · obtain ⟨j, g1, g2, g3⟩ := hmin k hk
      have hij : i ≤ j := by
        refine Nat.le_of_not_lt (fun hh => h4 j hh g2)
      exact Nat.le_trans (Bf_mono hB j i hij g1) g3
theorem sp_lt {n m : Nat} {S T L : Nat → Nat} {w : Nat → Nat → Bool} {own oth t0 : Nat} {arr fp len prv : Nat → Int32} (h : SpF n m S T L w own oth t0 arr fp len prv) {b : Nat} (hb : b < 16) : (fp b = -2 ∧ dlx fp len b = 1000) ∨ (¬ fp b = -2 ∧ dlx fp len b < 32 ∧ ∃ i, i < 32 ∧ fp b = nI i ∧ len i = nI (dlx fp len b)) := by
  obtain ⟨c, nd, ln, pv, ar, pl, obj, par, hB, hP, hc, hnd⟩ := h
  rcases hP.2.2.2 b hb with ⟨h1, h2⟩ | ⟨i, h1, h2, h3, h4⟩
  · exact Or.inl ⟨h1, if_pos h1⟩
  · have hne : ¬ fp b = -2 := by rw [h2]; exact nI_ne2 (by omega)
    have hl := Bf_lnb hB i h1
    have e : dlx fp len b = ln i := by
      unfold dlx
      rw [if_neg hne, h2, nI_clamp (by omega), (hP.2.1 i h1).2.2, nI_clamp (by omega)]
    exact Or.inr ⟨hne, by omega, i, by omega, h2, by rw [e]; exact (hP.2.1 i h1).2.2⟩
theorem x_reaches {n m : Nat} {S T L : Nat → Nat} {w : Nat → Nat → Bool} {own oth t0 : Nat} {arr fp len prv : Nat → Int32} (h : SpF n m S T L w own oth t0 arr fp len prv) {b : Nat} (hb : b < 16) : f_X9_reaches fp (nI b) = some (bI (decide (dlx fp len b < 1000))) := by
  unfold f_X9_reaches
  simp (disch := omega) only [ck_nI, nI_clamp]
  rcases sp_lt h hb with ⟨h1, h2⟩ | ⟨h1, h2, _⟩
  · rw [if_pos h1, h2]
    rfl
  · rw [if_neg h1, decide_eq_true (by omega)]
    rfl
theorem x_lengthTo {n m : Nat} {S T L : Nat → Nat} {w : Nat → Nat → Bool} {own oth t0 : Nat} {arr fp len prv : Nat → Int32} (h : SpF n m S T L w own oth t0 arr fp len prv) {b : Nat} (hb : b < 16) (hd : dlx fp len b < 1000) : f_X9_lengthTo fp len (nI b) = some (nI (dlx fp len b)) := by
  unfold f_X9_lengthTo
  rw [x_reaches h hb, decide_eq_true hd]
  simp only [Option.bind_some, bI_if, ↓reduceIte]
  rcases sp_lt h hb with ⟨h1, h2⟩ | ⟨h1, h2, i, h3, h4, h5⟩
  · omega
  · simp (disch := omega) only [ck_nI, nI_clamp, h4, h5]
theorem valS_eq {n : Nat} {d0 d1 e0 e1 : Nat → Nat} {r r2 : Int32} (h0 : ∀ b, b < n → d0 b = e0 b) (h1 : ∀ b, b < n → d1 b = e1 b) (hr : valS n d0 d1 r) (hr2 : valS n e0 e1 r2) : r = r2 := by
  have hs : ∀ b, b < n → d0 b + d1 b = e0 b + e1 b := fun b hb => by rw [h0 b hb, h1 b hb]
  rcases hr with ⟨a1, a2⟩ | ⟨b, a1, a2, a3, a4, a5⟩
  · rcases hr2 with ⟨b1, b2⟩ | ⟨c, b1, b2, b3, b4, b5⟩
    · rw [a1, b1]
    · have := a2 c b1
      have := hs c b1
      omega
  · rcases hr2 with ⟨b1, b2⟩ | ⟨c, b1, b2, b3, b4, b5⟩
    · have := b2 b a1
      have := hs b a1
      omega
    · have g1 := hs b a1
      have g2 := hs c b1
      have g3 := a4 c b1
      have g4 := b4 b a1
      have : b = c := by
        rcases Nat.lt_trichotomy b c with h | h | h
        · have := b5 b h
          omega
        · exact h
        · have := a5 c h
          omega
      rw [a2, b2, this]
theorem x_findValley (fu : Nat) (hfu : 40 < fu) {n m : Nat} {S T L : Nat → Nat} {ox sx : Int32} {lx cx tx : Nat → Int32} (hp : SyP n m S T L) (hx : Sy n m S T L ox sx lx cx tx) {below : Nat → Int32} {w : Nat → Nat → Bool} (hw : Rb below w) (lbo lbe lot lpl rbo rbe rot rpl : Int32) (lar lfp lle lob lpa lpr f0 g0 rar rfp rle rob rpa rpr : Nat → Int32) (v1 : Int32) :
    ∃ r R1 R2, f_X11_findValley fu lbo lbe lot lpl rbo rbe rot rpl ox sx lar lfp lle lob lpa lpr below f0 g0 rar rfp rle rob rpa rpr lx cx tx v1 = some (r, R1, R2) ∧ ((inN v1 (PK m S).length = false ∧ r = -1) ∨ ∃ i p, inN v1 (PK m S).length = true ∧ v1 = nI i ∧ (PK m S)[i]? = some p ∧ R2 6 i = nI p.1 ∧ R2 7 i = nI p.2 ∧ SpF n m S T L w (L p.1) (L p.2) (T p.1) (R2 0) (R2 1) (R2 2) (R2 5) ∧ SpF n m S T L w (L p.2) (L p.1) (T p.2) (R2 8) (R2 9) (R2 10) (R2 13) ∧ valS n (dlx (R2 1) (R2 2)) (dlx (R2 9) (R2 10)) r) := by
  have hm := hp.2.1
  have hn := hp.1
  have hlen := PK_len S hm
  obtain ⟨f, g, e1, e2⟩ := x_coll fu (by omega) hp hx f0 g0
  unfold f_X11_findValley
  rw [e1]
  simp only [Option.bind_some, has_x, bI_ifn]
  cases hv : inN v1 (PK m S).length with
  | false =>
    simp only [↓reduceIte, Bool.false_eq_true]
    exact ⟨_, _, _, rfl, Or.inl ⟨trivial, rfl⟩⟩
  | true =>
    obtain ⟨i, hi, rfl⟩ := inN_of (by omega) hv
    simp only [↓reduceIte]
    have hp2 : (PK m S)[i]? = some ((PK m S)[i]) := List.getElem?_eq_getElem hi
    generalize (PK m S)[i] = p at hp2
    have hpk := PK_at hp2
    simp (disch := omega) only [ck_nI, nI_clamp]
    rw [(e2 i p hp2).1, (e2 i p hp2).2]
    obtain ⟨⟨A1, A2⟩, e3, e4⟩ := x_search fu hfu hp hx hw (show p.1 < m by omega) (show p.2 < m by omega) lar lfp lle lob lpa lpr
    obtain ⟨⟨B1, B2⟩, e5, e6⟩ := x_search fu hfu hp hx hw (show p.2 < m by omega) (show p.1 < m by omega) rar rfp rle rob rpa rpr
    rw [e3]
    simp only [Option.bind_some]
    rw [e5]
    simp only [Option.bind_some, lt]
    have h0 := hx.1
    subst h0
    have hT : tot (lp (τ := Int32 → Int32 → Int32 → Option (Int32 × (Nat → Int32) × (Nat → (Nat → Int32)))) (fun _ _ _ => none) (f_X11_findValley_L100 (A1 1) (A1 0) (A1 2) (A1 3) (nI (PK m S).length) (B1 1) (B1 0) (B1 2) (B1 3) (nI n) (A2 0) (A2 1) (A2 2) (A2 3) (A2 4) (A2 5) f g (B2 0) (B2 1) (B2 2) (B2 3) (B2 4) (B2 5)) fu (-2) 2147483647 0) (fun q => valS n (dlx (A2 1) (A2 2)) (dlx (B2 1) (B2 2)) q.1 ∧ q.2.2 0 = A2 0 ∧ q.2.2 1 = A2 1 ∧ q.2.2 2 = A2 2 ∧ q.2.2 5 = A2 5 ∧ q.2.2 6 = f ∧ q.2.2 7 = g ∧ q.2.2 8 = B2 0 ∧ q.2.2 9 = B2 1 ∧ q.2.2 10 = B2 2 ∧ q.2.2 13 = B2 5) := by
      refine lw3 (fun k v1 v2 v3 => ∃ i, v3 = nI i ∧ i + k = n ∧ ((v1 = -2 ∧ v2 = 2147483647 ∧ ∀ c, c < i → 1000 ≤ dlx (A2 1) (A2 2) c + dlx (B2 1) (B2 2) c) ∨ ∃ b, b < i ∧ v1 = nI b ∧ v2 = nI (dlx (A2 1) (A2 2) b + dlx (B2 1) (B2 2) b) ∧ dlx (A2 1) (A2 2) b + dlx (B2 1) (B2 2) b < 1000 ∧ (∀ c, c < i → dlx (A2 1) (A2 2) b + dlx (B2 1) (B2 2) b ≤ dlx (A2 1) (A2 2) c + dlx (B2 1) (B2 2) c) ∧ ∀ c, c < b → dlx (A2 1) (A2 2) b + dlx (B2 1) (B2 2) b < dlx (A2 1) (A2 2) c + dlx (B2 1) (B2 2) c)) ?_ fu n _ _ _ (by omega) ⟨0, rfl, by omega, Or.inl ⟨rfl, rfl, fun c hc => absurd hc (Nat.not_lt_zero c)⟩⟩
      rintro r k v1 v2 v3 ⟨i, rfl, hi, hv⟩ ih
      unfold f_X11_findValley_L100 f_X11_findValley_J169
      by_cases hin : i = n
      · subst hin
        rw [if_pos (nI_le (Nat.le_refl i) (by omega))]
        refine tot_some ⟨?_, rfl, rfl, rfl, rfl, rfl, rfl, rfl, rfl, rfl, rfl⟩
        rcases hv with ⟨g1, _, g3⟩ | ⟨b, g1, g2, _, g4, g5, g6⟩
        · exact Or.inl ⟨g1, g3⟩
        · exact Or.inr ⟨b, g1, g2, g4, g5, g6⟩
      · rw [if_neg (nI_ge (a := i) (by omega) (by omega)), x_reaches e4 (show i < 16 by omega)]
        simp only [Option.bind_some]
        rw [x_reaches e6 (show i < 16 by omega)]
        simp only [Option.bind_some, bI_if, decide_eq_true_iff, lt, nI_1]
        have skip : 1000 ≤ dlx (A2 1) (A2 2) i + dlx (B2 1) (B2 2) i → tot (r v1 v2 (nI (i + 1))) (fun q => valS n (dlx (A2 1) (A2 2)) (dlx (B2 1) (B2 2)) q.1 ∧ q.2.2 0 = A2 0 ∧ q.2.2 1 = A2 1 ∧ q.2.2 2 = A2 2 ∧ q.2.2 5 = A2 5 ∧ q.2.2 6 = f ∧ q.2.2 7 = g ∧ q.2.2 8 = B2 0 ∧ q.2.2 9 = B2 1 ∧ q.2.2 10 = B2 2 ∧ q.2.2 13 = B2 5) := fun hbig => by
          refine ih (k - 1) _ _ _ (by omega) ⟨i + 1, rfl, by omega, ?_⟩
          rcases hv with ⟨g1, g2, g3⟩ | ⟨b, g1, g2, g3, g4, g5, g6⟩
          · refine Or.inl ⟨g1, g2, fun c hc => ?_⟩
            by_cases hci : c = i
            · subst hci
              exact hbig
            · exact g3 c (by omega)
          · refine Or.inr ⟨b, by omega, g2, g3, g4, fun c hc => ?_, g6⟩
            by_cases hci : c = i
            · subst hci
              omega
            · exact g5 c (by omega)
        by_cases ha : dlx (A2 1) (A2 2) i < 1000
        · rw [if_pos ha]
          by_cases hb : dlx (B2 1) (B2 2) i < 1000
          · rw [if_pos hb, x_lengthTo e4 (by omega) ha]
            simp only [Option.bind_some]
            rw [x_lengthTo e6 (by omega) hb]
            simp only [Option.bind_some, nI_add]
            have hs1 : dlx (A2 1) (A2 2) i < 32 := by
              rcases sp_lt e4 (show i < 16 by omega) with ⟨_, h⟩ | ⟨_, h, _⟩
              · have h : dlx (A2 1) (A2 2) i = 1000 := h
                omega
              · exact h
            have hs2 : dlx (B2 1) (B2 2) i < 32 := by
              rcases sp_lt e6 (show i < 16 by omega) with ⟨_, h⟩ | ⟨_, h, _⟩
              · have h : dlx (B2 1) (B2 2) i = 1000 := h
                omega
              · exact h
            rcases hv with ⟨g1, rfl, g3⟩ | ⟨b, g1, rfl, rfl, g4, g5, g6⟩
            · rw [show (2147483647 : Int32) = nI 2147483647 from rfl, if_neg (nI_ge (a := dlx (A2 1) (A2 2) i + dlx (B2 1) (B2 2) i) (by omega) (by decide))]
              refine ih (k - 1) _ _ _ (by omega) ⟨i + 1, rfl, by omega, Or.inr ⟨i, by omega, rfl, rfl, by omega, fun c hc => ?_, fun c hc => ?_⟩⟩
              · by_cases hci : c = i
                · subst hci
                  exact Nat.le_refl _
                · have := g3 c (by omega)
                  omega
              · have := g3 c hc
                omega
            · simp (disch := omega) only [nI_leI]
              by_cases hle : dlx (A2 1) (A2 2) b + dlx (B2 1) (B2 2) b ≤ dlx (A2 1) (A2 2) i + dlx (B2 1) (B2 2) i
              · rw [if_pos hle]
                refine ih (k - 1) _ _ _ (by omega) ⟨i + 1, rfl, by omega, Or.inr ⟨b, by omega, rfl, rfl, g4, fun c hc => ?_, g6⟩⟩
                by_cases hci : c = i
                · subst hci
                  exact hle
                · exact g5 c (by omega)
              · rw [if_neg hle]
                refine ih (k - 1) _ _ _ (by omega) ⟨i + 1, rfl, by omega, Or.inr ⟨i, by omega, rfl, rfl, by omega, fun c hc => ?_, fun c hc => ?_⟩⟩
                · by_cases hci : c = i
                  · subst hci
                    exact Nat.le_refl _
                  · have := g5 c (by omega)
                    omega
                · have := g5 c (by omega)
                  omega
          · rw [if_neg hb]
            exact skip (by omega)
        · rw [if_neg ha]
          exact skip (by omega)
    obtain ⟨⟨r, R1, R2⟩, e7, e8, a0, a1, a2, a5, a6, a7, a8, a9, a10, a13⟩ := hT
    refine ⟨r, R1, R2, e7, Or.inr ⟨i, p, trivial, rfl, hp2, ?_, ?_, ?_, ?_, ?_⟩⟩
    · rw [show R2 6 = f from a6]
      exact (e2 i p hp2).1
    · rw [show R2 7 = g from a7]
      exact (e2 i p hp2).2
    · rw [show R2 0 = A2 0 from a0, show R2 1 = A2 1 from a1, show R2 2 = A2 2 from a2, show R2 5 = A2 5 from a5]
      exact e4
    · rw [show R2 8 = B2 0 from a8, show R2 9 = B2 1 from a9, show R2 10 = B2 2 from a10, show R2 13 = B2 5 from a13]
      exact e6
    · rw [show R2 1 = A2 1 from a1, show R2 2 = A2 2 from a2, show R2 9 = B2 1 from a9, show R2 10 = B2 2 from a10]
      exact e8
