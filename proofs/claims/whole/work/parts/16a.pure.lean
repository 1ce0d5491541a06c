/-! ===== joining paths ===== -/
theorem wk_rev {E : Nat → Nat → Prop} : ∀ (k x y : Nat), wk (fun a b => E b a) k x y ↔ wk E k y x := by
  intro k
  induction k with
  | zero =>
    intro x y
    exact ⟨fun h => Eq.symm h, fun h => Eq.symm h⟩
  | succ k ih =>
    intro x y
    constructor
    · rintro ⟨c, h1, h2⟩
      exact wk_cons h2 ((ih x c).mp h1)
    · intro h
      obtain ⟨c, h1, h2⟩ := wk_head _ _ _ h
      exact ⟨c, (ih x c).mpr h2, h1⟩
def Nx (S T L : Nat → Nat) (w : Nat → Nat → Bool) (own oth : Nat) (e : Nat → Nat) (s o : Nat) (ph : Nat → Bool) (rest : Nat) (q : Nat) : Prop := q < 2 ∧ S s = o ∧ ∃ p, p < 2 ∧ ph p = true ∧ ld w own oth (L s) p q = true ∧ e (2 * T s + q) = rest
theorem m_next (fu : Nat) (hfu : 32 < fu) {n m : Nat} {S T L : Nat → Nat} {om sm : Int32} {lm cm tm : Nat → Int32} (hp : SyP n m S T L) (hx : Sy n m S T L om sm lm cm tm) {above : Nat → Nat → Int32} {w : Nat → Nat → Bool} (hw : Rt above w) {own oth : Nat} (hown : own < 8) (hoth : oth < 8) {lf : Nat → Int32} {e : Nat → Nat} (he : ∀ x, x < 32 → lf x = nI (e x) ∧ e x ≤ 1000) {s o rest : Nat} (hs : s < m) (ho : o < 16) (hrest : rest < 1000) (ph : Int32) :
    tot (f_X12_nextPhases fu above lm lf cm tm (nI s) (nI o) ph (nI rest) (nI own) (nI oth)) (fun r => ∀ q, q < 32 → (bt r q = true ↔ Nx S T L w own oth e s o (bt ph) rest q)) := by
  have hm := hp.2.1
  have hn := hp.1
  obtain ⟨rfl, rfl, hl, hc, ht⟩ := hx
  have hS := hp.2.2 s hs
  have hld : ∀ (i : Nat), i < 4 → f_X12_leads above lm (nI s) (nI (i / 2)) (nI (i % 2)) (nI own) (nI oth) = some (bI (ld w own oth (L s) (i / 2) (i % 2))) := fun i hi => m_leads hw hl (fun i hi => (hp.2.2 i hi).2.2) hm hs (by omega) (by omega) hown hoth
  unfold f_X12_nextPhases
  refine tot_lt (tot_lt (lw2 (fun k v7 v8 => ∃ i, v8 = nI i ∧ i + k = 4 ∧ ∀ q, q < 32 → (bt v7 q = true ↔ S s = o ∧ ∃ j, j < i ∧ q = j % 2 ∧ bt ph (j / 2) = true ∧ ld w own oth (L s) (j / 2) (j % 2) = true ∧ e (2 * T s + j % 2) = rest)) ?_ fu 4 _ _ (by omega) ⟨0, rfl, by omega, fun q hq => ?_⟩))
  · rintro r k v7 v8 ⟨i, rfl, hi, hv⟩ ih
    unfold f_X12_nextPhases_L6
    rw [show (4 : Int32) = nI 4 from rfl]
    by_cases hi4 : i = 4
    · subst hi4
      rw [if_pos (nI_le (Nat.le_refl 4) (by decide))]
      refine tot_some (fun q hq => ?_)
      rw [hv q hq]
      constructor
      · rintro ⟨h1, j, h2, rfl, h3, h4, h5⟩
        exact ⟨by omega, h1, j / 2, by omega, h3, h4, h5⟩
      · rintro ⟨h1, h2, p, h3, h4, h5, h6⟩
        exact ⟨h2, 2 * p + q, by omega, by omega, by rw [show (2 * p + q) / 2 = p by omega]; exact h4, by rw [show (2 * p + q) / 2 = p by omega, show (2 * p + q) % 2 = q by omega]; exact h5, by rw [show (2 * p + q) % 2 = q by omega]; exact h6⟩
    · rw [if_neg (nI_ge (a := i) (by omega) (by omega))]
      simp (disch := omega) only [ck_nI, nI_clamp]
      rw [hc s hs]
      simp (disch := omega) only [nI_eq]
      by_cases hso : S s = o
      · rw [if_neg (fun h => h hso), k4b (show i < 2 ^ 31 by omega), k4a (show i < 2 ^ 31 by omega), b_sh1 _ (show i / 2 < 32 by omega), ht s hs]
        have hle := he (2 * T s + i % 2) (by omega)
        simp (disch := omega) only [bI_ifn1, k2m, nI_add, ck_nI, nI_clamp, hle.1, nI_eq]
        unfold f_X12_nextPhases_J61 f_X12_nextPhases_J62 f_X12_nextPhases_J100 f_X12_nextPhases_J101
        rw [k4b (show i < 2 ^ 31 by omega), k4a (show i < 2 ^ 31 by omega), hld i (by omega)]
        simp only [lt, Option.bind_some, bI_if, nI_1, ↓reduceIte]
        have e0 : ∀ x : Int32, x ||| 0 = x := fun x => b_ext (fun i _ => by rw [b_or, b_0, Bool.or_false])
        have skip : ¬ (bt ph (i / 2) = true ∧ ld w own oth (L s) (i / 2) (i % 2) = true ∧ e (2 * T s + i % 2) = rest) → tot (r (v7 ||| 0) (nI (i + 1))) (fun r => ∀ q, q < 32 → (bt r q = true ↔ Nx S T L w own oth e s o (bt ph) rest q)) := fun hno => by
          rw [e0]
          refine ih (k - 1) _ _ (by omega) ⟨i + 1, rfl, by omega, fun q hq => ?_⟩
          rw [hv q hq]
          constructor
          · rintro ⟨h1, j, h2, h3⟩
            exact ⟨h1, j, by omega, h3⟩
          · rintro ⟨h1, j, h2, h3, h4⟩
            by_cases hji : j = i
            · subst hji
              exact absurd h4 hno
            · exact ⟨h1, j, by omega, h3, h4⟩
        by_cases h1 : bt ph (i / 2) = true
        · rw [if_pos h1]
          by_cases h2 : e (2 * T s + i % 2) = rest
          · rw [if_neg (fun h => h h2)]
            by_cases h3 : ld w own oth (L s) (i / 2) (i % 2) = true
            · simp only [h3, ↓reduceIte, show ¬ (1 : Int32) = 0 by decide]
              refine ih (k - 1) _ _ (by omega) ⟨i + 1, rfl, by omega, fun q hq => ?_⟩
              rw [b_or, b_1shl (by omega) hq, Bool.or_eq_true, hv q hq, decide_eq_true_iff]
              constructor
              · rintro (⟨g1, j, g2, g3⟩ | g)
                · exact ⟨g1, j, by omega, g3⟩
                · exact ⟨hso, i, by omega, g, h1, h3, h2⟩
              · rintro ⟨g1, j, g2, g3, g4⟩
                by_cases hji : j = i
                · subst hji
                  exact Or.inr g3
                · exact Or.inl ⟨g1, j, by omega, g3, g4⟩
            · simp only [h3, ↓reduceIte, show ¬ (1 : Int32) = 0 by decide, Bool.false_eq_true]
              exact skip (fun h => h3 h.2.1)
          · rw [if_pos h2]
            exact skip (fun h => h2 h.2.2)
        · rw [if_neg h1]
          exact skip (fun h => h1 h.1)
      · rw [if_pos hso]
        refine tot_some (fun q hq => ?_)
        rw [hv q hq]
        constructor
        · exact fun h => absurd h.1 hso
        · exact fun h => absurd h.2.1 hso
  · rw [b_0]
    constructor
    · intro h
      cases h
    · rintro ⟨_, j, h, _⟩
      omega
theorem Bf_chain {m : Nat} {S T L : Nat → Nat} {w : Nat → Nat → Bool} {own oth x0 p s c : Nat} {nd ln pv ar : Nat → Nat} (h : Bf m (dS S T L w own oth) x0 p s c nd ln pv ar) {i : Nat} (hi : i < c) : ∀ u, u ≤ ln i → wk (ED m S T L w own oth) u (nd (up pv u i)) (nd i) := by
  intro u
  induction u with
  | zero => exact fun _ => rfl
  | succ u ih =>
    intro hu
    obtain ⟨g1, g2⟩ := Bf_up h hi u (by omega)
    have hpos : 0 < up pv u i := by
      refine Nat.pos_of_ne_zero (fun h0 => ?_)
      rw [h0, h.2.2.1] at g2
      omega
    have g3 := h.2.2.2.2.1 _ hpos g1
    exact wk_cons ⟨ar (up pv u i), g3.2.1, g3.2.2.1⟩ (ih (by omega))
theorem x_stepTo (fu : Nat) (hfu : 40 < fu) {n m : Nat} {S T L : Nat → Nat} {w : Nat → Nat → Bool} {own oth t0 c : Nat} {nd ln pv ar : Nat → Nat} {pl : Int32} {arr fp len obj par prv : Nat → Int32} (hB : Bf m (dS S T L w own oth) (2 * t0) c 0 c nd ln pv ar) (hP : PlR c nd ln pv ar pl arr fp len obj par prv) (hc : c ≤ 32) {b i d : Nat} (hb : b < 16) (hi : i < c) (hfp : fp b = nI i) (hd : ln i = d) (v : Int32) :
    (inN v d = false → f_X9_stepTo fu arr fp len prv (nI b) v = some (-2)) ∧ (∀ j, j < d → v = nI j → f_X9_stepTo fu arr fp len prv (nI b) v = some (nI (ar (up pv (d - 1 - j) i)))) := by
  have hl := Bf_lnb hB i hi
  have hL : f_X9_lengthTo fp len (nI b) = some (nI d) := by
    unfold f_X9_lengthTo f_X9_reaches
    simp (disch := omega) only [ck_nI, nI_clamp, hfp]
    rw [if_neg (nI_ne2 (by omega))]
    simp only [Option.bind_some]
    rw [if_neg (by decide), (hP.2.1 i hi).2.2, hd]
  unfold f_X9_stepTo
  rw [hL]
  simp only [Option.bind_some, lt]
  refine ⟨fun h => ?_, fun j hj hv => ?_⟩
  · by_cases h1 : v < 0
    · rw [if_pos h1]
    · rw [if_neg h1]
      by_cases h2 : v < nI d
      · exfalso
        have h3 := of_decide_eq_false h
        exact h3 ⟨h1, Int32.not_le.mpr h2⟩
      · rw [if_neg h2]
  · subst hv
    rw [if_neg (nI_pos (by omega)), if_pos (nI_lt hj (by omega))]
    simp (disch := omega) only [ck_nI, nI_clamp, hfp]
    have e1 : nI d - 1 = nI (d - 1) := pk_sub (a := d) (b := 1) (by omega)
    rw [e1]
    have : tot (lp (τ := Int32 → Int32 → Option (Int32)) (fun _ _ => none) (f_X9_stepTo_L31 arr prv (nI j)) fu (nI i) (nI (d - 1))) (fun r => r = nI (ar (up pv (d - 1 - j) i))) := by
      refine lw2 (fun k v4 v5 => ∃ u, v4 = nI (up pv u i) ∧ v5 = nI (d - 1 - u) ∧ u + k = d - 1 - j) ?_ fu (d - 1 - j) _ _ (by omega) ⟨0, rfl, rfl, by omega⟩
      rintro r k v4 v5 ⟨u, rfl, rfl, hu⟩ ih
      unfold f_X9_stepTo_L31 f_X9_stepTo_J52
      obtain ⟨g1, g2⟩ := Bf_up hB hi u (by omega)
      have hpos : 0 < up pv u i := by
        refine Nat.pos_of_ne_zero (fun h0 => ?_)
        rw [h0, hB.2.2.1] at g2
        omega
      by_cases hk : k = 0
      · rw [if_pos (nI_le (show d - 1 - u ≤ j by omega) (by omega))]
        simp (disch := omega) only [ck_nI, nI_clamp]
        rw [(hP.2.2.1 _ hpos g1).2]
        exact tot_some (by rw [show u = d - 1 - j by omega])
      · rw [if_neg (nI_ge (a := j) (b := d - 1 - u) (by omega) (by omega))]
        simp (disch := omega) only [ck_nI, nI_clamp, lt]
        rw [(hP.2.2.1 _ hpos g1).1, sb_m1 (show 0 < d - 1 - u by omega)]
        exact ih (k - 1) _ _ (by omega) ⟨u + 1, rfl, by congr 1, by omega⟩
    obtain ⟨r, h1, h2⟩ := this
    rw [h1, h2]
