theorem k4a {i : Nat} (h : i < 2 ^ 31) : nI i / 2 = nI (i / 2) := pk_div (d := 2) h (by decide) (by decide)
theorem k4b {i : Nat} (h : i < 2 ^ 31) : nI i - nI i / 2 * 2 = nI (i % 2) := pk_rem (d := 2) h (by decide) (by decide)
theorem k2m (a : Nat) : 2 * nI a = nI (2 * a) := pk_mul 2 a
def sdP (sd f g st ot : Nat) : Prop := (sd = 0 ∧ st = f ∧ ot = g) ∨ (sd = 1 ∧ st = g ∧ ot = f)
theorem m_stepOf {sd f g st ot : Nat} (h : sdP sd f g st ot) : f_X12_stepOf (nI f) (nI g) (nI sd) = some (nI st) ∧ f_X12_stepOf (nI f) (nI g) (1 - nI sd) = some (nI ot) := by
  unfold f_X12_stepOf
  rcases h with ⟨rfl, rfl, rfl⟩ | ⟨rfl, rfl, rfl⟩
  · exact ⟨if_neg (by decide), if_pos (by decide)⟩
  · exact ⟨if_pos (by decide), if_neg (by decide)⟩
theorem bfQ_next {m : Nat} {S T L : Nat → Nat} {w : Nat → Nat → Bool} {own oth : Nat} {fwd : Bool} {d0 d : Nat → Nat} {s : Nat} {fl : Int32} (h : bfQ m S T L w own oth fwd d0 d s 4 fl) : bfQ m S T L w own oth fwd d0 d (s + 1) 0 fl := by
  rcases h with ⟨h1, h2, h3⟩ | h
  · exact Or.inl ⟨h1, h2, fun t j ht h4 h5 => h3 t j (by omega) h4 h5⟩
  · exact Or.inr h
theorem bfQ_0 {m : Nat} {S T L : Nat → Nat} {w : Nat → Nat → Bool} {own oth : Nat} {fwd : Bool} {d : Nat → Nat} : bfQ m S T L w own oth fwd d d 0 0 0 := Or.inl ⟨rfl, rfl, fun t j h => by omega⟩
theorem bfQ_ok {m : Nat} {S T L : Nat → Nat} {w : Nat → Nat → Bool} {own oth : Nat} {fwd : Bool} {d0 d : Nat → Nat} {s i : Nat} {fl : Int32} (h : bfQ m S T L w own oth fwd d0 d s i fl) (hn : ld w own oth (L s) (i / 2) (i % 2) = true → if fwd = true then d (2 * T s + i % 2) ≤ d (2 * S s + i / 2) + 1 else d (2 * S s + i / 2) ≤ d (2 * T s + i % 2) + 1) : bfQ m S T L w own oth fwd d0 d s (i + 1) fl := by
  rcases h with ⟨h1, h2, h3⟩ | h
  · refine Or.inl ⟨h1, h2, fun t j ht h4 h5 h6 => ?_⟩
    by_cases hc : t = s ∧ j = i
    · obtain ⟨rfl, rfl⟩ := hc
      exact hn h6
    · exact h3 t j (by omega) h4 h5 h6
  · exact Or.inr h
theorem bfQ_up {m : Nat} {S T L : Nat → Nat} {w : Nat → Nat → Bool} {own oth : Nat} {fwd : Bool} {d0 d : Nat → Nat} {s i : Nat} {fl : Int32} (h : bfQ m S T L w own oth fwd d0 d s i fl) {y v : Nat} (hy : y < 32) (hv : v < d y) (s2 i2 : Nat) : bfQ m S T L w own oth fwd d0 (put1 d y v) s2 i2 1 := by
  have h1 := (sumd_put hv 32).1 hy
  rcases h with ⟨_, rfl, _⟩ | ⟨_, h⟩
  · exact Or.inr ⟨rfl, h1⟩
  · exact Or.inr ⟨rfl, by omega⟩
def rwQ (M0 M : Nat → Nat → Int32) (sd : Nat) (d : Nat → Nat) : Prop := (∀ x, x < 32 → M sd x = nI (d x)) ∧ ∀ a x, a ≠ sd → M a x = M0 a x
theorem rwQ_up {M0 M : Nat → Nat → Int32} {sd : Nat} {d : Nat → Nat} (h : rwQ M0 M sd d) (y v : Nat) : rwQ M0 (up2 M sd y (nI v)) sd (put1 d y v) := by
  refine ⟨fun x hx => ?_, fun a x ha => ?_⟩
  · rw [up2_e, if_pos rfl]
    unfold put1
    by_cases hxy : x = y
    · rw [if_pos hxy, if_pos hxy]
    · rw [if_neg hxy, if_neg hxy]
      exact h.1 x hx
  · rw [up2_e, if_neg ha]
    exact h.2 a x ha
theorem m_side (fu : Nat) (hfu : 40000 < fu) {n m : Nat} {S T L : Nat → Nat} {om sm : Int32} {lm cm tm : Nat → Int32} (hp : SyP n m S T L) (hx : Sy n m S T L om sm lm cm tm) {above : Nat → Nat → Int32} {w : Nat → Nat → Bool} (hw : Rt above w) {sd f g st ot : Nat} (hsd : sdP sd f g st ot) (hst : st < m) (hot : ot < m) (M0 : Nat → Nat → Int32) :
    tot (f_X12_findSide fu sm (nI f) (nI g) above lm M0 cm tm (nI sd)) (fun M => BfP (EN m S T L w (L st) (L ot)) (fun z => z = 2 * T st) (M sd) ∧ ∀ a x, a ≠ sd → M a x = M0 a x) := by
  have hm := hp.2.1
  have hn := hp.1
  obtain ⟨rfl, rfl, hl, hc, ht⟩ := hx
  have hSt := hp.2.2 st hst
  have hOt := hp.2.2 ot hot
  have hsd2 : sd < 2 := by rcases hsd with h | h <;> omega
  have hld : ∀ (s i : Nat), s < m → i < 4 → f_X12_leads above lm (nI s) (nI (i / 2)) (nI (i % 2)) (nI (L st)) (nI (L ot)) = some (bI (ld w (L st) (L ot) (L s) (i / 2) (i % 2))) := fun s i hs hi => m_leads hw hl (fun i hi => (hp.2.2 i hi).2.2) hm hs (by omega) (by omega) hSt.2.2 hOt.2.2
  unfold f_X12_findSide
  rw [(m_stepOf hsd).1, (m_stepOf hsd).2]
  simp (disch := omega) only [Option.bind_some, ck_nI, nI_clamp, lt]
  rw [hl st hst, hl ot hot]
  refine lw2 (fun k v M => ∃ x, v = nI x ∧ x + k = 32 ∧ (∀ y, y < x → M sd y = nI 1000) ∧ ∀ a x, a ≠ sd → M a x = M0 a x) ?_ fu 32 _ _ (by omega) ⟨0, rfl, by omega, fun y hy => absurd hy (Nat.not_lt_zero y), fun a x _ => rfl⟩
  rintro r k v M ⟨x, rfl, hx, hM, hO⟩ ih
  unfold f_X12_findSide_L35
  rw [show (32 : Int32) = nI 32 from rfl]
  by_cases hx32 : x = 32
  · subst hx32
    rw [if_pos (nI_le (Nat.le_refl 32) (by decide))]
    unfold f_X12_findSide_J56
    rw [(m_stepOf hsd).1]
    simp (disch := omega) only [Option.bind_some, ck_nI, nI_clamp, lt]
    rw [ht st hst, k2m]
    simp (disch := omega) only [ck_nI, nI_clamp]
    clear ih
    have hQ0 : rwQ M0 (up2 M sd (2 * T st) (nI 0)) sd (put1 (fun _ => 1000) (2 * T st) 0) := rwQ_up ⟨hM, hO⟩ _ _
    have hB0 : bfI (EN m S T L w (L st) (L ot)) (fun z => z = 2 * T st) (put1 (fun _ => 1000) (2 * T st) 0) := by
      refine ⟨fun x hx => ?_, fun z hz => ?_⟩
      · unfold put1
        by_cases hxt : x = 2 * T st
        · rw [if_pos hxt]
          exact ⟨by omega, fun _ => ⟨2 * T st, rfl, hxt.symm⟩⟩
        · rw [if_neg hxt]
          exact ⟨Nat.le_refl _, fun h => absurd h (Nat.lt_irrefl 1000)⟩
      · unfold put1
        rw [if_pos hz]
    have hs0 : sumd (put1 (fun _ => 1000) (2 * T st) 0) 32 ≤ 32 * 1000 := sumd_le 32 (fun x hx => (hB0.1 x hx).1)
    refine lw2 (fun k fl M => ∃ d, rwQ M0 M sd d ∧ bfI (EN m S T L w (L st) (L ot)) (fun z => z = 2 * T st) d ∧ ((fl = 0 ∧ (∀ x y, EN m S T L w (L st) (L ot) x y → d y ≤ d x + 1) ∧ sumd d 32 ≤ k) ∨ (fl = 1 ∧ sumd d 32 + 1 ≤ k))) ?_ fu 32001 _ _ (by omega) ⟨_, hQ0, hB0, Or.inr ⟨rfl, by omega⟩⟩
    clear hQ0 hB0 hs0 hM hO
    rintro r k fl M ⟨d0, hQ, hB, hfl⟩ ih
    unfold f_X12_findSide_L75
    rcases hfl with ⟨rfl, hfl, _⟩ | ⟨rfl, hfl⟩
    · rw [if_pos rfl]
      exact tot_some ⟨fun x hx => ⟨d0 x, hQ.1 x hx, (hB.1 x hx).1, (hB.1 x hx).2, fun z k hz h => bf_done hB hfl hz k x h⟩, hQ.2⟩
    · rw [if_neg (by decide)]
      refine tot_lt (tot_lt (lw3 (fun k fl v M => ∃ s d, v = nI s ∧ s + k = m ∧ rwQ M0 M sd d ∧ bfI (EN m S T L w (L st) (L ot)) (fun z => z = 2 * T st) d ∧ bfQ m S T L w (L st) (L ot) true d0 d s 0 fl) ?_ fu m _ _ _ (by omega) ⟨0, d0, rfl, by omega, hQ, hB, bfQ_0⟩))
      clear hQ hB
      rintro r2 k2 fl v M ⟨s, d, rfl, hs, hQ, hB, hf⟩ ih2
      unfold f_X12_findSide_L86 f_X12_findSide_J197
      by_cases hsm : s = m
      · subst hsm
        rw [if_pos (nI_le (Nat.le_refl s) (by omega))]
        rcases hf with ⟨rfl, rfl, h3⟩ | ⟨rfl, h3⟩
        · refine ih (sumd d 32) _ _ (by omega) ⟨d, hQ, hB, Or.inl ⟨rfl, ?_, Nat.le_refl _⟩⟩
          rintro x y ⟨t, h4, j, h5, h6, rfl, rfl⟩
          have := h3 t j (Or.inl h4) h4 h5 h6
          rw [if_pos rfl] at this
          exact this
        · exact ih (sumd d 32 + 1) _ _ (by omega) ⟨d, hQ, hB, Or.inr ⟨rfl, Nat.le_refl _⟩⟩
      · rw [if_neg (nI_ge (a := s) (by omega) (by omega))]
        refine tot_lt (lw3 (fun k fl v M => ∃ i d, v = nI i ∧ i + k = 4 ∧ rwQ M0 M sd d ∧ bfI (EN m S T L w (L st) (L ot)) (fun z => z = 2 * T st) d ∧ bfQ m S T L w (L st) (L ot) true d0 d s i fl) ?_ fu 4 _ _ _ (by omega) ⟨0, d, rfl, by omega, hQ, hB, hf⟩)
        clear hQ hB hf
        rintro r3 k3 fl v M ⟨i, d, rfl, hi, hQ, hB, hf⟩ ih3
        unfold f_X12_findSide_L98 f_X12_findSide_J191 f_X12_findSide_J185
        rw [show (4 : Int32) = nI 4 from rfl]
        by_cases hi4 : i = 4
        · subst hi4
          rw [if_pos (nI_le (Nat.le_refl 4) (by decide))]
          refine tot_lt ?_
          rw [nI_1]
          exact ih2 (k2 - 1) _ _ _ (by omega) ⟨s + 1, d, rfl, by omega, hQ, hB, bfQ_next hf⟩
        · rw [if_neg (nI_ge (a := i) (by omega) (by omega))]
          have hS := hp.2.2 s (by omega)
          rw [k4b (show i < 2 ^ 31 by omega), k4a (show i < 2 ^ 31 by omega)]
          simp (disch := omega) only [ck_nI, nI_clamp, lt]
          rw [hc s (by omega), ht s (by omega), hld s i (by omega) (by omega)]
          simp (disch := omega) only [k2m, nI_add, ck_nI, nI_clamp, Option.bind_some, bI_if, nI_1]
          rw [hQ.1 (2 * T s + i % 2) (by omega), hQ.1 (2 * S s + i / 2) (by omega)]
          have b1 := (hB.1 (2 * T s + i % 2) (by omega)).1
          have b2 := (hB.1 (2 * S s + i / 2) (by omega)).1
          simp (disch := omega) only [nI_1, nI_leI]
          by_cases hle : d (2 * T s + i % 2) ≤ d (2 * S s + i / 2) + 1
          · rw [if_pos hle]
            exact ih3 (k3 - 1) _ _ _ (by omega) ⟨i + 1, d, rfl, by omega, hQ, hB, bfQ_ok hf (fun _ => by rw [if_pos rfl]; exact hle)⟩
          · rw [if_neg hle]
            by_cases hl2 : ld w (L st) (L ot) (L s) (i / 2) (i % 2) = true
            · rw [if_pos hl2]
              exact ih3 (k3 - 1) _ _ _ (by omega) ⟨i + 1, _, rfl, by omega, rwQ_up hQ _ _, bf_step hB ⟨s, by omega, i, by omega, hl2, rfl, rfl⟩ (by omega) (by omega) (by omega), bfQ_up hf (by omega) (by omega) s (i + 1)⟩
            · rw [if_neg hl2]
              exact ih3 (k3 - 1) _ _ _ (by omega) ⟨i + 1, d, rfl, by omega, hQ, hB, bfQ_ok hf (fun h => absurd h hl2)⟩
  · rw [if_neg (nI_ge (a := x) (by omega) (by omega))]
    simp (disch := omega) only [ck_nI, nI_clamp, lt, nI_1]
    refine ih (k - 1) _ _ (by omega) ⟨x + 1, rfl, by omega, fun y hy => ?_, fun a y ha => ?_⟩
    · rw [up2_e, if_pos rfl]
      by_cases hyx : y = x
      · rw [if_pos hyx]
        rfl
      · rw [if_neg hyx]
        exact hM y (by omega)
    · rw [up2_e, if_neg ha]
      exact hO a y ha
