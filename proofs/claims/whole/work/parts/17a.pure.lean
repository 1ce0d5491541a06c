/-! ===== the three arrays ===== -/
def szI : Option Nat → Int32
  | none => -1
  | some k => nI k
def inO (v : Int32) : Option Nat → Bool
  | none => false
  | some k => inN v k
def ArR (K : Nat → Option Nat) (sx : Nat → Int32) (vx : Nat → Nat → Int64) (sm : Nat → Int32) (vm : Nat → Nat → Int64) : Prop := ∀ i, i < 3 → sx i = szI (K i) ∧ sm i = szI (K i) ∧ ∀ k, K i = some k → k ≤ 16 ∧ ∀ j, j < k → vx i j = vm i j
theorem arr_x (v : Int32) : f_X11_isArray v = some (bI (inN v 3)) := by
  unfold f_X11_isArray
  rw [show (3 : Int32) = nI 3 from rfl, inN_if]
  cases inN v 3 <;> rfl
theorem arr_m (v : Int32) : f_X12_isArray v = some (bI (inN v 3)) := by
  unfold f_X12_isArray
  rw [show (2 : Int32) = nI 3 - 1 from by decide, btw_e (by decide)]
  exact bI_ckb
theorem btw_sz {K : Option Nat} (hK : ∀ k, K = some k → k ≤ 16) (v : Int32) : f_X12_isBetween v 0 (szI K - 1) = some (bI (inO v K)) := by
  cases K with
  | none =>
    unfold f_X12_isBetween
    by_cases h1 : v < 0
    · rw [if_pos h1]
      rfl
    · rw [if_neg h1, if_pos]
      · rfl
      · show (-1 - 1 : Int32) < v
        rw [Int32.lt_iff_toInt_lt] at h1 ⊢
        have h2 : (-1 - 1 : Int32).toInt = -2 := by decide
        have h3 : (0 : Int32).toInt = 0 := by decide
        omega
  | some k =>
    have := hK k rfl
    exact btw_e (by omega) v
theorem has_sz {K : Nat → Option Nat} {sx : Nat → Int32} {a : Nat} (ha : a < 3) (hs : sx a = szI (K a)) (hK : ∀ k, K a = some k → k ≤ 16) (v : Int32) : f_X5_hasElement sx (nI a) v = some (bI (inO v (K a))) := by
  unfold f_X5_hasElement
  simp (disch := omega) only [ck_nI, nI_clamp, hs]
  cases hk : K a with
  | none =>
    by_cases h1 : v < 0
    · rw [if_pos h1]
      rfl
    · rw [if_neg h1, if_pos]
      · rfl
      · show (-1 : Int32) ≤ v
        rw [Int32.lt_iff_toInt_lt] at h1
        rw [Int32.le_iff_toInt_le]
        have h2 : (-1 : Int32).toInt = -1 := by decide
        have h3 : (0 : Int32).toInt = 0 := by decide
        omega
  | some k =>
    show (if v < 0 then some 0 else (if nI k ≤ v then some 0 else some 1)) = some (bI (inN v k))
    rw [inN_if]
    cases inN v k <;> rfl
theorem szI_m1 {K : Option Nat} (hK : ∀ k, K = some k → k ≤ 16) : szI K = -1 ↔ K = none := by
  cases K with
  | none => exact ⟨fun _ => rfl, fun _ => rfl⟩
  | some k =>
    have h16 := hK k rfl
    refine ⟨fun h => ?_, fun h => by cases h⟩
    have h : nI k = -1 := h
    have : (nI k).toInt = (-1 : Int32).toInt := by rw [h]
    rw [nI_toInt (by omega)] at this
    have h22 : (-1 : Int32).toInt = -1 := by decide
    omega
theorem szI_0 {K : Option Nat} (hK : ∀ k, K = some k → k ≤ 16) : (0 : Int32) ≤ szI K ↔ ¬ K = none := by
  cases K with
  | none => exact ⟨fun h => absurd h (by decide), fun h => absurd rfl h⟩
  | some k =>
    have h16 := hK k rfl
    exact ⟨fun _ h => (by cases h), fun _ => nI_pos' (by omega)⟩
theorem s_element {K : Nat → Option Nat} {sx sm : Nat → Int32} {vx vm : Nat → Nat → Int64} (h : ArR K sx vx sm vm) (v1 v2 : Int32) : ∃ r, f_X11_element sx vx v1 v2 = some r ∧ f_X12_element vm sm v1 v2 = some r := by
  unfold f_X11_element f_X12_element
  rw [arr_x, arr_m]
  simp only [Option.bind_some, bI_if]
  cases h1 : inN v1 3 with
  | false => exact ⟨_, rfl, rfl⟩
  | true =>
    obtain ⟨a, ha, rfl⟩ := inN_of (by decide) h1
    obtain ⟨g1, g2, g3⟩ := h a ha
    rw [has_sz ha g1 (fun k hk => (g3 k hk).1)]
    simp (disch := omega) only [↓reduceIte, ck_nI, nI_clamp, g2, btw_sz (fun k hk => (g3 k hk).1), Option.bind_some, bI_if, bI_ifn]
    cases h2 : inO v2 (K a) with
    | false => exact ⟨_, rfl, rfl⟩
    | true =>
      cases hk : K a with
      | none =>
        rw [hk] at h2
        cases h2
      | some k =>
        rw [hk] at h2
        obtain ⟨g4, g5⟩ := g3 k hk
        obtain ⟨j, hj, rfl⟩ := inN_of (by omega) h2
        simp (disch := omega) only [↓reduceIte, ck_nI, nI_clamp, g5 j hj]
        exact ⟨_, rfl, rfl⟩
theorem s_setElement {K : Nat → Option Nat} {sx sm : Nat → Int32} {vx vm : Nat → Nat → Int64} (h : ArR K sx vx sm vm) (v1 v2 : Int32) (v3 : Int64) : ∃ r vx' vm', f_X11_setElement sx vx v1 v2 v3 = some (r, vx') ∧ f_X12_setElement vm sm v1 v2 v3 = some (r, vm') ∧ ArR K sx vx' sm vm' := by
  unfold f_X11_setElement f_X12_setElement
  rw [arr_x, arr_m]
  simp only [Option.bind_some, bI_ifn]
  cases h1 : inN v1 3 with
  | false => exact ⟨_, _, _, rfl, rfl, h⟩
  | true =>
    obtain ⟨a, ha, rfl⟩ := inN_of (by decide) h1
    obtain ⟨g1, g2, g3⟩ := h a ha
    rw [has_sz ha g1 (fun k hk => (g3 k hk).1)]
    unfold f_X5_isMissing
    simp (disch := omega) only [↓reduceIte, ck_nI, nI_clamp, g1, g2, btw_sz (fun k hk => (g3 k hk).1), Option.bind_some, bI_if, bI_ifn, szI_m1 (fun k hk => (g3 k hk).1), szI_0 (fun k hk => (g3 k hk).1)]
    by_cases hk0 : K a = none
    · simp only [hk0, not_true_eq_false, ↓reduceIte]
      exact ⟨_, _, _, rfl, rfl, h⟩
    · simp only [hk0, not_false_eq_true, ↓reduceIte, Option.bind_some]
      cases h2 : inO v2 (K a) with
      | false => exact ⟨_, _, _, rfl, rfl, h⟩
      | true =>
        cases hk : K a with
        | none =>
          rw [hk] at h2
          cases h2
        | some k =>
          rw [hk] at h2
          obtain ⟨g4, g5⟩ := g3 k hk
          obtain ⟨j, hj, rfl⟩ := inN_of (by omega) h2
          simp (disch := omega) only [↓reduceIte, ck_nI, nI_clamp, lt]
          refine ⟨_, _, _, rfl, rfl, fun i hi => ⟨(h i hi).1, (h i hi).2.1, fun k' hk' => ⟨((h i hi).2.2 k' hk').1, fun j' hj' => ?_⟩⟩⟩
          rw [up2_e, up2_e]
          by_cases hia : i = a
          · rw [if_pos hia, if_pos hia]
            by_cases hjj : j' = j
            · rw [if_pos hjj, if_pos hjj]
            · rw [if_neg hjj, if_neg hjj]
              exact ((h i hi).2.2 k' hk').2 j' hj'
          · rw [if_neg hia, if_neg hia]
            exact ((h i hi).2.2 k' hk').2 j' hj'
theorem x_fillL (fu : Nat) {N : Nat} (hfu : N < fu) (hN : N < 2 ^ 31) (f : Nat → Int64) (x : Int64) : tot (f_J7_fill_d0a16 fu f N x) (fun o => ∀ b, b < N → o b = x) := by
  unfold f_J7_fill_d0a16
  refine tot_lt (tot_lt (lw2 (fun k v f => ∃ i, v = nI i ∧ i + k = N ∧ ∀ b, b < i → f b = x) ?_ fu N _ _ hfu ⟨0, rfl, by omega, fun b hb => absurd hb (Nat.not_lt_zero b)⟩))
  rintro r k v f ⟨i, rfl, hi, hf⟩ ih
  unfold f_J7_fill_d0a16_L6
  rw [show Int32.ofNat N = nI N from rfl]
  by_cases hin : i = N
  · subst hin
    rw [if_pos (nI_le (Nat.le_refl i) (by omega))]
    exact tot_some hf
  · rw [if_neg (nI_ge (a := i) (by omega) (by omega))]
    simp (disch := omega) only [ck_nI, nI_clamp, lt, nI_1]
    refine ih (k - 1) _ _ (by omega) ⟨i + 1, rfl, by omega, fun b hb => ?_⟩
    show (if b = i then x else f b) = x
    by_cases hbi : b = i
    · rw [if_pos hbi]
    · rw [if_neg hbi]
      exact hf b (by omega)
theorem x_renew (fu : Nat) (hfu : 16 < fu) {a k : Nat} (ha : a < 3) (sx : Nat → Int32) (vx : Nat → Nat → Int64) : ∃ row : Nat → Int64, f_X5_renew fu sx vx (nI a) (nI k) = some (upd sx a (nI k), va_up vx a row) ∧ ∀ j, j < 16 → row j = 0 := by
  unfold f_X5_renew
  simp (disch := omega) only [ck_nI, nI_clamp, lt]
  obtain ⟨row, e1, e2⟩ := x_fillL fu (N := 16) hfu (by decide) (vx a) 0
  rw [e1]
  exact ⟨row, rfl, e2⟩
theorem va_up_e {α : Type} (f : Nat → α) (k j : Nat) (v : α) : va_up f k v j = if j = k then v else f j := rfl
theorem s_newArray (fu : Nat) (hfu : 32 < fu) {K : Nat → Option Nat} {sx sm : Nat → Int32} {vx vm : Nat → Nat → Int64} (h : ArR K sx vx sm vm) (v1 v2 : Int32) : ∃ r sx' vx' sm' vm' K', f_X11_newArray fu sx vx v1 v2 = some (r, sx', vx') ∧ f_X12_newArray fu vm sm v1 v2 = some (r, vm', sm') ∧ ArR K' sx' vx' sm' vm' := by
  unfold f_X11_newArray f_X12_newArray
  rw [arr_x, arr_m]
  simp only [Option.bind_some, bI_if]
  cases h1 : inN v1 3 with
  | false => exact ⟨_, _, _, _, _, K, rfl, rfl, h⟩
  | true =>
    simp only [↓reduceIte]
    obtain ⟨a, ha, rfl⟩ := inN_of (by decide) h1
    by_cases h16 : v2 ≤ 16
    · rw [if_pos h16, if_pos h16]
      by_cases h0 : (0 : Int32) ≤ v2
      · rw [if_pos h0, if_pos h0]
        obtain ⟨k, hk, rfl⟩ := nI_of2 (x := v2) (M := 16) (n := 16) (by decide) (Int32.not_lt.mpr h0) h16
        obtain ⟨row, e1, e2⟩ := x_renew fu (by omega) (k := k) ha sx vx
        rw [e1]
        simp (disch := omega) only [Option.bind_some, ck_nI, nI_clamp, lt]
        have hM : tot (lp (τ := Int32 → (Nat → Nat → Int64) → Option (Int32 × (Nat → Nat → Int64) × (Nat → Int32))) (fun _ _ => none) (f_X12_newArray_L31 (upd sm a (nI k)) (nI a) (nI k)) fu 0 vm) (fun q => q.1 = 1 ∧ q.2.2 = upd sm a (nI k) ∧ (∀ i j, i ≠ a → q.2.1 i j = vm i j) ∧ ∀ j, j < k → q.2.1 a j = 0) := by
          refine lw2 (fun t v M => ∃ i, v = nI i ∧ i + t = k ∧ (∀ b j, b ≠ a → M b j = vm b j) ∧ ∀ j, j < i → M a j = 0) ?_ fu k _ _ (by omega) ⟨0, rfl, by omega, fun b j _ => rfl, fun j hj => absurd hj (Nat.not_lt_zero j)⟩
          rintro r t v M ⟨i, rfl, hi, hM1, hM2⟩ ih
          unfold f_X12_newArray_L31
          by_cases hik : i = k
          · subst hik
            rw [if_pos (nI_le (Nat.le_refl i) (by omega))]
            exact tot_some ⟨rfl, rfl, hM1, hM2⟩
          · rw [if_neg (nI_ge (a := i) (by omega) (by omega))]
            simp (disch := omega) only [ck_nI, nI_clamp, lt, nI_1]
            refine ih (t - 1) _ _ (by omega) ⟨i + 1, rfl, by omega, fun b j hb => ?_, fun j hj => ?_⟩
            · rw [up2_e, if_neg hb]
              exact hM1 b j hb
            · rw [up2_e, if_pos rfl]
              by_cases hji : j = i
              · rw [if_pos hji]
              · rw [if_neg hji]
                exact hM2 j (by omega)
        obtain ⟨⟨r, M, s⟩, f1, f2, f3, f4, f5⟩ := hM
        have f2 : r = 1 := f2
        have f3 : s = upd sm a (nI k) := f3
        subst f2 f3
        refine ⟨1, _, _, _, M, put1 K a (some k), rfl, f1, fun i hi => ?_⟩
        rw [upd_e, upd_e]
        unfold put1
        by_cases hia : i = a
        · rw [if_pos hia, if_pos hia, if_pos hia]
          refine ⟨rfl, rfl, fun k' hk' => ?_⟩
          cases hk'
          refine ⟨hk, fun j hj => ?_⟩
          rw [va_up_e, if_pos hia, e2 j (by omega), hia]
          exact (f5 j hj).symm
        · rw [if_neg hia, if_neg hia, if_neg hia]
          refine ⟨(h i hi).1, (h i hi).2.1, fun k' hk' => ⟨((h i hi).2.2 k' hk').1, fun j hj => ?_⟩⟩
          rw [va_up_e, if_neg hia]
          show _ = M i j
          rw [show M i j = vm i j from f4 i j hia]
          exact ((h i hi).2.2 k' hk').2 j hj
      · rw [if_neg h0, if_neg h0]
        exact ⟨_, _, _, _, _, K, rfl, rfl, h⟩
    · rw [if_neg h16, if_neg h16]
      exact ⟨_, _, _, _, _, K, rfl, rfl, h⟩
