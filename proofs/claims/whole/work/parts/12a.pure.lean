/-! ===== joinability, counterexamples ===== -/
theorem x_fill (fu : Nat) (hfu : 32 < fu) {n m : Nat} {S T L : Nat → Nat} {ox sx : Int32} {lx cx tx : Nat → Int32} (hp : SyP n m S T L) (hx : Sy n m S T L ox sx lx cx tx) (rows : Nat → Int32) :
    tot (f_X3_fillReach fu ox sx rows lx cx tx 16) (fun r => ∀ o, o < n → isRch n m S T o (r o)) := by
  have hn := hp.1
  have h0 := hx.1
  subst h0
  unfold f_X3_fillReach
  refine tot_lt (lw2 (fun k v r => ∃ i, v = nI i ∧ i + k = n ∧ ∀ o, o < i → isRch n m S T o (r o)) ?_ fu n _ _ (by omega) ⟨0, rfl, by omega, fun s hs => absurd hs (Nat.not_lt_zero s)⟩)
  rintro r k v rows ⟨i, rfl, hi, hv⟩ ih
  unfold f_X3_fillReach_L2
  by_cases hin : i = n
  · subst hin
    rw [if_pos (nI_le (Nat.le_refl i) (by omega))]
    exact tot_some hv
  · rw [if_neg (nI_ge (a := i) (by omega) (by omega)), show Int32.ofNat 16 = nI 16 from rfl, if_neg (nI_ge (a := i) (by omega) (by omega))]
    obtain ⟨q, e1, e2⟩ := x_reach fu hfu hp hx (show i < n by omega)
    rw [e1]
    simp (disch := omega) only [Option.bind_some, ck_nI, nI_clamp, lt, nI_1]
    refine ih (k - 1) _ _ (by omega) ⟨i + 1, rfl, by omega, fun o ho => ?_⟩
    rw [upd_e]
    by_cases h : o = i
    · rw [if_pos h, h]
      exact e2
    · rw [if_neg h]
      exact hv o (by omega)
def Jn (m : Nat) (S T : Nat → Nat) (b c : Nat) : Prop := ∃ j, Rch (Es m S T) b j ∧ Rch (Es m S T) c j
theorem isRch_and {n m : Nat} {S T L : Nat → Nat} (hp : SyP n m S T L) {b c : Nat} (hb : b < n) {x y : Int32} (hx : isRch n m S T b x) (hy : isRch n m S T c y) : x &&& y = 0 ↔ ¬ Jn m S T b c := by
  have hn := hp.1
  rw [b_zero]
  constructor
  · rintro h ⟨j, ⟨k, h1⟩, h2⟩
    have hj : j < n := wk_in (Es_in hp) hb h1
    have := h j (by omega)
    rw [b_and, (hx j (by omega)).mpr ⟨k, h1⟩, (hy j (by omega)).mpr h2] at this
    cases this
  · intro h i hi
    rw [b_and]
    cases h1 : bt x i with
    | false => rfl
    | true =>
      cases h2 : bt y i with
      | false => rfl
      | true => exact absurd ⟨i, (hx i hi).mp h1, (hy i hi).mp h2⟩ h
theorem m_join (fu : Nat) (hfu : 32 < fu) {n m : Nat} {S T L : Nat → Nat} {om sm : Int32} {lm cm tm : Nat → Int32} (hp : SyP n m S T L) (hx : Sy n m S T L om sm lm cm tm) {D : Nat → Nat → Int32} (hD : DsP n m S T D) {b c : Nat} (hb : b < n) (hc : c < n) :
    tot (f_X12_areJoinable fu om D (nI b) (nI c)) (fun r => (r = 1 ∧ Jn m S T b c) ∨ (r = 0 ∧ ¬ Jn m S T b c)) := by
  unfold f_X12_areJoinable
  obtain ⟨r, e1, e2⟩ := m_reach fu hfu hp hx hD hb
  obtain ⟨r2, e3, e4⟩ := m_reach fu hfu hp hx hD hc
  rw [e1, e3]
  simp only [Option.bind_some]
  have := isRch_and hp hb e2 e4
  by_cases h : r &&& r2 = 0
  · rw [if_pos h]
    exact tot_some (Or.inr ⟨rfl, this.mp h⟩)
  · rw [if_neg h]
    exact tot_some (Or.inl ⟨rfl, Classical.byContradiction (fun hc => h (this.mpr hc))⟩)
def Bad (n m : Nat) (S T : Nat → Nat) (a b c : Nat) : Prop := b < c ∧ c < n ∧ Rch (Es m S T) a b ∧ Rch (Es m S T) a c ∧ ¬ Jn m S T b c
def upS (n m : Nat) (S T : Nat → Nat) (a : Nat) (r : Int32) : Prop := (r = -2 ∧ ∀ b c, ¬ Bad n m S T a b c) ∨ ∃ b c, Bad n m S T a b c ∧ r = nI (16 * b + c) ∧ (∀ b' c, b' < b → ¬ Bad n m S T a b' c) ∧ (∀ c', c' < c → ¬ Bad n m S T a b c')
def ceS (n m : Nat) (S T : Nat → Nat) (r : Int32) : Prop := (r = -2 ∧ ∀ a b c, a < n → ¬ Bad n m S T a b c) ∨ ∃ a b c, a < n ∧ Bad n m S T a b c ∧ r = nI (256 * a + 16 * b + c) ∧ (∀ a' b c, a' < a → ¬ Bad n m S T a' b c) ∧ (∀ b' c, b' < b → ¬ Bad n m S T a b' c) ∧ (∀ c', c' < c → ¬ Bad n m S T a b c')
theorem ceS_eq {n m : Nat} {S T : Nat → Nat} {r r2 : Int32} (h1 : ceS n m S T r) (h2 : ceS n m S T r2) : r = r2 := by
  rcases h1 with ⟨a1, a2⟩ | ⟨a, b, c, a0, a1, a2, a3, a4, a5⟩
  · rcases h2 with ⟨b1, b2⟩ | ⟨a', b', c', b0, b1, b2, b3, b4, b5⟩
    · rw [a1, b1]
    · exact absurd b1 (a2 _ _ _ b0)
  · rcases h2 with ⟨b1, b2⟩ | ⟨a', b', c', b0, b1, b2, b3, b4, b5⟩
    · exact absurd a1 (b2 _ _ _ a0)
    · have h1 : a = a' := by
        rcases Nat.lt_trichotomy a a' with h | h | h
        · exact absurd a1 (b3 a b c h)
        · exact h
        · exact absurd b1 (a3 a' b' c' h)
      subst h1
      have h2 : b = b' := by
        rcases Nat.lt_trichotomy b b' with h | h | h
        · exact absurd a1 (b4 b c h)
        · exact h
        · exact absurd b1 (a4 b' c' h)
      subst h2
      have h3 : c = c' := by
        rcases Nat.lt_trichotomy c c' with h | h | h
        · exact absurd a1 (b5 c h)
        · exact h
        · exact absurd b1 (a5 c' h)
      subst h3
      rw [a2, b2]
theorem nI_ne2 {i : Nat} (hi : i < 2 ^ 31) : ¬ nI i = -2 := by
  intro hc
  have : (nI i).toInt = (-2 : Int32).toInt := by rw [hc]
  rw [nI_toInt hi] at this
  have h22 : (-2 : Int32).toInt = -2 := by decide
  omega
theorem x_unjoin (fu : Nat) (hfu : 32 < fu) {n m : Nat} {S T L : Nat → Nat} (hp : SyP n m S T L) {reach : Nat → Int32} (hr : ∀ o, o < n → isRch n m S T o (reach o)) {a : Nat} (ha : a < n) :
    tot (f_X11_unjoinablePair fu (nI n) reach (reach a)) (upS n m S T a) := by
  have hn := hp.1
  unfold f_X11_unjoinablePair
  refine tot_lt (lw1 (fun k v => ∃ b, v = nI b ∧ b + k = n ∧ ∀ b' c, b' < b → ¬ Bad n m S T a b' c) ?_ fu n _ (by omega) ⟨0, rfl, by omega, fun b' c h => absurd h (Nat.not_lt_zero b')⟩)
  rintro r k v ⟨b, rfl, hb, hv⟩ ih
  unfold f_X11_unjoinablePair_L2
  by_cases hbn : b = n
  · subst hbn
    rw [if_pos (nI_le (Nat.le_refl b) (by omega))]
    refine tot_some (Or.inl ⟨rfl, fun b' c h => hv b' c ?_ h⟩)
    have := h.1
    have := h.2.1
    omega
  · rw [if_neg (nI_ge (a := b) (by omega) (by omega)), nI_1]
    refine tot_lt (lw1 (fun k v => ∃ c, v = nI c ∧ c + k = n ∧ b < c ∧ ∀ c', c' < c → ¬ Bad n m S T a b c') ?_ fu (n - (b + 1)) _ (by omega) ⟨b + 1, rfl, by omega, by omega, fun c' h h2 => by have := h2.1; omega⟩)
    rintro r2 k2 v ⟨c, rfl, hc, hbc, hw⟩ ih2
    unfold f_X11_unjoinablePair_L17 f_X11_unjoinablePair_J73 f_X11_unjoinablePair_J67 f_X11_unjoinablePair_J60
    by_cases hcn : c = n
    · subst hcn
      rw [if_pos (nI_le (Nat.le_refl c) (by omega))]
      refine tot_lt ?_
      rw [nI_1]
      refine ih (k - 1) _ (by omega) ⟨b + 1, rfl, by omega, fun b' c' h h2 => ?_⟩
      by_cases hbb : b' = b
      · subst hbb
        exact hw c' h2.2.1 h2
      · exact hv b' c' (by omega) h2
    · rw [if_neg (nI_ge (a := c) (by omega) (by omega)), isIn_e _ (show b < 32 by omega)]
      simp only [Option.bind_some]
      rw [isIn_e _ (show c < 32 by omega)]
      simp (disch := omega) only [Option.bind_some, bI_if, ck_nI, nI_clamp, lt, nI_1]
      have skip : ¬ Bad n m S T a b c → tot (r2 (nI (c + 1))) (upS n m S T a) := fun hno => by
        refine ih2 (k2 - 1) _ (by omega) ⟨c + 1, rfl, by omega, by omega, fun c' h => ?_⟩
        by_cases hcc : c' = c
        · subst hcc
          exact hno
        · exact hw c' (by omega)
      have f1 := hr a ha b (by omega)
      have f2 := hr a ha c (by omega)
      have f3 := isRch_and hp (show b < n by omega) (hr b (by omega)) (hr c (by omega))
      by_cases h1 : bt (reach a) b = true
      · rw [if_pos h1]
        by_cases h2 : bt (reach a) c = true
        · rw [if_pos h2]
          by_cases h3 : reach b &&& reach c = 0
          · rw [if_neg (fun h => h h3), show (16 : Int32) = nI 16 from rfl, pk_mul, nI_add]
            exact tot_some (Or.inr ⟨b, c, ⟨hbc, by omega, f1.mp h1, f2.mp h2, f3.mp h3⟩, rfl, hv, hw⟩)
          · rw [if_pos h3]
            exact skip (fun h => h3 (f3.mpr h.2.2.2.2))
        · rw [if_neg h2]
          exact skip (fun h => h2 (f2.mpr h.2.2.2.1))
      · rw [if_neg h1]
        exact skip (fun h => h1 (f1.mpr h.2.2.1))
