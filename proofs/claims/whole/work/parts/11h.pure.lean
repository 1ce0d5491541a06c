/-! ===== cycles, longest paths ===== -/
def Cyc (E : Nat → Nat → Prop) (c : Nat) : Prop := ∃ l, 0 < l ∧ wk E l c c
theorem Cyc_long {E : Nat → Nat → Prop} {a c i k : Nat} (h1 : wk E i a c) (h2 : Cyc E c) : ∃ j, wk E k a j := by
  obtain ⟨l, hl, hc⟩ := h2
  have h3 : wk E (i + k * l) a c := wk_add _ _ _ _ h1 (wk_rep hc k)
  have h4 : i + k * l = k + (i + k * l - k) := by
    have : k * 1 ≤ k * l := Nat.mul_le_mul_left k hl
    omega
  rw [h4] at h3
  obtain ⟨j, h5, _⟩ := wk_split _ _ _ h3
  exact ⟨j, h5⟩
theorem long_Cyc {E : Nat → Nat → Prop} {n : Nat} (hE : ∀ a b, E a b → a < n ∧ b < n) {a j k : Nat} (ha : a < n) (hk : n ≤ k) (h : wk E k a j) : ∃ c, Rch E a c ∧ Cyc E c := by
  obtain ⟨i, l, c, hl, _, h1, h2, _⟩ := wk_twice hE ha hk h
  exact ⟨c, ⟨i, h1⟩, l, hl, h2⟩
theorem wk_pre {E : Nat → Nat → Prop} {a j k : Nat} (h : wk E k a j) {i : Nat} (hi : i ≤ k) : ∃ j, wk E i a j := by
  rw [show k = i + (k - i) by omega] at h
  obtain ⟨c, h1, _⟩ := wk_split _ _ _ h
  exact ⟨c, h1⟩
theorem x_longest (fu : Nat) (hfu : 32 < fu) {n m : Nat} {S T L : Nat → Nat} {ox sx : Int32} {lx cx tx : Nat → Int32} (hp : SyP n m S T L) (hx : Sy n m S T L ox sx lx cx tx) (set : Int32) {P : Nat → Prop} (hset : ∀ j, j < 32 → (bt set j = true ↔ P j)) :
    tot (f_X3_longestFrom fu ox sx lx cx tx set) (fun r => (r = -2 ∧ ∃ a j, P a ∧ wk (Es m S T) (n + 1) a j) ∨ (∃ i, i ≤ n ∧ r = nI i ∧ (∀ a j, P a → ¬ wk (Es m S T) (i + 1) a j) ∧ (i = 0 ∨ ∃ a j, P a ∧ wk (Es m S T) i a j))) := by
  have hn := hp.1
  have h0 := hx.1
  subst h0
  unfold f_X3_longestFrom
  refine tot_lt (tot_lt (lw2 (fun k v w => ∃ i, w = nI i ∧ i + k = n + 1 ∧ (∀ j, j < 32 → (bt v j = true ↔ ∃ a, P a ∧ wk (Es m S T) i a j)) ∧ (i = 0 ∨ ∃ a j, P a ∧ wk (Es m S T) i a j)) ?_ fu (n + 1) _ _ (by omega) ⟨0, rfl, by omega, fun j hj => ?_, Or.inl rfl⟩))
  · rintro r k v w ⟨i, rfl, hi, hv, hq⟩ ih
    unfold f_X3_longestFrom_L4
    by_cases hin : n < i
    · have : i = n + 1 := by omega
      subst this
      rw [if_pos (nI_lt hin (by omega))]
      refine tot_some (Or.inl ⟨rfl, ?_⟩)
      rcases hq with h | h
      · omega
      · exact h
    · rw [if_neg (nI_nlt (by omega) (by omega))]
      obtain ⟨sr, e5, e6⟩ := x_succ fu hfu hp hx v 255
      have e7 := x_ends hv (fun s hs => by have := hp.2.2 s hs; omega) e6
      have e8 : ∀ j, j < 32 → (bt sr j = true ↔ ∃ a, P a ∧ wk (Es m S T) (i + 1) a j) := fun j hj => by
        rw [e7 j hj, Ed_255 hp]
        constructor
        · rintro ⟨c, ⟨a, h1, h2⟩, h3⟩
          exact ⟨a, h1, c, h2, h3⟩
        · rintro ⟨a, h1, c, h2, h3⟩
          exact ⟨c, ⟨a, h1, h2⟩, h3⟩
      rw [e5]
      simp only [Option.bind_some, lt, nI_1]
      by_cases hz : sr = 0
      · rw [if_neg (fun h => h hz)]
        refine tot_some (Or.inr ⟨i, by omega, rfl, fun a j h1 h2 => ?_, hq⟩)
        obtain ⟨c, h3, h4⟩ := h2
        have hj := (Es_in hp c j h4).2
        have := (e8 j (by omega)).mpr ⟨a, h1, c, h3, h4⟩
        rw [hz, b_0] at this
        cases this
      · rw [if_pos hz]
        obtain ⟨l, g1, g2, _⟩ := b_least hz
        obtain ⟨a, h1, h2⟩ := (e8 l g1).mp g2
        exact ih (k - 1) _ _ (by omega) ⟨i + 1, rfl, by omega, e8, Or.inr ⟨a, l, h1, h2⟩⟩
  · rw [hset j hj]
    constructor
    · intro h
      exact ⟨j, h, rfl⟩
    · rintro ⟨a, h1, h2⟩
      have h2 : a = j := h2
      subst h2
      exact h1
theorem m_cycle (fu : Nat) (hfu : 32 < fu) {n m : Nat} {S T L : Nat → Nat} {om sm : Int32} {lm cm tm : Nat → Int32} (hp : SyP n m S T L) (hx : Sy n m S T L om sm lm cm tm) {D : Nat → Nat → Int32} (hD : DsP n m S T D) {o : Nat} (ho : o < n) :
    tot (f_X12_isOnCycle fu sm D cm tm (nI o)) (fun r => (r = 1 ∧ Cyc (Es m S T) o) ∨ (r = 0 ∧ ¬ Cyc (Es m S T) o)) := by
  have hn := hp.1
  have hm := hp.2.1
  obtain ⟨rfl, rfl, _, hc, ht⟩ := hx
  unfold f_X12_isOnCycle
  refine tot_lt (lw1 (fun k v => ∃ i, v = nI i ∧ i + k = m ∧ ∀ s, s < i → S s = o → ¬ Rch (Es m S T) (T s) o) ?_ fu m _ (by omega) ⟨0, rfl, by omega, fun s hs => absurd hs (Nat.not_lt_zero s)⟩)
  rintro r k v ⟨i, rfl, hi, hv⟩ ih
  unfold f_X12_isOnCycle_L2 f_X12_isOnCycle_J41
  by_cases him : i = m
  · subst him
    rw [if_pos (nI_le (Nat.le_refl i) (by omega))]
    refine tot_some (Or.inr ⟨rfl, ?_⟩)
    rintro ⟨l, hl, h⟩
    obtain ⟨l, rfl⟩ : ∃ q, l = q + 1 := ⟨l - 1, by omega⟩
    obtain ⟨c, ⟨s, h1, h2, rfl⟩, h4⟩ := wk_head _ _ _ h
    exact hv s h1 h2 ⟨l, h4⟩
  · rw [if_neg (nI_ge (a := i) (by omega) (by omega))]
    have hS := hp.2.2 i (by omega)
    have hfar := DsP_far hp hD hS.2.1 ho
    have skip : (S i = o → ¬ Rch (Es m S T) (T i) o) → tot (r (nI (i + 1))) (fun r => (r = 1 ∧ Cyc (Es m S T) o) ∨ (r = 0 ∧ ¬ Cyc (Es m S T) o)) := fun hno => by
      refine ih (k - 1) _ (by omega) ⟨i + 1, rfl, by omega, fun s hs => ?_⟩
      by_cases hsi : s = i
      · subst hsi
        exact hno
      · exact hv s (by omega)
    simp (disch := omega) only [ck_nI, nI_clamp, lt, nI_1]
    rw [hc i (by omega), ht i (by omega)]
    simp (disch := omega) only [nI_eq, ck_nI, nI_clamp]
    by_cases h : S i = o
    · rw [if_neg (fun h2 => h2 h)]
      by_cases h3 : (1000 : Int32) ≤ D (T i) o
      · rw [if_pos h3]
        exact skip (fun _ => hfar.mp h3)
      · rw [if_neg h3]
        have hr : Rch (Es m S T) (T i) o := Classical.byContradiction (fun hc => h3 (hfar.mpr hc))
        obtain ⟨l, hl⟩ := hr
        exact tot_some (Or.inl ⟨rfl, l + 1, by omega, wk_cons ⟨i, by omega, h, rfl⟩ hl⟩)
    · rw [if_pos h]
      exact skip (fun h2 => absurd h2 h)
theorem s_isTerminating (fu : Nat) (hfu : 32 < fu) {n m : Nat} {S T L : Nat → Nat} {ox sx om sm : Int32} {lx cx tx lm cm tm : Nat → Int32} (hp : SyP n m S T L) (hx : Sy n m S T L ox sx lx cx tx) (hm : Sy n m S T L om sm lm cm tm) (D : Nat → Nat → Int32) :
    ∃ (r : Int32) (D' : Nat → Nat → Int32), f_X11_isTerminating fu ox sx lx cx tx = some r ∧ f_X12_isTerminating fu om sm D cm tm = some (r, D') := by
  have hn := hp.1
  have h0 := hx.1
  have h1 := hm.1
  subst h0 h1
  have hX : tot (f_X11_isTerminating fu (nI n) sx lx cx tx) (fun r => (r = 0 ∧ ∃ c, c < n ∧ Cyc (Es m S T) c) ∨ (r = 1 ∧ ∀ c, c < n → ¬ Cyc (Es m S T) c)) := by
    unfold f_X11_isTerminating
    refine tot_lt ?_
    obtain ⟨r, e1, e2⟩ := x_longest fu hfu hp hx _ (P := fun j => j < n) (fun j hj => by rw [b_all n (by omega) j hj, decide_eq_true_iff])
    rw [e1]
    simp only [Option.bind_some]
    rcases e2 with ⟨rfl, a, j, h1, h2⟩ | ⟨i, h1, rfl, h2, _⟩
    · rw [if_neg (fun h => h rfl)]
      obtain ⟨c, h3, h4⟩ := long_Cyc (Es_in hp) h1 (by omega) h2
      obtain ⟨k, h5⟩ := h3
      exact tot_some (Or.inl ⟨rfl, c, wk_in (Es_in hp) h1 h5, h4⟩)
    · have hne : ¬ nI i = -2 := by
        intro hc
        have : (nI i).toInt = (-2 : Int32).toInt := by rw [hc]
        rw [nI_toInt (by omega)] at this
        have h22 : (-2 : Int32).toInt = -2 := by decide
        omega
      rw [if_pos hne]
      refine tot_some (Or.inr ⟨rfl, fun c hc h => ?_⟩)
      obtain ⟨j, hj⟩ := Cyc_long (k := i + 1) (show wk (Es m S T) 0 c c from rfl) h
      exact h2 c j hc hj
  have hM : tot (f_X12_isTerminating fu (nI n) sm D cm tm) (fun q => (q.1 = 0 ∧ ∃ c, c < n ∧ Cyc (Es m S T) c) ∨ (q.1 = 1 ∧ ∀ c, c < n → ¬ Cyc (Es m S T) c)) := by
    unfold f_X12_isTerminating
    obtain ⟨D', e3, e4⟩ := m_dist fu hfu hp hm D
    rw [e3]
    simp only [Option.bind_some]
    refine tot_lt (lw1 (fun k v => ∃ i, v = nI i ∧ i + k = n ∧ ∀ c, c < i → ¬ Cyc (Es m S T) c) ?_ fu n _ (by omega) ⟨0, rfl, by omega, fun s hs => absurd hs (Nat.not_lt_zero s)⟩)
    rintro r k v ⟨i, rfl, hi, hv⟩ ih
    unfold f_X12_isTerminating_L6
    by_cases hin : i = n
    · subst hin
      rw [if_pos (nI_le (Nat.le_refl i) (by omega))]
      exact tot_some (Or.inr ⟨rfl, hv⟩)
    · rw [if_neg (nI_ge (a := i) (by omega) (by omega))]
      obtain ⟨b, e5, e6⟩ := m_cycle fu hfu hp hm e4 (show i < n by omega)
      rw [e5]
      simp only [Option.bind_some, lt, nI_1]
      rcases e6 with ⟨rfl, h⟩ | ⟨rfl, h⟩
      · rw [if_neg (by decide)]
        exact tot_some (Or.inl ⟨rfl, i, by omega, h⟩)
      · rw [if_pos rfl]
        refine ih (k - 1) _ (by omega) ⟨i + 1, rfl, by omega, fun c hc => ?_⟩
        by_cases hci : c = i
        · subst hci
          exact h
        · exact hv c (by omega)
  obtain ⟨r, e1, e2⟩ := hX
  obtain ⟨⟨r2, D'⟩, e3, e4⟩ := hM
  have : r = r2 := by
    rcases e2 with ⟨h1, c, h2, h3⟩ | ⟨h1, h2⟩
    · rcases e4 with ⟨h4, _⟩ | ⟨h4, h5⟩
      · rw [h1]
        exact h4.symm
      · exact absurd h3 (h5 c h2)
    · rcases e4 with ⟨h4, c, h5, h6⟩ | ⟨h4, h5⟩
      · exact absurd h6 (h2 c h5)
      · rw [h1]
        exact h4.symm
  subst this
  exact ⟨_, _, e1, e3⟩
