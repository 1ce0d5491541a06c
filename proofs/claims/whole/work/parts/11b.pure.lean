/-! ===== walks ===== -/
def wk (E : Nat → Nat → Prop) : Nat → Nat → Nat → Prop
  | 0, a, b => a = b
  | k + 1, a, b => ∃ c, wk E k a c ∧ E c b
theorem wk_add {E : Nat → Nat → Prop} {i : Nat} : ∀ (j a b c : Nat), wk E i a b → wk E j b c → wk E (i + j) a c := by
  intro j
  induction j with
  | zero =>
    intro a b c h1 h2
    have h2 : b = c := h2
    subst h2
    exact h1
  | succ j ih =>
    intro a b c h1 ⟨d, h2, h3⟩
    exact ⟨d, ih a b d h1 h2, h3⟩
theorem wk_1 {E : Nat → Nat → Prop} {a b : Nat} (h : E a b) : wk E 1 a b := ⟨a, rfl, h⟩
theorem wk_head {E : Nat → Nat → Prop} : ∀ (k a b : Nat), wk E (k + 1) a b → ∃ c, E a c ∧ wk E k c b := by
  intro k
  induction k with
  | zero =>
    intro a b ⟨c, h1, h2⟩
    have h1 : a = c := h1
    subst h1
    exact ⟨b, h2, rfl⟩
  | succ k ih =>
    intro a b ⟨c, h1, h2⟩
    obtain ⟨d, h3, h4⟩ := ih a c h1
    exact ⟨d, h3, c, h4, h2⟩
theorem wk_cons {E : Nat → Nat → Prop} {k a c b : Nat} (h : E a c) (h2 : wk E k c b) : wk E (k + 1) a b := by
  have := wk_add k a c b (wk_1 h) h2
  rw [Nat.add_comm] at this
  exact this
theorem wk_split {E : Nat → Nat → Prop} {i : Nat} : ∀ (j a b : Nat), wk E (i + j) a b → ∃ c, wk E i a c ∧ wk E j c b := by
  intro j
  induction j with
  | zero =>
    intro a b h
    exact ⟨b, h, rfl⟩
  | succ j ih =>
    intro a b ⟨d, h1, h2⟩
    obtain ⟨c, h3, h4⟩ := ih a d h1
    exact ⟨c, h3, d, h4, h2⟩
theorem wk_in {E : Nat → Nat → Prop} {n : Nat} (hE : ∀ a b, E a b → a < n ∧ b < n) {k a b : Nat} (ha : a < n) (h : wk E k a b) : b < n := by
  cases k with
  | zero =>
    have h : a = b := h
    omega
  | succ k =>
    obtain ⟨c, _, h2⟩ := h
    exact (hE c b h2).2
theorem wk_fun {E : Nat → Nat → Prop} : ∀ (k a b : Nat), wk E k a b → ∃ f : Nat → Nat, f 0 = a ∧ f k = b ∧ ∀ i, i < k → E (f i) (f (i + 1)) := by
  intro k
  induction k with
  | zero =>
    intro a b h
    exact ⟨fun _ => a, rfl, h, fun i hi => absurd hi (Nat.not_lt_zero i)⟩
  | succ k ih =>
    intro a b ⟨c, h1, h2⟩
    obtain ⟨f, e1, e2, e3⟩ := ih a c h1
    refine ⟨fun i => if i ≤ k then f i else b, by simp [e1], if_neg (by omega), fun i hi => ?_⟩
    by_cases h : i = k
    · subst h
      simp only [Nat.le_refl, ↓reduceIte]
      rw [if_neg (by omega), e2]
      exact h2
    · have h3 : i ≤ k := by omega
      have h4 : i + 1 ≤ k := by omega
      simp only [h3, h4, ↓reduceIte]
      exact e3 i (by omega)
theorem wk_of {E : Nat → Nat → Prop} {f : Nat → Nat} {k : Nat} (h : ∀ i, i < k → E (f i) (f (i + 1))) : ∀ (d i : Nat), i + d ≤ k → wk E d (f i) (f (i + d)) := by
  intro d
  induction d with
  | zero => intro i _; rfl
  | succ d ih =>
    intro i hi
    exact ⟨f (i + d), ih i (by omega), h (i + d) (by omega)⟩
theorem pig {f : Nat → Nat} {n k : Nat} (hf : ∀ i, i ≤ k → f i < n) (hk : n ≤ k) : ∃ i j, i < j ∧ j ≤ k ∧ f i = f j := by
  refine Classical.byContradiction (fun hc => ?_)
  have hn : ((List.range (k + 1)).map f).Nodup := by
    unfold List.Nodup
    rw [List.pairwise_map]
    refine List.Pairwise.imp_of_mem ?_ (List.pairwise_lt_range (n := k + 1))
    intro a b ha hb hab he
    rw [List.mem_range] at ha hb
    exact hc ⟨a, b, hab, by omega, he⟩
  have hs : ∀ x, x ∈ (List.range (k + 1)).map f → x ∈ List.range n := by
    intro x hx
    rw [List.mem_map] at hx
    obtain ⟨i, hi, rfl⟩ := hx
    rw [List.mem_range] at hi ⊢
    exact hf i (by omega)
  have := List.Nodup.length_le_of_subset hn hs
  rw [List.length_map, List.length_range, List.length_range] at this
  omega
/-- a long walk meets an object twice -/
theorem wk_twice {E : Nat → Nat → Prop} {n : Nat} (hE : ∀ a b, E a b → a < n ∧ b < n) {k a b : Nat} (ha : a < n) (hk : n ≤ k) (h : wk E k a b) : ∃ i l c, 0 < l ∧ i + l ≤ k ∧ wk E i a c ∧ wk E l c c ∧ wk E (k - l - i) c b := by
  obtain ⟨f, e1, e2, e3⟩ := wk_fun k a b h
  have hf : ∀ i, i ≤ k → f i < n := by
    intro i hi
    cases i with
    | zero => omega
    | succ i => exact (hE _ _ (e3 i (by omega))).2
  obtain ⟨i, j, hij, hj, he⟩ := pig hf hk
  refine ⟨i, j - i, f i, by omega, by omega, ?_, ?_, ?_⟩
  · have := wk_of e3 i 0 (by omega)
    rw [Nat.zero_add, e1] at this
    exact this
  · have := wk_of e3 (j - i) i (by omega)
    rw [show i + (j - i) = j by omega, ← he] at this
    exact this
  · have := wk_of e3 (k - j) j (by omega)
    rw [show j + (k - j) = k by omega, ← he, e2] at this
    rw [show k - (j - i) - i = k - j by omega]
    exact this
theorem wk_short {E : Nat → Nat → Prop} {n : Nat} (hE : ∀ a b, E a b → a < n ∧ b < n) {a b : Nat} (ha : a < n) : ∀ k, wk E k a b → ∃ j, j < n ∧ j ≤ k ∧ wk E j a b := by
  intro k
  induction k using Nat.strongRecOn with
  | ind k ih =>
    intro h
    by_cases hk : k < n
    · exact ⟨k, hk, Nat.le_refl k, h⟩
    · obtain ⟨i, l, c, hl, hil, h1, h2, h3⟩ := wk_twice hE ha (by omega) h
      obtain ⟨j, h4, h5, h6⟩ := ih (i + (k - l - i)) (by omega) (wk_add _ _ _ _ h1 h3)
      exact ⟨j, h4, by omega, h6⟩
theorem wk_mono {E F : Nat → Nat → Prop} (h : ∀ a b, E a b → F a b) : ∀ (k a b : Nat), wk E k a b → wk F k a b := by
  intro k
  induction k with
  | zero => intro a b h; exact h
  | succ k ih =>
    intro a b ⟨c, h1, h2⟩
    exact ⟨c, ih a c h1, h c b h2⟩
theorem wk_rep {E : Nat → Nat → Prop} {l c : Nat} (h : wk E l c c) : ∀ q, wk E (q * l) c c := by
  intro q
  induction q with
  | zero => rw [Nat.zero_mul]; rfl
  | succ q ih =>
    rw [Nat.succ_mul]
    exact wk_add _ _ _ _ ih h
def Rch (E : Nat → Nat → Prop) (a b : Nat) : Prop := ∃ k, wk E k a b
/-! ===== Floyd and Warshall ===== -/
def fw (D : Nat → Nat → Nat) : Nat → Nat → Nat → Nat
  | 0, a, b => D a b
  | k + 1, a, b => if fw D k a k + fw D k k b < fw D k a b then fw D k a k + fw D k k b else fw D k a b
theorem fw_s (D : Nat → Nat → Nat) (k a b : Nat) : fw D (k + 1) a b = if fw D k a k + fw D k k b < fw D k a b then fw D k a k + fw D k k b else fw D k a b := rfl
theorem fw_dec (D : Nat → Nat → Nat) (k a b : Nat) : fw D (k + 1) a b ≤ fw D k a b ∧ fw D (k + 1) a b ≤ fw D k a k + fw D k k b := by
  rw [fw_s]
  split <;> omega
theorem fw_le (D : Nat → Nat → Nat) (a b : Nat) : ∀ k, fw D k a b ≤ D a b := by
  intro k
  induction k with
  | zero => exact Nat.le_refl _
  | succ k ih => exact Nat.le_trans (fw_dec D k a b).1 ih
theorem fw_self {D : Nat → Nat → Nat} (h : ∀ a, D a a = 0) (a k : Nat) : fw D k a a = 0 := by
  have := fw_le D a a k
  rw [h a] at this
  omega
theorem fw_ik {D : Nat → Nat → Nat} (h : ∀ a, D a a = 0) (k a : Nat) : fw D (k + 1) a k = fw D k a k := by
  rw [fw_s, fw_self h]
  simp
theorem fw_kj {D : Nat → Nat → Nat} (h : ∀ a, D a a = 0) (k b : Nat) : fw D (k + 1) k b = fw D k k b := by
  rw [fw_s, fw_self h]
  simp
theorem fw_cases (D : Nat → Nat → Nat) (k a b : Nat) : fw D (k + 1) a b = fw D k a b ∨ fw D (k + 1) a b = fw D k a k + fw D k k b := by
  rw [fw_s]
  split
  · exact Or.inr rfl
  · exact Or.inl rfl
theorem fw_sound {E : Nat → Nat → Prop} {D : Nat → Nat → Nat} {c : Nat} (h : ∀ a b, D a b < c → wk E (D a b) a b) : ∀ (k a b : Nat), fw D k a b < c → wk E (fw D k a b) a b := by
  intro k
  induction k with
  | zero => exact h
  | succ k ih =>
    intro a b hc
    rcases fw_cases D k a b with e | e
    · rw [e] at hc ⊢
      exact ih a b hc
    · rw [e] at hc ⊢
      exact wk_add _ _ _ _ (ih a k (by omega)) (ih k b (by omega))
theorem fw_tri {D : Nat → Nat → Nat} (h : ∀ a, D a a = 0) : ∀ (k m a b : Nat), m < k → fw D k a b ≤ fw D k a m + fw D k m b := by
  intro k
  induction k with
  | zero => intro m a b hm; omega
  | succ k ih =>
    intro m a b hm
    by_cases hk : m = k
    · subst hk
      rw [fw_ik h, fw_kj h]
      exact (fw_dec D m a b).2
    · have hm : m < k := by omega
      have h1 := fw_dec D k a b
      rcases fw_cases D k a m with e1 | e1
      · rcases fw_cases D k m b with e2 | e2
        · have := ih m a b hm
          omega
        · have := ih m a k hm
          omega
      · rcases fw_cases D k m b with e2 | e2
        · have := ih m k b hm
          omega
        · omega
theorem fw_comp {E : Nat → Nat → Prop} {D : Nat → Nat → Nat} {n : Nat} (h : ∀ a, D a a = 0) (hE : ∀ a b, E a b → a < n ∧ b < n) (h1 : ∀ a b, E a b → D a b ≤ 1) {a : Nat} (ha : a < n) : ∀ (k b : Nat), wk E k a b → fw D n a b ≤ k := by
  intro k
  induction k with
  | zero =>
    intro b hb
    have hb : a = b := hb
    subst hb
    rw [fw_self h]
    exact Nat.le_refl 0
  | succ k ih =>
    intro b ⟨c, h2, h3⟩
    have h4 := ih c h2
    have h5 := fw_tri h n c a b (hE c b h3).1
    have h6 := fw_le D c b n
    have h7 := h1 c b h3
    omega
