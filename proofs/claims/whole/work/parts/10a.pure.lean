/-! ===== Int32 by its bits: bt x i ===== -/
def bt (x : Int32) (i : Nat) : Bool := x.toBitVec.getLsbD i
theorem b_ext {x y : Int32} (h : ∀ i, i < 32 → bt x i = bt y i) : x = y := Int32.toBitVec_inj.mp (BitVec.eq_of_getLsbD_eq (fun i hi => h i hi))
theorem b_or (x y : Int32) (i : Nat) : bt (x ||| y) i = (bt x i || bt y i) := by unfold bt; rw [Int32.toBitVec_or, BitVec.getLsbD_or]
theorem b_and (x y : Int32) (i : Nat) : bt (x &&& y) i = (bt x i && bt y i) := by unfold bt; rw [Int32.toBitVec_and, BitVec.getLsbD_and]
theorem b_xor (x y : Int32) (i : Nat) : bt (x ^^^ y) i = (bt x i ^^ bt y i) := by unfold bt; rw [Int32.toBitVec_xor, BitVec.getLsbD_xor]
theorem b_big {x : Int32} {i : Nat} (h : 32 ≤ i) : bt x i = false := BitVec.getLsbD_of_ge _ _ h
theorem b_m1 : ∀ i, i < 32 → bt (-1) i = true := by decide +kernel
theorem b_0 (i : Nat) : bt 0 i = false := BitVec.getLsbD_zero
theorem s_l : ∀ n, n < 32 → ((nI n &&& 31).toBitVec.smod 32).toNat = n := by decide +kernel
theorem b_shl (n : Nat) (hn : n < 32) (x : Int32) {i : Nat} (hi : i < 32) : bt (x <<< (nI n &&& 31)) i = (decide (n ≤ i) && bt x (i - n)) := by
  unfold bt
  rw [Int32.toBitVec_shiftLeft]
  show (x.toBitVec <<< ((nI n &&& 31).toBitVec.smod 32).toNat).getLsbD i = _
  rw [s_l n hn, BitVec.getLsbD_shiftLeft]
  rcases Nat.lt_or_ge i n with h | h
  · simp [h, Nat.not_le.mpr h]
  · simp [hi, h, Nat.not_lt.mpr h]
theorem b_sshr (n : Nat) (hn : n < 32) (x : Int32) {i : Nat} (hi : i < 32) : bt (x >>> (nI n &&& 31)) i = if n + i < 32 then bt x (n + i) else bt x 31 := by
  unfold bt
  rw [Int32.toBitVec_shiftRight]
  show (x.toBitVec.sshiftRight ((nI n &&& 31).toBitVec.smod 32).toNat).getLsbD i = _
  rw [s_l n hn, BitVec.getLsbD_sshiftRight, BitVec.msb_eq_getLsbD_last]
  simp [hi]
/-! ===== total values, loops ===== -/
def tot {α : Type} (o : Option α) (P : α → Prop) : Prop := ∃ a, o = some a ∧ P a
theorem tot_some {α : Type} {a : α} {P : α → Prop} (h : P a) : tot (some a) P := ⟨a, rfl, h⟩
theorem tot_mono {α : Type} {o : Option α} {P Q : α → Prop} (h : tot o P) (hq : ∀ a, P a → Q a) : tot o Q := by
  obtain ⟨a, h1, h2⟩ := h
  exact ⟨a, h1, hq a h2⟩
theorem tot_bind {α β : Type} {o : Option α} {f : α → Option β} {P : α → Prop} {Q : β → Prop} (h : tot o P) (hf : ∀ a, P a → tot (f a) Q) : tot (o.bind f) Q := by
  obtain ⟨a, rfl, h2⟩ := h
  exact hf a h2
theorem tot_lt {α β : Type} {e : α} {k : α → Option β} {Q : β → Prop} (h : tot (k e) Q) : tot (lt e k) Q := h
theorem ck_nI {β : Type} {i n : Nat} {k : Option β} (h : i < n) (hn : n < 2 ^ 31) : ck (nI i) n k = k := if_neg (nI_in h hn)
theorem tot_ck {β : Type} {i n : Nat} {k : Option β} {Q : β → Prop} (h : i < n) (hn : n < 2 ^ 31) (hk : tot k Q) : tot (ck (nI i) n k) Q := by
  rw [ck_nI h hn]
  exact hk
theorem tot_if {β : Type} {c : Prop} [Decidable c] {a b : Option β} {Q : β → Prop} (h1 : c → tot a Q) (h2 : ¬ c → tot b Q) : tot (if c then a else b) Q := by
  by_cases h : c
  · rw [if_pos h]
    exact h1 h
  · rw [if_neg h]
    exact h2 h
theorem lw1 {α R : Type} {z : α → Option R} {F : (α → Option R) → α → Option R} {P : R → Prop} (I : Nat → α → Prop)
    (h : ∀ (r : α → Option R) (k : Nat) (a : α), I k a → (∀ k' a', k' < k → I k' a' → tot (r a') P) → tot (F r a) P) :
    ∀ (fu k : Nat) (a : α), k < fu → I k a → tot (lp (τ := α → Option R) z F fu a) P := by
  intro fu
  induction fu with
  | zero => intro k a hk; omega
  | succ n ih =>
    intro k a hk hI
    show tot (F (lp z F n) a) P
    exact h _ k a hI (fun k' a' hk' hI' => ih k' a' (by omega) hI')
theorem lw2 {α β R : Type} {z : α → β → Option R} {F : (α → β → Option R) → α → β → Option R} {P : R → Prop} (I : Nat → α → β → Prop)
    (h : ∀ (r : α → β → Option R) (k : Nat) (a : α) (b : β), I k a b → (∀ k' a' b', k' < k → I k' a' b' → tot (r a' b') P) → tot (F r a b) P) :
    ∀ (fu k : Nat) (a : α) (b : β), k < fu → I k a b → tot (lp (τ := α → β → Option R) z F fu a b) P := by
  intro fu
  induction fu with
  | zero => intro k a b hk; omega
  | succ n ih =>
    intro k a b hk hI
    show tot (F (lp z F n) a b) P
    exact h _ k a b hI (fun k' a' b' hk' hI' => ih k' a' b' (by omega) hI')
theorem lw3 {α β γ R : Type} {z : α → β → γ → Option R} {F : (α → β → γ → Option R) → α → β → γ → Option R} {P : R → Prop} (I : Nat → α → β → γ → Prop)
    (h : ∀ (r : α → β → γ → Option R) (k : Nat) (a : α) (b : β) (c : γ), I k a b c → (∀ k' a' b' c', k' < k → I k' a' b' c' → tot (r a' b' c') P) → tot (F r a b c) P) :
    ∀ (fu k : Nat) (a : α) (b : β) (c : γ), k < fu → I k a b c → tot (lp (τ := α → β → γ → Option R) z F fu a b c) P := by
  intro fu
  induction fu with
  | zero => intro k a b c hk; omega
  | succ n ih =>
    intro k a b c hk hI
    show tot (F (lp z F n) a b c) P
    exact h _ k a b c hI (fun k' a' b' c' hk' hI' => ih k' a' b' c' (by omega) hI')
theorem lw4 {α β γ δ R : Type} {z : α → β → γ → δ → Option R} {F : (α → β → γ → δ → Option R) → α → β → γ → δ → Option R} {P : R → Prop} (I : Nat → α → β → γ → δ → Prop)
    (h : ∀ (r : α → β → γ → δ → Option R) (k : Nat) (a : α) (b : β) (c : γ) (d : δ), I k a b c d → (∀ k' a' b' c' d', k' < k → I k' a' b' c' d' → tot (r a' b' c' d') P) → tot (F r a b c d) P) :
    ∀ (fu k : Nat) (a : α) (b : β) (c : γ) (d : δ), k < fu → I k a b c d → tot (lp (τ := α → β → γ → δ → Option R) z F fu a b c d) P := by
  intro fu
  induction fu with
  | zero => intro k a b c d hk; omega
  | succ n ih =>
    intro k a b c d hk hI
    show tot (F (lp z F n) a b c d) P
    exact h _ k a b c d hI (fun k' a' b' c' d' hk' hI' => ih k' a' b' c' d' (by omega) hI')
theorem lw5 {α β γ δ ε R : Type} {z : α → β → γ → δ → ε → Option R} {F : (α → β → γ → δ → ε → Option R) → α → β → γ → δ → ε → Option R} {P : R → Prop} (I : Nat → α → β → γ → δ → ε → Prop)
    (h : ∀ (r : α → β → γ → δ → ε → Option R) (k : Nat) (a : α) (b : β) (c : γ) (d : δ) (e : ε), I k a b c d e → (∀ k' a' b' c' d' e', k' < k → I k' a' b' c' d' e' → tot (r a' b' c' d' e') P) → tot (F r a b c d e) P) :
    ∀ (fu k : Nat) (a : α) (b : β) (c : γ) (d : δ) (e : ε), k < fu → I k a b c d e → tot (lp (τ := α → β → γ → δ → ε → Option R) z F fu a b c d e) P := by
  intro fu
  induction fu with
  | zero => intro k a b c d e hk; omega
  | succ n ih =>
    intro k a b c d e hk hI
    show tot (F (lp z F n) a b c d e) P
    exact h _ k a b c d e hI (fun k' a' b' c' d' e' hk' hI' => ih k' a' b' c' d' e' (by omega) hI')
/-! a Bool as the machine has it -/
def bI (b : Bool) : Int32 := if b then 1 else 0
theorem bI_t : bI true = 1 := rfl
theorem bI_f : bI false = 0 := rfl
theorem bI_0 {b : Bool} : bI b = 0 ↔ b = false := by cases b <;> decide
theorem bI_n0 {b : Bool} : ¬ bI b = 0 ↔ b = true := by cases b <;> decide
theorem bI_ckb {β : Type} {b : Bool} {k : Option β} : ckb (bI b) k = k := by cases b <;> rfl
theorem bI_nar {b : Bool} : vp_nar .boolean (bI b) = bI b := by cases b <;> rfl
theorem bI_or {a b : Bool} : bI a ||| bI b = bI (a || b) := by cases a <;> cases b <;> decide
theorem bI_and {a b : Bool} : bI a &&& bI b = bI (a && b) := by cases a <;> cases b <;> decide
theorem bI_inj {a b : Bool} : bI a = bI b ↔ a = b := by cases a <;> cases b <;> decide
theorem bI_if {α : Type} {b : Bool} {x y : α} : (if bI b = 0 then x else y) = if b = true then y else x := by cases b <;> rfl
theorem bI_ifn {α : Type} {b : Bool} {x y : α} : (if ¬ bI b = 0 then x else y) = if b = true then x else y := by cases b <;> rfl
theorem bI_if1 {α : Type} {b : Bool} {x y : α} : (if bI b = 1 then x else y) = if b = true then x else y := by cases b <;> rfl
theorem bI_ifn1 {α : Type} {b : Bool} {x y : α} : (if ¬ bI b = 1 then x else y) = if b = true then y else x := by cases b <;> rfl
/-! bits -/
theorem b_nI {k i : Nat} (hi : i < 32) : bt (nI k) i = k.testBit i := by
  unfold bt
  show (BitVec.ofNat 32 k).getLsbD i = _
  rw [BitVec.getLsbD_ofNat]
  simp [hi]
theorem b_one (i : Nat) : bt 1 i = decide (i = 0) := by
  rcases Nat.lt_or_ge i 32 with h | h
  · exact (by decide +kernel : ∀ i, i < 32 → bt 1 i = decide (i = 0)) i h
  · rw [b_big h, decide_eq_false (by omega)]
theorem b_zero {x : Int32} : x = 0 ↔ ∀ i, i < 32 → bt x i = false := by
  constructor
  · intro h i _
    rw [h, b_0]
  · intro h
    exact b_ext (fun i hi => by rw [h i hi, b_0])
theorem b_and1 {x : Int32} : (x &&& 1) = 0 ↔ bt x 0 = false := by
  rw [b_zero]
  constructor
  · intro h
    have := h 0 (by decide)
    rw [b_and, b_one] at this
    simpa using this
  · intro h i hi
    rw [b_and, b_one]
    by_cases h0 : i = 0
    · subst h0
      simp [h]
    · simp [h0]
theorem b_1shl {n i : Nat} (hn : n < 32) (hi : i < 32) : bt ((1 : Int32) <<< (nI n &&& 31)) i = decide (i = n) := by
  rw [b_shl n hn _ hi, b_one]
  by_cases h : i = n
  · subst h
    simp
  · by_cases h2 : n ≤ i
    · have : ¬ i - n = 0 := by omega
      simp [h, this]
    · simp [h2, h]
theorem isIn_e (x : Int32) {j : Nat} (hj : j < 32) : f_X11_isIn x (nI j) = some (bI (bt x j)) := by
  unfold f_X11_isIn
  have e : bt (x >>> (nI j &&& 31)) 0 = bt x j := by
    rw [b_sshr j hj x (by decide)]
    simp [hj]
  by_cases h : bt x j = false
  · rw [if_pos (b_and1.mpr (by rw [e]; exact h)), h]
    rfl
  · rw [if_neg (fun h2 => h (by rw [← e]; exact b_and1.mp h2))]
    have : bt x j = true := by cases hb : bt x j <;> simp_all
    rw [this]
    rfl
