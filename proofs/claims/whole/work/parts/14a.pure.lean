/-! ===== suitable paths: the reference's graph of objects with phases; node 2 * object + phase ===== -/
def ld (w : Nat → Nat → Bool) (own oth lab a b : Nat) : Bool := if a = 0 ∧ b = 0 then w own lab else decide (b = 1) && (w own lab || (w oth lab || (decide (a = 0) && decide (lab = oth))))
def EN (m : Nat) (S T L : Nat → Nat) (w : Nat → Nat → Bool) (own oth : Nat) : Nat → Nat → Prop := fun x y => ∃ s, s < m ∧ ∃ j, j < 4 ∧ ld w own oth (L s) (j / 2) (j % 2) = true ∧ x = 2 * S s + j / 2 ∧ y = 2 * T s + j % 2
theorem EN_in {n m : Nat} {S T L : Nat → Nat} {w : Nat → Nat → Bool} {own oth : Nat} (hp : SyP n m S T L) : ∀ x y, EN m S T L w own oth x y → x < 2 * n ∧ y < 2 * n := by
  rintro x y ⟨s, hs, j, hj, _, rfl, rfl⟩
  have := hp.2.2 s hs
  omega
theorem m_leads {m : Nat} {L : Nat → Nat} {above : Nat → Nat → Int32} {lm : Nat → Int32} {w : Nat → Nat → Bool} (hw : Rt above w) (hl : ∀ i, i < m → lm i = nI (L i)) (hL : ∀ i, i < m → L i < 8) (hm : m ≤ 32) {s a b own oth : Nat} (hs : s < m) (ha : a < 2) (hb : b < 2) (ho : own < 8) (hq : oth < 8) :
    f_X12_leads above lm (nI s) (nI a) (nI b) (nI own) (nI oth) = some (bI (ld w own oth (L s) a b)) := by
  have h8 := hL s hs
  unfold f_X12_leads f_X12_leads_J27 f_X12_leads_J46 f_X12_leads_J47 f_X12_leads_J81
  simp (disch := omega) only [ck_nI, nI_clamp, lt]
  rw [hl s hs]
  simp (disch := omega) only [ck_nI, nI_clamp, nI_eq]
  rw [hw own ho (L s) h8, hw oth hq (L s) h8]
  unfold ld
  have ha2 : a = 0 ∨ a = 1 := by omega
  have hb2 : b = 0 ∨ b = 1 := by omega
  rcases ha2 with rfl | rfl
  · rcases hb2 with rfl | rfl
    · have : nI 0 = (0 : Int32) := rfl
      rw [this, if_neg (by decide), if_neg (by decide), bI_ckb]
      rfl
    · have h0 : nI 0 = (0 : Int32) := rfl
      have h1 : nI 1 = (1 : Int32) := rfl
      rw [h0, h1]
      by_cases h : L s = oth
      · subst h
        cases w own (L s) <;> cases w (L s) (L s) <;> simp [bI]
      · cases w own (L s) <;> cases w oth (L s) <;> simp [bI, h]
  · have h1 : nI 1 = (1 : Int32) := rfl
    rcases hb2 with rfl | rfl
    · have h0 : nI 0 = (0 : Int32) := rfl
      rw [h0, h1]
      cases w own (L s) <;> cases w oth (L s) <;> simp [bI]
    · rw [h1]
      cases w own (L s) <;> cases w oth (L s) <;> simp [bI]
/-! ===== relaxing edges until nothing changes ===== -/
def bfI (F : Nat → Nat → Prop) (Z : Nat → Prop) (d : Nat → Nat) : Prop := (∀ x, x < 32 → d x ≤ 1000 ∧ (d x < 1000 → ∃ z, Z z ∧ wk F (d x) z x)) ∧ ∀ z, Z z → d z = 0
theorem bf_step {F : Nat → Nat → Prop} {Z : Nat → Prop} {d : Nat → Nat} (h : bfI F Z d) {x y : Nat} (hF : F x y) (hx : x < 32) (hy : y < 32) (hlt : d x + 1 < d y) : bfI F Z (put1 d y (d x + 1)) := by
  refine ⟨fun u hu => ?_, fun z hz => ?_⟩
  · unfold put1
    by_cases huy : u = y
    · rw [if_pos huy]
      have h1 := (h.1 y hy).1
      refine ⟨by omega, fun _ => ?_⟩
      obtain ⟨z, hz, hw⟩ := (h.1 x hx).2 (by omega)
      rw [huy]
      exact ⟨z, hz, x, hw, hF⟩
    · rw [if_neg huy]
      exact h.1 u hu
  · unfold put1
    by_cases hzy : z = y
    · rw [hzy] at hz
      have := h.2 y hz
      omega
    · rw [if_neg hzy]
      exact h.2 z hz
theorem bf_done {F : Nat → Nat → Prop} {Z : Nat → Prop} {d : Nat → Nat} (h : bfI F Z d) (hs : ∀ x y, F x y → d y ≤ d x + 1) {z : Nat} (hz : Z z) : ∀ (k x : Nat), wk F k z x → d x ≤ k := by
  intro k
  induction k with
  | zero =>
    intro x hx
    have hx : z = x := hx
    subst hx
    rw [h.2 z hz]
    exact Nat.le_refl 0
  | succ k ih =>
    intro x ⟨c, h1, h2⟩
    have := ih c h1
    have := hs c x h2
    omega
def sumd (d : Nat → Nat) : Nat → Nat
  | 0 => 0
  | n + 1 => sumd d n + d n
theorem sumd_put {d : Nat → Nat} {k v : Nat} (hv : v < d k) : ∀ n, (k < n → sumd (put1 d k v) n < sumd d n) ∧ (n ≤ k → sumd (put1 d k v) n = sumd d n) := by
  intro n
  induction n with
  | zero => exact ⟨fun h => absurd h (Nat.not_lt_zero k), fun _ => rfl⟩
  | succ n ih =>
    refine ⟨fun h => ?_, fun h => ?_⟩
    · show sumd (put1 d k v) n + put1 d k v n < sumd d n + d n
      by_cases hkn : n = k
      · subst hkn
        have := ih.2 (Nat.le_refl n)
        have e : put1 d n v n = v := if_pos rfl
        rw [e]
        omega
      · have := ih.1 (by omega)
        have e : put1 d k v n = d n := if_neg hkn
        rw [e]
        omega
    · show sumd (put1 d k v) n + put1 d k v n = sumd d n + d n
      have e : put1 d k v n = d n := if_neg (by omega)
      rw [e, ih.2 (by omega)]
theorem sumd_le {d : Nat → Nat} {c : Nat} : ∀ n, (∀ x, x < n → d x ≤ c) → sumd d n ≤ n * c := by
  intro n
  induction n with
  | zero => intro _; exact Nat.zero_le _
  | succ n ih =>
    intro h
    show sumd d n + d n ≤ (n + 1) * c
    have := ih (fun x hx => h x (by omega))
    have := h n (by omega)
    rw [Nat.succ_mul]
    omega
def BfP (F : Nat → Nat → Prop) (Z : Nat → Prop) (row : Nat → Int32) : Prop := ∀ x, x < 32 → ∃ d, row x = nI d ∧ d ≤ 1000 ∧ (d < 1000 → ∃ z, Z z ∧ wk F d z x) ∧ ∀ z k, Z z → wk F k z x → d ≤ k
/-- the flag and the rows within a pass: d0 at its beginning, the edges (t, j) ahead of (s, i) done -/
def bfQ (m : Nat) (S T L : Nat → Nat) (w : Nat → Nat → Bool) (own oth : Nat) (fwd : Bool) (d0 d : Nat → Nat) (s i : Nat) (fl : Int32) : Prop :=
  (fl = 0 ∧ d = d0 ∧ ∀ t j, (t < s ∨ (t = s ∧ j < i)) → t < m → j < 4 → ld w own oth (L t) (j / 2) (j % 2) = true → if fwd = true then d (2 * T t + j % 2) ≤ d (2 * S t + j / 2) + 1 else d (2 * S t + j / 2) ≤ d (2 * T t + j % 2) + 1) ∨ (fl = 1 ∧ sumd d 32 < sumd d0 32)
