/-! ===== ranges ===== -/
def inN (v : Int32) (n : Nat) : Bool := decide (¬ v < 0 ∧ ¬ nI n ≤ v)
theorem inN_of {v : Int32} {n : Nat} (hn : n < 2 ^ 31) (h : inN v n = true) : ∃ j, j < n ∧ v = nI j := by
  have h := of_decide_eq_true h
  rcases pk_ix v hn with h1 | h1 | h1
  · exact absurd h1 h.1
  · exact absurd h1 h.2
  · exact h1
theorem inN_nI {i n : Nat} (hi : i < 2 ^ 31) (hn : n < 2 ^ 31) : inN (nI i) n = decide (i < n) := by
  unfold inN
  by_cases h : i < n
  · rw [decide_eq_true h, decide_eq_true ⟨nI_pos hi, nI_ge h hn⟩]
  · rw [decide_eq_false h, decide_eq_false]
    intro h2
    exact h2.2 ((nI_leI hn hi).mpr (by omega))
theorem inN_neg {v : Int32} {n : Nat} (h : v < 0) : inN v n = false := decide_eq_false (fun h2 => h2.1 h)
theorem inN_if {α : Type} {v : Int32} {n : Nat} {a b : α} : (if v < 0 then a else (if nI n ≤ v then a else b)) = if inN v n = true then b else a := by
  unfold inN
  by_cases h1 : v < 0
  · rw [if_pos h1, if_neg]
    intro h
    exact (of_decide_eq_true h).1 h1
  · rw [if_neg h1]
    by_cases h2 : nI n ≤ v
    · rw [if_pos h2, if_neg]
      intro h
      exact (of_decide_eq_true h).2 h2
    · rw [if_neg h2, if_pos (decide_eq_true ⟨h1, h2⟩)]
theorem btw_e {n : Nat} (hn : n < 2 ^ 30) (v : Int32) : f_X12_isBetween v 0 (nI n - 1) = some (bI (inN v n)) := by
  unfold f_X12_isBetween
  have e : (nI n - 1 < v) ↔ (nI n ≤ v) := by
    rw [Int32.lt_iff_toInt_lt, Int32.le_iff_toInt_le]
    have h1 : (nI n - 1).toInt = (n : Int) - 1 := pk_sub_toInt (a := n) (b := 1) hn (by decide)
    have h2 : (nI n).toInt = (n : Int) := nI_toInt (by omega)
    omega
  by_cases h1 : v < 0
  · rw [if_pos h1, inN_neg h1]
    rfl
  · rw [if_neg h1]
    by_cases h2 : nI n ≤ v
    · rw [if_pos (e.mpr h2), show inN v n = false from decide_eq_false (fun h => h.2 h2)]
      rfl
    · rw [if_neg (fun h => h2 (e.mp h)), show inN v n = true from decide_eq_true ⟨h1, h2⟩]
      rfl
theorem lab_x (v : Int32) : f_X11_isLabel v = some (bI (inN v 8)) := by
  unfold f_X11_isLabel
  rw [show (8 : Int32) = nI 8 from rfl, inN_if]
  cases inN v 8 <;> rfl
theorem lab_m (v : Int32) : f_X12_isLabel v = some (bI (inN v 8)) := by
  unfold f_X12_isLabel
  rw [show (7 : Int32) = nI 8 - 1 from by decide, btw_e (by decide)]
  show ckb (bI (inN v 8)) (some (bI (inN v 8))) = _
  rw [bI_ckb]
/-! ===== Warshall's closure ===== -/
def war (p : Nat → Nat → Bool) : Nat → Nat → Nat → Bool
  | 0, i, j => p i j
  | k + 1, i, j => war p k i j || (war p k i k && war p k k j)
theorem war_s (p : Nat → Nat → Bool) (k i j : Nat) : war p (k + 1) i j = (war p k i j || (war p k i k && war p k k j)) := rfl
theorem war_ik (p : Nat → Nat → Bool) (k i : Nat) : war p (k + 1) i k = war p k i k := by
  rw [war_s]
  cases war p k i k <;> simp
theorem war_kj (p : Nat → Nat → Bool) (k j : Nat) : war p (k + 1) k j = war p k k j := by
  rw [war_s]
  cases war p k k j <;> simp
theorem war_sup {p : Nat → Nat → Bool} {k i j : Nat} (h : p i j = true) : war p k i j = true := by
  induction k with
  | zero => exact h
  | succ k ih => rw [war_s, ih]; rfl
theorem war_min {p : Nat → Nat → Bool} {R : Nat → Nat → Prop} (hp : ∀ i j, p i j = true → R i j) (ht : ∀ i j k, R i j → R j k → R i k) : ∀ (k i j : Nat), war p k i j = true → R i j := by
  intro k
  induction k with
  | zero => exact hp
  | succ k ih =>
    intro i j h
    rw [war_s, Bool.or_eq_true, Bool.and_eq_true] at h
    rcases h with h | ⟨h1, h2⟩
    · exact ih i j h
    · exact ht i k j (ih i k h1) (ih k j h2)
theorem war_tr {p : Nat → Nat → Bool} : ∀ (k m i j : Nat), m < k → war p k i m = true → war p k m j = true → war p k i j = true := by
  intro k
  induction k with
  | zero => intro m i j h; omega
  | succ k ih =>
    intro m i j hm h1 h2
    by_cases hk : m = k
    · subst hk
      rw [war_ik] at h1
      rw [war_kj] at h2
      rw [war_s, h1, h2]
      simp
    · have hm : m < k := by omega
      rw [war_s, Bool.or_eq_true, Bool.and_eq_true] at h1 h2 ⊢
      rcases h1 with h1 | ⟨h1, h3⟩
      · rcases h2 with h2 | ⟨h2, h4⟩
        · exact Or.inl (ih m i j hm h1 h2)
        · exact Or.inr ⟨ih m i k hm h1 h2, h4⟩
      · rcases h2 with h2 | ⟨h2, h4⟩
        · exact Or.inr ⟨h1, ih m k j hm h3 h2⟩
        · exact Or.inr ⟨h1, h4⟩
def o_sm (p : Nat → Nat → Bool) : Prop := ∀ i j, (8 ≤ i ∨ 8 ≤ j) → p i j = false
def o_ac (p : Nat → Nat → Bool) : Prop := ∀ i, war p 8 i i = false
theorem war_sm {p : Nat → Nat → Bool} (h : o_sm p) : ∀ k, o_sm (war p k) := by
  intro k
  induction k with
  | zero => exact h
  | succ k ih =>
    intro i j hij
    rw [war_s, ih i j hij]
    rcases hij with hij | hij
    · rw [ih i k (Or.inl hij)]
      rfl
    · rw [ih k j (Or.inr hij)]
      simp
theorem war_tr8 {p : Nat → Nat → Bool} (hs : o_sm p) {m i j : Nat} (h1 : war p 8 i m = true) (h2 : war p 8 m j = true) : war p 8 i j = true := by
  by_cases hm : m < 8
  · exact war_tr 8 m i j hm h1 h2
  · rw [war_sm hs 8 i m (Or.inr (by omega))] at h1
    cases h1
def o_add (p : Nat → Nat → Bool) (g l : Nat) : Nat → Nat → Bool := fun i j => p i j || (decide (i = g) && decide (j = l))
def o_del (p : Nat → Nat → Bool) (g l : Nat) : Nat → Nat → Bool := fun i j => p i j && !(decide (i = g) && decide (j = l))
def o_nat : Nat → Nat → Bool := fun i j => decide (j < i) && decide (i < 8)
theorem o_add_sm {p : Nat → Nat → Bool} {g l : Nat} (hs : o_sm p) (hg : g < 8) (hl : l < 8) : o_sm (o_add p g l) := by
  intro i j h
  unfold o_add
  rw [hs i j h]
  rcases h with h | h
  · rw [decide_eq_false (show ¬ i = g by omega)]
    rfl
  · rw [decide_eq_false (show ¬ j = l by omega)]
    simp
theorem o_del_sm {p : Nat → Nat → Bool} {g l : Nat} (hs : o_sm p) : o_sm (o_del p g l) := by
  intro i j h
  unfold o_del
  rw [hs i j h]
  rfl
theorem o_nat_sm : o_sm o_nat := by
  intro i j h
  unfold o_nat
  by_cases h1 : j < i
  · rw [decide_eq_false (show ¬ i < 8 by omega)]
    simp
  · rw [decide_eq_false h1]
    rfl
theorem o_nat_w : ∀ i, i < 8 → ∀ j, j < 8 → war o_nat 8 i j = o_nat i j := by decide +kernel
theorem o_nat_war : war o_nat 8 = o_nat := by
  funext i j
  by_cases hi : i < 8
  · by_cases hj : j < 8
    · exact o_nat_w i hi j hj
    · rw [war_sm o_nat_sm 8 i j (Or.inr (by omega)), o_nat_sm i j (Or.inr (by omega))]
  · rw [war_sm o_nat_sm 8 i j (Or.inl (by omega)), o_nat_sm i j (Or.inl (by omega))]
theorem o_nat_ac : o_ac o_nat := by
  intro i
  rw [o_nat_war]
  unfold o_nat
  simp
theorem o_del_ac {p : Nat → Nat → Bool} {g l : Nat} (hs : o_sm p) (ha : o_ac p) : o_ac (o_del p g l) := by
  intro i
  cases h : war (o_del p g l) 8 i i with
  | false => rfl
  | true =>
    have := war_min (p := o_del p g l) (R := fun i j => war p 8 i j = true) (fun i j h => war_sup (by
      unfold o_del at h
      rw [Bool.and_eq_true] at h
      exact h.1)) (fun i j k h1 h2 => war_tr8 hs h1 h2) 8 i i h
    rw [ha i] at this
    cases this
theorem o_add_ac {p : Nat → Nat → Bool} {g l : Nat} (hs : o_sm p) (ha : o_ac p) (hgl : g ≠ l) (hn : war p 8 l g = false) : o_ac (o_add p g l) := by
  intro i
  cases h : war (o_add p g l) 8 i i with
  | false => rfl
  | true =>
    have h2 := war_min (p := o_add p g l) (R := fun i j => war p 8 i j = true ∨ ((i = g ∨ war p 8 i g = true) ∧ (l = j ∨ war p 8 l j = true))) (fun i j h => by
      unfold o_add at h
      rw [Bool.or_eq_true, Bool.and_eq_true] at h
      rcases h with h | ⟨h1, h2⟩
      · exact Or.inl (war_sup h)
      · exact Or.inr ⟨Or.inl (of_decide_eq_true h1), Or.inl (of_decide_eq_true h2).symm⟩) (fun i j k h1 h2 => by
      rcases h1 with h1 | ⟨h1, h3⟩
      · rcases h2 with h2 | ⟨h2, h4⟩
        · exact Or.inl (war_tr8 hs h1 h2)
        · refine Or.inr ⟨Or.inr ?_, h4⟩
          rcases h2 with rfl | h2
          · exact h1
          · exact war_tr8 hs h1 h2
      · rcases h2 with h2 | ⟨h2, h4⟩
        · refine Or.inr ⟨h1, Or.inr ?_⟩
          rcases h3 with rfl | h3
          · exact h2
          · exact war_tr8 hs h3 h2
        · exact Or.inr ⟨h1, h4⟩) 8 i i h
    have hlg : ¬ war p 8 l g = true := by rw [hn]; decide
    rcases h2 with h2 | ⟨h2, h3⟩
    · rw [ha i] at h2
      cases h2
    · exfalso
      rcases h2 with rfl | h2
      · rcases h3 with h3 | h3
        · exact hgl h3.symm
        · exact hlg h3
      · rcases h3 with rfl | h3
        · exact hlg h2
        · exact hlg (war_tr8 hs h3 h2)
/-! ===== the order's rows in the class and in the reference ===== -/
def Rb (f : Nat → Int32) (p : Nat → Nat → Bool) : Prop := ∀ i, i < 8 → ∀ j, j < 32 → bt (f i) j = p i j
def Rt (M : Nat → Nat → Int32) (p : Nat → Nat → Bool) : Prop := ∀ i, i < 8 → ∀ j, j < 8 → M i j = bI (p i j)
theorem upd_e (f : Nat → Int32) (k j : Nat) (x : Int32) : upd f k x j = if j = k then x else f j := rfl
theorem up2_e {α : Type} (M : Nat → Nat → α) (i j a b : Nat) (x : α) : up2 M i j x a b = if a = i then (if b = j then x else M a b) else M a b := rfl
theorem cpy_e {α : Type} (f g : Nat → α) (n k : Nat) (h : k < n) : va_cpy f g 0 0 n k = f k := by
  unfold va_cpy
  rw [if_pos ⟨Nat.zero_le _, by omega⟩]
  simp
theorem c8t : (8 : Int32) ≤ nI 8 := by decide
theorem c8f {k : Nat} (h : k < 8) : ¬ (8 : Int32) ≤ nI k := nI_ge (b := 8) h (by decide)
theorem x_close (fu : Nat) (hfu : 8 < fu) (below pairs : Nat → Int32) (p : Nat → Nat → Bool) (hp : Rb pairs p) :
    tot (f_X2_close fu below pairs) (fun o => Rb o (war p 8)) := by
  unfold f_X2_close
  refine tot_lt (tot_lt (lw2 (fun n v b => ∃ k, v = nI k ∧ k + n = 8 ∧ Rb b (war p k)) ?_ fu 8 _ _ hfu ⟨0, rfl, rfl, ?_⟩))
  · rintro r n v b ⟨k, rfl, hk, hb⟩ ih
    unfold f_X2_close_L17
    by_cases h8 : k = 8
    · subst h8
      rw [if_pos c8t]
      exact tot_some hb
    · rw [if_neg (c8f (k := k) (by omega))]
      refine tot_lt (lw2 (fun n v b => ∃ i, v = nI i ∧ i + n = 8 ∧ ∀ a, a < 8 → ∀ j, j < 32 → bt (b a) j = if a < i then war p (k + 1) a j else war p k a j) ?_ fu 8 _ _ hfu ⟨0, rfl, rfl, fun a ha j hj => by rw [if_neg (Nat.not_lt_zero a)]; exact hb a ha j hj⟩)
      rintro r2 n2 v b ⟨i, rfl, hi, hb⟩ ih2
      unfold f_X2_close_L25 f_X2_close_J65 f_X2_close_J59
      by_cases hi8 : i = 8
      · subst hi8
        rw [if_pos c8t]
        refine tot_lt ?_
        rw [nI_1]
        refine ih (n - 1) _ _ (by omega) ⟨k + 1, rfl, by omega, fun a ha j hj => ?_⟩
        rw [hb a ha j hj, if_pos ha]
      · rw [if_neg (c8f (k := i) (by omega))]
        simp (disch := omega) only [ck_nI, nI_clamp]
        rw [isIn_e _ (show k < 32 by omega), hb i (by omega) k (by omega), if_neg (Nat.lt_irrefl i)]
        cases hw : war p k i k with
        | false =>
          refine tot_lt ?_
          rw [nI_1]
          refine ih2 (n2 - 1) _ _ (by omega) ⟨i + 1, rfl, by omega, fun a ha j hj => ?_⟩
          rw [hb a ha j hj]
          by_cases h1 : a < i
          · rw [if_pos h1, if_pos (by omega)]
          · rw [if_neg h1]
            by_cases h2 : a = i
            · subst h2
              rw [if_pos (by omega), war_s, hw]
              simp
            · rw [if_neg (by omega)]
        | true =>
          refine tot_lt (tot_lt ?_)
          rw [nI_1]
          refine ih2 (n2 - 1) _ _ (by omega) ⟨i + 1, rfl, by omega, fun a ha j hj => ?_⟩
          rw [upd_e]
          by_cases h2 : a = i
          · subst h2
            rw [if_pos rfl, if_pos (by omega), b_or, hb a ha j hj, hb k (by omega) j hj, if_neg (Nat.lt_irrefl a), war_s p k a j, hw]
            by_cases h3 : k < a
            · rw [if_pos h3, war_kj]
              simp
            · rw [if_neg h3]
              simp
          · rw [if_neg h2, hb a ha j hj]
            by_cases h1 : a < i
            · rw [if_pos h1, if_pos (by omega)]
            · rw [if_neg h1, if_neg (by omega)]
  · intro i hi j hj
    rw [cpy_e _ _ _ _ hi]
    exact hp i hi j hj
