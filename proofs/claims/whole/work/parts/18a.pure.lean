/-! ===== labellings: the digits of a number ===== -/
def dv (k t : Nat) : Nat → Nat
  | 0 => t
  | e + 1 => dv k t e / k
def dgt (k m t s : Nat) : Nat := dv k t (m - 1 - s) % k
def pw (k : Nat) : Nat → Nat
  | 0 => 1
  | m + 1 => pw k m * k
theorem pw_le : ∀ k, k < 4 → ∀ m, m < 9 → pw k m ≤ 6561 := by decide +kernel
theorem dv_eq {k a b e : Nat} (h : dv k a e = dv k b e) : ∀ d, dv k a (e + d) = dv k b (e + d) := by
  intro d
  induction d with
  | zero => exact h
  | succ d ih =>
    show dv k a (e + d) / k = dv k b (e + d) / k
    rw [ih]
theorem dv_0 (k : Nat) : ∀ e, dv k 0 e = 0 := by
  intro e
  induction e with
  | zero => rfl
  | succ e ih =>
    show dv k 0 e / k = 0
    rw [ih, Nat.zero_div]
theorem dgt_0 (k m s : Nat) : dgt k m 0 s = 0 := by
  unfold dgt
  rw [dv_0, Nat.zero_mod]
theorem dgt_lt {k : Nat} (hk : 1 ≤ k) (m t s : Nat) : dgt k m t s < k := Nat.mod_lt _ hk
theorem dv_le {k t : Nat} (e : Nat) : dv k t e ≤ t := by
  induction e with
  | zero => exact Nat.le_refl t
  | succ e ih => exact Nat.le_trans (Nat.div_le_self _ _) ih
theorem nI_neg1 : nI 0 - 1 < 0 := by decide
theorem x_advance (fu : Nat) (hfu : 32 < fu) {k m t : Nat} (hk1 : 1 ≤ k) (hk3 : k ≤ 3) (hm : m ≤ 8) {lab : Nat → Int32} (hl : ∀ i, i < m → lab i = nI (dgt k m t i)) : tot (f_X4_advance fu (nI m) lab (nI k)) (fun o => ∀ i, i < m → o i = nI (dgt k m (t + 1) i)) := by
  unfold f_X4_advance
  refine tot_lt (lw2 (fun q v lab => ∃ e, v = nI (m - e) - 1 ∧ e + q = m ∧ dv k (t + 1) e = dv k t e + 1 ∧ ∀ i, i < m → lab i = nI (if m - e ≤ i then dgt k m (t + 1) i else dgt k m t i)) ?_ fu m _ _ (by omega) ⟨0, rfl, by omega, rfl, fun i hi => by rw [if_neg (by omega)]; exact hl i hi⟩)
  clear hl
  rintro r q v lab ⟨e, rfl, he, hd, hl⟩ ih
  unfold f_X4_advance_L10 f_X4_advance_J29
  by_cases hem : e = m
  · subst hem
    rw [Nat.sub_self, if_pos nI_neg1]
    refine tot_some (fun i hi => ?_)
    rw [hl i hi, if_pos (by omega)]
  · have e1 : nI (m - e) - 1 = nI (m - e - 1) := pk_sub (a := m - e) (b := 1) (by omega)
    rw [e1, if_neg (nI_pos (by omega))]
    have e2 : dgt k m t (m - e - 1) = dv k t e % k := by
      unfold dgt
      rw [show m - 1 - (m - e - 1) = e by omega]
    have e2' : dgt k m (t + 1) (m - e - 1) = (dv k t e + 1) % k := by
      unfold dgt
      rw [show m - 1 - (m - e - 1) = e by omega, hd]
    have e3 : lab (m - e - 1) = nI (dv k t e % k) := by
      rw [hl (m - e - 1) (by omega), if_neg (by omega), e2]
    have hlt : dv k t e % k < k := Nat.mod_lt _ hk1
    simp (disch := omega) only [ck_nI, nI_clamp, lt, e3, nI_1, nI_leI]
    have hk : k = 1 ∨ k = 2 ∨ k = 3 := by omega
    by_cases hc : k ≤ dv k t e % k + 1
    · rw [if_pos hc]
      have hz : (dv k t e + 1) % k = 0 := by rcases hk with rfl | rfl | rfl <;> omega
      have hq : dv k (t + 1) (e + 1) = dv k t (e + 1) + 1 := by
        show dv k (t + 1) e / k = dv k t e / k + 1
        rw [hd]
        rcases hk with rfl | rfl | rfl <;> omega
      refine ih (q - 1) _ _ (by omega) ⟨e + 1, ?_, by omega, hq, fun i hi => ?_⟩
      · rw [show m - (e + 1) = m - e - 1 by omega]
        exact (Int32.sub_eq_add_neg _ _).symm
      · rw [upd_e]
        by_cases hi2 : i = m - e - 1
        · rw [if_pos hi2, if_pos (by omega), hi2, e2', hz]
          rfl
        · rw [if_neg hi2, hl i hi]
          by_cases hi3 : m - e ≤ i
          · rw [if_pos hi3, if_pos (by omega)]
          · rw [if_neg hi3, if_neg (by omega)]
    · rw [if_neg hc]
      have hz : (dv k t e + 1) % k = dv k t e % k + 1 := by rcases hk with rfl | rfl | rfl <;> omega
      have hq : dv k (t + 1) (e + 1) = dv k t (e + 1) := by
        show dv k (t + 1) e / k = dv k t e / k
        rw [hd]
        rcases hk with rfl | rfl | rfl <;> omega
      refine tot_some (fun i hi => ?_)
      rw [upd_e]
      by_cases hi2 : i = m - e - 1
      · rw [if_pos hi2, hi2, e2', hz]
      · rw [if_neg hi2, hl i hi]
        by_cases hi3 : m - e ≤ i
        · rw [if_pos hi3]
        · rw [if_neg hi3]
          unfold dgt
          have := dv_eq hq (m - 1 - i - (e + 1))
          rw [show e + 1 + (m - 1 - i - (e + 1)) = m - 1 - i by omega] at this
          rw [this]
theorem m_copyRow (fu : Nat) {N : Nat} (hfu : N < fu) (hN : N < 2 ^ 31) (p0 p1 : Nat → Int32) : tot (f_X12_copyRow fu p0 p1 N N) (fun o => ∀ i, i < N → o i = p0 i) := by
  unfold f_X12_copyRow
  refine tot_lt (lw2 (fun k v o => ∃ i, v = nI i ∧ i + k = N ∧ ∀ j, j < i → o j = p0 j) ?_ fu N _ _ hfu ⟨0, rfl, by omega, fun j h => absurd h (Nat.not_lt_zero j)⟩)
  rintro r k v o ⟨i, rfl, hi, ho⟩ ih
  unfold f_X12_copyRow_L2
  rw [show Int32.ofNat N = nI N from rfl]
  by_cases hin : i = N
  · subst hin
    rw [if_pos (nI_le (Nat.le_refl i) (by omega))]
    exact tot_some ho
  · rw [if_neg (nI_ge (a := i) (by omega) (by omega))]
    simp (disch := omega) only [ck_nI, nI_clamp, lt, nI_1]
    refine ih (k - 1) _ _ (by omega) ⟨i + 1, rfl, by omega, fun j hj => ?_⟩
    rw [upd_e]
    by_cases hji : j = i
    · rw [if_pos hji, hji]
    · rw [if_neg hji]
      exact ho j (by omega)
theorem m_copyPairs (fu : Nat) (hfu : 8 < fu) {p0 : Nat → Nat → Int32} {p : Nat → Nat → Bool} (hp : Rt p0 p) (p1 : Nat → Nat → Int32) : tot (f_X12_copyPairs fu p0 p1 8 8 8 8) (fun o => Rt o p) := by
  unfold f_X12_copyPairs
  refine tot_lt (lw2 (fun n v b => ∃ i, v = nI i ∧ i + n = 8 ∧ ∀ a, a < i → ∀ j, j < 8 → b a j = bI (p a j)) ?_ fu 8 _ _ hfu ⟨0, rfl, rfl, fun a ha => absurd ha (Nat.not_lt_zero a)⟩)
  rintro r n v b ⟨i, rfl, hi, hb⟩ ih
  unfold f_X12_copyPairs_L2
  by_cases h8 : i = 8
  · subst h8
    rw [if_pos c8t]
    exact tot_some hb
  · rw [if_neg (c8f (k := i) (by omega))]
    refine tot_lt (lw2 (fun n v b => ∃ t, v = nI t ∧ t + n = 8 ∧ ∀ a, a ≤ i → ∀ j, j < 8 → (a < i ∨ j < t) → b a j = bI (p a j)) ?_ fu 8 _ _ hfu ⟨0, rfl, rfl, fun a ha j hj h => hb a (by omega) j hj⟩)
    clear hb
    rintro r2 n2 v b ⟨t, rfl, ht, hb⟩ ih2
    unfold f_X12_copyPairs_L10 f_X12_copyPairs_J32
    by_cases ht8 : t = 8
    · subst ht8
      rw [if_pos c8t]
      refine tot_lt ?_
      rw [nI_1]
      exact ih (n - 1) _ _ (by omega) ⟨i + 1, rfl, by omega, fun a ha j hj => hb a (by omega) j hj (Or.inr hj)⟩
    · rw [if_neg (c8f (k := t) (by omega))]
      simp (disch := omega) only [ck_nI, nI_clamp, lt, nI_1]
      rw [hp i (by omega) t (by omega), bI_nar]
      refine ih2 (n2 - 1) _ _ (by omega) ⟨t + 1, rfl, by omega, fun a ha j hj h => ?_⟩
      rw [up2_e]
      by_cases h1 : a = i
      · rw [if_pos h1]
        by_cases h2 : j = t
        · rw [if_pos h2, h1, h2]
        · rw [if_neg h2]
          exact hb a ha j hj (by omega)
      · rw [if_neg h1]
        exact hb a ha j hj (by omega)
def Gd (n m : Nat) (S T : Nat → Nat) (k t : Nat) : Prop := ∀ p, p ∈ PK m S → DecP n m S T (dgt k m t) o_nat p
theorem ffS_G {n m : Nat} {S T : Nat → Nat} {k t : Nat} {r : Int32} (hm : m ≤ 32) (h : ffS n m S T (dgt k m t) o_nat r) : r = -2 ↔ Gd n m S T k t := by
  rcases h with ⟨h1, h2⟩ | ⟨i, p, h1, h2, h3, _⟩
  · exact ⟨fun _ => h2, fun _ => h1⟩
  · have hlen := PK_len S hm
    have hi := (List.getElem?_eq_some_iff.mp h2).1
    refine ⟨fun h => ?_, fun h => absurd (h p (List.mem_of_getElem? h2)) h3⟩
    rw [h1] at h
    exact absurd h (nI_ne2 (by omega))
theorem SyP_dg {n m : Nat} {S T L : Nat → Nat} (hp : SyP n m S T L) {k : Nat} (hk1 : 1 ≤ k) (hk3 : k ≤ 3) (t : Nat) : SyP n m S T (dgt k m t) := ⟨hp.1, hp.2.1, fun i hi => ⟨(hp.2.2 i hi).1, (hp.2.2 i hi).2.1, by have := dgt_lt hk1 m t i; omega⟩⟩
theorem x_begin (fu : Nat) (hfu : 32 < fu) {n m : Nat} {S T L : Nat → Nat} {ox sx : Int32} {lx cx tx : Nat → Int32} (hp : SyP n m S T L) (hx : Sy n m S T L ox sx lx cx tx) (hm8 : m ≤ 8) {k : Nat} (hk1 : 1 ≤ k) (hk3 : k ≤ 3) (wx tl ts tt tw f0 g0 : Nat → Int32) :
    tot (f_X4_begin fu ox sx lx cx tx wx tl ts tt tw f0 g0 (nI k)) (fun q => q.1 = nI (pw k m) ∧ q.2.1 0 = nI (PK m S).length ∧ Sy n m S T (dgt k m 0) (q.2.1 1) (q.2.1 2) (q.2.2 2) (q.2.2 3) (q.2.2 4) ∧ pkA (PK m S) (q.2.2 0) (q.2.2 1)) := by
  have hm := hp.2.1
  obtain ⟨rfl, rfl, hl, hc, ht⟩ := hx
  unfold f_X4_begin f_X3_copyFrom
  simp only [lt, Option.bind_some]
  have hx2 : Sy n m S T L (nI n) (nI m) (va_cpy lx tl 0 0 32) (va_cpy cx ts 0 0 32) (va_cpy tx tt 0 0 32) := ⟨rfl, rfl, fun i hi => by rw [cpy_e _ _ _ _ (by omega)]; exact hl i hi, fun i hi => by rw [cpy_e _ _ _ _ (by omega)]; exact hc i hi, fun i hi => by rw [cpy_e _ _ _ _ (by omega)]; exact ht i hi⟩
  obtain ⟨f, g, e1, e2⟩ := x_coll fu hfu hp hx2 f0 g0
  rw [e1]
  simp only [Option.bind_some]
  refine lw3 (fun q v3 v4 lab => ∃ i, v4 = nI i ∧ i + q = m ∧ v3 = nI (pw k i) ∧ ∀ j, j < i → lab j = nI 0) ?_ fu m _ _ _ (by omega) ⟨0, rfl, by omega, rfl, fun j h => absurd h (Nat.not_lt_zero j)⟩
  rintro r q v3 v4 lab ⟨i, rfl, hi, rfl, hl0⟩ ih
  unfold f_X4_begin_L24
  by_cases him : i = m
  · subst him
    rw [if_pos (nI_le (Nat.le_refl i) (by omega))]
    exact tot_some ⟨rfl, rfl, ⟨rfl, rfl, fun j hj => by rw [dgt_0]; exact hl0 j hj, hx2.2.2.2.1, hx2.2.2.2.2⟩, e2⟩
  · rw [if_neg (nI_ge (a := i) (by omega) (by omega)), if_neg (c8f (k := i) (by omega))]
    simp (disch := omega) only [ck_nI, nI_clamp, lt, nI_1, pk_mul]
    refine ih (q - 1) _ _ _ (by omega) ⟨i + 1, rfl, by omega, rfl, fun j hj => ?_⟩
    rw [upd_e]
    by_cases hji : j = i
    · rw [if_pos hji]
      rfl
    · rw [if_neg hji]
      exact hl0 j (by omega)
noncomputable def dct (P : Nat → Prop) : Nat → Nat
  | 0 => 0
  | t + 1 => dct P t + (@ite _ (P t) (Classical.propDecidable _) 1 0)
theorem dct_y {P : Nat → Prop} {t : Nat} (h : P t) : dct P (t + 1) = dct P t + 1 := by
  show dct P t + (@ite _ (P t) (Classical.propDecidable _) 1 0) = _
  rw [@if_pos _ (Classical.propDecidable _) h]
theorem dct_n {P : Nat → Prop} {t : Nat} (h : ¬ P t) : dct P (t + 1) = dct P t := by
  show dct P t + (@ite _ (P t) (Classical.propDecidable _) 1 0) = _
  rw [@if_neg _ (Classical.propDecidable _) h]
  rfl
