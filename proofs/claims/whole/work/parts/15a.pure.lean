/-! ===== the class: places met in breadth-first order; node 2 * object + part ===== -/
def pa (w : Nat → Nat → Bool) (own oth lab q : Nat) : Option Nat := if q = 0 ∧ w own lab = true then some 0 else if (w own lab = true ∨ w oth lab = true) ∨ (q = 0 ∧ lab = oth) then some 1 else none
def dS (S T L : Nat → Nat) (w : Nat → Nat → Bool) (own oth s x : Nat) : Option Nat := if S s = x / 2 then (pa w own oth (L s) (x % 2)).map (fun b => 2 * T s + b) else none
theorem pa_lt {w : Nat → Nat → Bool} {own oth lab q b : Nat} (h : pa w own oth lab q = some b) : b < 2 := by
  unfold pa at h
  by_cases h1 : q = 0 ∧ w own lab = true
  · rw [if_pos h1] at h
    cases h
    decide
  · rw [if_neg h1] at h
    by_cases h2 : (w own lab = true ∨ w oth lab = true) ∨ (q = 0 ∧ lab = oth)
    · rw [if_pos h2] at h
      cases h
      decide
    · rw [if_neg h2] at h
      cases h
theorem pa_ld {w : Nat → Nat → Bool} {own oth lab q b : Nat} (hq : q < 2) (h : pa w own oth lab q = some b) : ld w own oth lab q b = true := by
  unfold pa at h
  have hq2 : q = 0 ∨ q = 1 := by omega
  by_cases h1 : q = 0 ∧ w own lab = true
  · rw [if_pos h1] at h
    cases h
    rw [h1.1, ld_00]
    exact h1.2
  · rw [if_neg h1] at h
    by_cases h2 : (w own lab = true ∨ w oth lab = true) ∨ (q = 0 ∧ lab = oth)
    · rw [if_pos h2] at h
      cases h
      rcases hq2 with rfl | rfl
      · rw [ld_01, Bool.or_eq_true, Bool.or_eq_true, decide_eq_true_iff]
        rcases h2 with (h2 | h2) | h2
        · exact Or.inl h2
        · exact Or.inr (Or.inl h2)
        · exact Or.inr (Or.inr h2.2)
      · rw [ld_11, Bool.or_eq_true]
        rcases h2 with h2 | h2
        · exact h2
        · exact absurd h2.1 (by decide)
    · rw [if_neg h2] at h
      cases h
theorem pa_le {w : Nat → Nat → Bool} {own oth lab q p b : Nat} (hp : p < 2) (hb : b < 2) (hqp : q ≤ p) (h : ld w own oth lab p b = true) : ∃ c, pa w own oth lab q = some c ∧ c ≤ b := by
  unfold pa
  by_cases h1 : q = 0 ∧ w own lab = true
  · rw [if_pos h1]
    exact ⟨0, rfl, Nat.zero_le _⟩
  · rw [if_neg h1]
    have hp2 : p = 0 ∨ p = 1 := by omega
    have hb2 : b = 0 ∨ b = 1 := by omega
    rcases hp2 with rfl | rfl
    · have hq0 : q = 0 := by omega
      rcases hb2 with rfl | rfl
      · rw [ld_00] at h
        exact absurd ⟨hq0, h⟩ h1
      · rw [ld_01, Bool.or_eq_true, Bool.or_eq_true, decide_eq_true_iff] at h
        rw [if_pos (by rcases h with h | h | h; exact Or.inl (Or.inl h); exact Or.inl (Or.inr h); exact Or.inr ⟨hq0, h⟩)]
        exact ⟨1, rfl, Nat.le_refl 1⟩
    · rcases hb2 with rfl | rfl
      · rw [ld_10] at h
        cases h
      · rw [ld_11, Bool.or_eq_true] at h
        rw [if_pos (Or.inl h)]
        exact ⟨1, rfl, Nat.le_refl 1⟩
theorem dS_some {S T L : Nat → Nat} {w : Nat → Nat → Bool} {own oth s x y : Nat} (h : dS S T L w own oth s x = some y) : ∃ b, b < 2 ∧ y = 2 * T s + b ∧ pa w own oth (L s) (x % 2) = some b ∧ S s = x / 2 := by
  unfold dS at h
  by_cases h1 : S s = x / 2
  · rw [if_pos h1] at h
    cases h2 : pa w own oth (L s) (x % 2) with
    | none =>
      rw [h2] at h
      cases h
    | some b =>
      rw [h2] at h
      cases h
      exact ⟨b, pa_lt h2, rfl, rfl, h1⟩
  · rw [if_neg h1] at h
    cases h
theorem dS_EN {m : Nat} {S T L : Nat → Nat} {w : Nat → Nat → Bool} {own oth s x y : Nat} (hs : s < m) (h : dS S T L w own oth s x = some y) : EN m S T L w own oth x y := by
  obtain ⟨b, hb, rfl, h1, h2⟩ := dS_some h
  have h3 := pa_ld (show x % 2 < 2 by omega) h1
  exact ⟨s, hs, 2 * (x % 2) + b, by omega, by rw [show (2 * (x % 2) + b) / 2 = x % 2 by omega, show (2 * (x % 2) + b) % 2 = b by omega]; exact h3, by omega, by omega⟩
theorem dS_sim {S T L : Nat → Nat} {w : Nat → Nat → Bool} {own oth s p b x : Nat} (hp : p < 2) (hb : b < 2) (h : ld w own oth (L s) p b = true) (hx : x / 2 = S s) (hxp : x % 2 ≤ p) : ∃ y, dS S T L w own oth s x = some y ∧ y / 2 = T s ∧ y % 2 ≤ b := by
  obtain ⟨c, h1, h2⟩ := pa_le hp hb hxp h
  have := pa_lt h1
  refine ⟨2 * T s + c, ?_, by omega, by omega⟩
  unfold dS
  rw [if_pos hx.symm, h1]
  rfl
def ED (m : Nat) (S T L : Nat → Nat) (w : Nat → Nat → Bool) (own oth : Nat) : Nat → Nat → Prop := fun x y => ∃ s, s < m ∧ dS S T L w own oth s x = some y
theorem ED_EN {m : Nat} {S T L : Nat → Nat} {w : Nat → Nat → Bool} {own oth x y : Nat} (h : ED m S T L w own oth x y) : EN m S T L w own oth x y := by
  obtain ⟨s, hs, h⟩ := h
  exact dS_EN hs h
theorem EN_sim {m : Nat} {S T L : Nat → Nat} {w : Nat → Nat → Bool} {own oth : Nat} : ∀ (k x y x2 : Nat), wk (EN m S T L w own oth) k x y → x2 / 2 = x / 2 → x2 % 2 ≤ x % 2 → ∃ y2, wk (ED m S T L w own oth) k x2 y2 ∧ y2 / 2 = y / 2 ∧ y2 % 2 ≤ y % 2 := by
  intro k
  induction k with
  | zero =>
    intro x y x2 h h1 h2
    have h : x = y := h
    subst h
    exact ⟨x2, rfl, h1, h2⟩
  | succ k ih =>
    rintro x y x2 ⟨c, h, s, hs, j, hj, h3, h4, h5⟩ h1 h2
    obtain ⟨c2, g1, g2, g3⟩ := ih x c x2 h h1 h2
    obtain ⟨y2, g4, g5, g6⟩ := dS_sim (T := T) (x := c2) (S := S) (show j / 2 < 2 by omega) (show j % 2 < 2 by omega) h3 (by omega) (by omega)
    exact ⟨y2, ⟨c2, g1, s, hs, g4⟩, by omega, by omega⟩
def lxl (a b c d : Nat) : Prop := a < c ∨ (a = c ∧ b < d)
def Bf (m : Nat) (dl : Nat → Nat → Option Nat) (x0 p s c : Nat) (nd ln pv ar : Nat → Nat) : Prop :=
  0 < c ∧ nd 0 = x0 ∧ ln 0 = 0 ∧ (∀ i j, i < c → j < c → nd i = nd j → i = j) ∧
  (∀ i, 0 < i → i < c → pv i < i ∧ ar i < m ∧ dl (ar i) (nd (pv i)) = some (nd i) ∧ ln i = ln (pv i) + 1 ∧ lxl (pv i) (ar i) p s) ∧
  (∀ i j, 0 < i → i < j → j < c → lxl (pv i) (ar i) (pv j) (ar j)) ∧
  (∀ q t y, lxl q t p s → q < c → t < m → dl t (nd q) = some y → ∃ i, i < c ∧ nd i = y ∧ (i = 0 ∨ lxl (pv i) (ar i) q (t + 1)))
theorem Bf_init (m : Nat) (dl : Nat → Nat → Option Nat) (x0 : Nat) {nd ln pv ar : Nat → Nat} (h1 : nd 0 = x0) (h2 : ln 0 = 0) : Bf m dl x0 0 0 1 nd ln pv ar :=
  ⟨by decide, h1, h2, fun i j hi hj _ => by omega, fun i h1 h2 => by omega, fun i j h1 h2 h3 => by omega, fun q t y h => by rcases h with h | h <;> omega⟩
theorem Bf_none {m : Nat} {dl : Nat → Nat → Option Nat} {x0 p s c : Nat} {nd ln pv ar : Nat → Nat} (h : Bf m dl x0 p s c nd ln pv ar) (hn : ∀ y, dl s (nd p) = some y → ∃ i, i < c ∧ nd i = y) : Bf m dl x0 p (s + 1) c nd ln pv ar := by
  obtain ⟨h1, h2, h3, h4, h5, h6, h7⟩ := h
  refine ⟨h1, h2, h3, h4, fun i a b => ?_, h6, fun q t y a b d e => ?_⟩
  · obtain ⟨g1, g2, g3, g4, g5⟩ := h5 i a b
    exact ⟨g1, g2, g3, g4, by rcases g5 with g | g; exact Or.inl g; exact Or.inr ⟨g.1, by omega⟩⟩
  · by_cases hc : q = p ∧ t = s
    · obtain ⟨rfl, rfl⟩ := hc
      obtain ⟨i, g1, g2⟩ := hn y e
      refine ⟨i, g1, g2, ?_⟩
      by_cases hi : i = 0
      · exact Or.inl hi
      · rcases (h5 i (by omega) g1).2.2.2.2 with g | g
        · exact Or.inr (Or.inl g)
        · exact Or.inr (Or.inr ⟨g.1, by omega⟩)
    · refine h7 q t y ?_ b d e
      rcases a with a | a
      · exact Or.inl a
      · exact Or.inr ⟨a.1, by omega⟩
theorem Bf_add {m : Nat} {dl : Nat → Nat → Option Nat} {x0 p s c : Nat} {nd ln pv ar : Nat → Nat} (h : Bf m dl x0 p s c nd ln pv ar) (hp : p < c) (hs : s < m) {y : Nat} (hy : dl s (nd p) = some y) (hnew : ∀ i, i < c → nd i ≠ y) : Bf m dl x0 p (s + 1) (c + 1) (put1 nd c y) (put1 ln c (ln p + 1)) (put1 pv c p) (put1 ar c s) := by
  obtain ⟨h1, h2, h3, h4, h5, h6, h7⟩ := h
  have pn : ∀ {f : Nat → Nat} {v i : Nat}, i < c → put1 f c v i = f i := fun hi => if_neg (by omega)
  have pc : ∀ {f : Nat → Nat} {v : Nat}, put1 f c v c = v := if_pos rfl
  refine ⟨by omega, by rw [pn h1]; exact h2, by rw [pn h1]; exact h3, fun i j hi hj he => ?_, fun i a b => ?_, fun i j a b d => ?_, fun q t z a b d e => ?_⟩
  · by_cases hic : i = c
    · by_cases hjc : j = c
      · omega
      · rw [hic, pc, pn (show j < c by omega)] at he
        exact absurd he.symm (hnew j (by omega))
    · by_cases hjc : j = c
      · rw [hjc, pc, pn (show i < c by omega)] at he
        exact absurd he (hnew i (by omega))
      · rw [pn (show i < c by omega), pn (show j < c by omega)] at he
        exact h4 i j (by omega) (by omega) he
  · by_cases hic : i = c
    · subst hic
      rw [pc, pc, pc, pc, pn hp, pn hp]
      exact ⟨hp, hs, hy, rfl, Or.inr ⟨rfl, by omega⟩⟩
    · obtain ⟨g1, g2, g3, g4, g5⟩ := h5 i a (by omega)
      rw [pn (show i < c by omega), pn (show i < c by omega), pn (show i < c by omega), pn (show i < c by omega), pn (show pv i < c by omega), pn (show pv i < c by omega)]
      exact ⟨g1, g2, g3, g4, by rcases g5 with g | g; exact Or.inl g; exact Or.inr ⟨g.1, by omega⟩⟩
  · by_cases hjc : j = c
    · subst hjc
      rw [pc, pc, pn b, pn b]
      exact (h5 i a b).2.2.2.2
    · rw [pn (show i < c by omega), pn (show i < c by omega), pn (show j < c by omega), pn (show j < c by omega)]
      exact h6 i j a b (by omega)
  · have hqc : q < c := by
      rcases a with a | a <;> omega
    rw [pn hqc] at e
    by_cases hc : q = p ∧ t = s
    · obtain ⟨rfl, rfl⟩ := hc
      rw [hy] at e
      cases e
      exact ⟨c, by omega, pc, Or.inr (by rw [pc, pc]; exact Or.inr ⟨rfl, by omega⟩)⟩
    · obtain ⟨i, g1, g2, g3⟩ := h7 q t z (by rcases a with a | a; exact Or.inl a; exact Or.inr ⟨a.1, by omega⟩) hqc d e
      refine ⟨i, by omega, by rw [pn g1]; exact g2, ?_⟩
      rw [pn g1, pn g1]
      exact g3
theorem Bf_next {m : Nat} {dl : Nat → Nat → Option Nat} {x0 p c : Nat} {nd ln pv ar : Nat → Nat} (h : Bf m dl x0 p m c nd ln pv ar) : Bf m dl x0 (p + 1) 0 c nd ln pv ar := by
  obtain ⟨h1, h2, h3, h4, h5, h6, h7⟩ := h
  refine ⟨h1, h2, h3, h4, fun i a b => ?_, h6, fun q t y a b d e => ?_⟩
  · obtain ⟨g1, g2, g3, g4, g5⟩ := h5 i a b
    exact ⟨g1, g2, g3, g4, Or.inl (by rcases g5 with g | g <;> omega)⟩
  · refine h7 q t y ?_ b d e
    rcases a with a | a
    · by_cases hqp : q = p
      · exact Or.inr ⟨hqp, d⟩
      · exact Or.inl (by omega)
    · omega
theorem Bf_mono {m : Nat} {dl : Nat → Nat → Option Nat} {x0 p s c : Nat} {nd ln pv ar : Nat → Nat} (h : Bf m dl x0 p s c nd ln pv ar) : ∀ (j i : Nat), i ≤ j → j < c → ln i ≤ ln j := by
  intro j
  induction j using Nat.strongRecOn with
  | ind j ih =>
    intro i hij hj
    by_cases he : i = j
    · subst he
      exact Nat.le_refl _
    · by_cases hi : i = 0
      · rw [hi, h.2.2.1]
        exact Nat.zero_le _
      · have g1 := h.2.2.2.2.1 i (by omega) (by omega)
        have g2 := h.2.2.2.2.1 j (by omega) hj
        have g3 := h.2.2.2.2.2.1 i j (by omega) (by omega) hj
        rw [g1.2.2.2.1, g2.2.2.2.1]
        have := ih (pv j) g2.1 (pv i) (by rcases g3 with g | g <;> omega) (by omega)
        omega
theorem Bf_walk {m : Nat} {S T L : Nat → Nat} {w : Nat → Nat → Bool} {own oth x0 p s c : Nat} {nd ln pv ar : Nat → Nat} (h : Bf m (dS S T L w own oth) x0 p s c nd ln pv ar) : ∀ i, i < c → wk (ED m S T L w own oth) (ln i) x0 (nd i) := by
  intro i
  induction i using Nat.strongRecOn with
  | ind i ih =>
    intro hi
    by_cases h0 : i = 0
    · subst h0
      rw [h.2.2.1]
      exact h.2.1.symm
    · have g := h.2.2.2.2.1 i (by omega) hi
      rw [g.2.2.2.1]
      exact ⟨nd (pv i), ih (pv i) g.1 (by omega), ar i, g.2.1, g.2.2.1⟩
theorem Bf_reach {m : Nat} {S T L : Nat → Nat} {w : Nat → Nat → Bool} {own oth x0 c : Nat} {nd ln pv ar : Nat → Nat} (h : Bf m (dS S T L w own oth) x0 c 0 c nd ln pv ar) : ∀ (k y : Nat), wk (ED m S T L w own oth) k x0 y → ∃ i, i < c ∧ nd i = y ∧ ln i ≤ k := by
  intro k
  induction k with
  | zero =>
    intro y hy
    have hy : x0 = y := hy
    exact ⟨0, h.1, by rw [h.2.1]; exact hy, by rw [h.2.2.1]; exact Nat.le_refl 0⟩
  | succ k ih =>
    rintro y ⟨z, h1, t, h2, h3⟩
    obtain ⟨i, g1, rfl, g3⟩ := ih z h1
    obtain ⟨j, g4, g5, g6⟩ := h.2.2.2.2.2.2 i t y (Or.inl g1) g1 h2 h3
    refine ⟨j, g4, g5, ?_⟩
    by_cases hj : j = 0
    · rw [hj, h.2.2.1]
      exact Nat.zero_le _
    · have g7 := h.2.2.2.2.1 j (by omega) g4
      have g8 : pv j ≤ i := by
        rcases g6 with g | g | g <;> omega
      have := Bf_mono h i (pv j) g8 g1
      rw [g7.2.2.2.1]
      omega
def up (pv : Nat → Nat) : Nat → Nat → Nat
  | 0, i => i
  | u + 1, i => pv (up pv u i)
theorem Bf_up {m : Nat} {dl : Nat → Nat → Option Nat} {x0 p s c : Nat} {nd ln pv ar : Nat → Nat} (h : Bf m dl x0 p s c nd ln pv ar) {i : Nat} (hi : i < c) : ∀ u, u ≤ ln i → up pv u i < c ∧ ln (up pv u i) + u = ln i := by
  intro u
  induction u with
  | zero => exact fun _ => ⟨hi, rfl⟩
  | succ u ih =>
    intro hu
    obtain ⟨g1, g2⟩ := ih (by omega)
    have hpos : 0 < up pv u i := by
      refine Nat.pos_of_ne_zero (fun h0 => ?_)
      rw [h0, h.2.2.1] at g2
      omega
    have g3 := h.2.2.2.2.1 _ hpos g1
    have g4 := g3.2.2.2.1
    exact ⟨by show pv (up pv u i) < c; omega, by show ln (pv (up pv u i)) + (u + 1) = ln i; omega⟩
theorem Bf_lt {m : Nat} {S T L : Nat → Nat} {w : Nat → Nat → Bool} {own oth x0 c : Nat} {nd ln pv ar : Nat → Nat} (h : Bf m (dS S T L w own oth) x0 c 0 c nd ln pv ar) {i : Nat} (hi : i < c) : ∀ (k j z : Nat), k ≤ ln i → j < c → j < up pv k i → wk (ED m S T L w own oth) k (nd j) z → ∃ q, q < i ∧ nd q = z := by
  intro k
  induction k with
  | zero =>
    intro j z _ _ h1 h2
    exact ⟨j, h1, h2⟩
  | succ k ih =>
    intro j z hk hj h1 h2
    obtain ⟨y, ⟨t, g1, g2⟩, h4⟩ := wk_head _ _ _ h2
    obtain ⟨q, g3, rfl, g5⟩ := h.2.2.2.2.2.2 j t y (Or.inl hj) hj g1 g2
    obtain ⟨a1, a2⟩ := Bf_up h hi k (by omega)
    have hpos : 0 < up pv k i := by
      refine Nat.pos_of_ne_zero (fun h0 => ?_)
      rw [h0, h.2.2.1] at a2
      omega
    refine ih q z (by omega) g3 ?_ h4
    have h1 : j < pv (up pv k i) := h1
    refine Nat.lt_of_not_le (fun hge => ?_)
    have hq0 : 0 < q := by omega
    have g6 : pv q ≤ j := by rcases g5 with g | g | g <;> omega
    by_cases hqe : q = up pv k i
    · rw [hqe] at g6
      omega
    · rcases h.2.2.2.2.2.1 (up pv k i) q hpos (by omega) g3 with g | g <;> omega
