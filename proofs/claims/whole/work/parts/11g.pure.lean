theorem bc16 {a b : Nat} (ha : a < 256) (hb : b < 256) : f_J6_bitCount_0f7a4 (nI (a + 256 * b)) = some (nI (cb (fun j => a.testBit j) 8 + cb (fun j => b.testBit j) 8)) := by
  by_cases h1 : b < 64
  · exact bc16_0 b h1 a ha
  · by_cases h2 : b < 128
    · have := bc16_1 (b - 64) (by omega) a ha
      rw [show b - 64 + 64 = b by omega] at this
      exact this
    · by_cases h3 : b < 192
      · have := bc16_2 (b - 128) (by omega) a ha
        rw [show b - 128 + 128 = b by omega] at this
        exact this
      · have := bc16_3 (b - 192) (by omega) a ha
        rw [show b - 192 + 192 = b by omega] at this
        exact this
theorem cb_cong {f g : Nat → Bool} : ∀ n, (∀ j, j < n → f j = g j) → cb f n = cb g n := by
  intro n
  induction n with
  | zero => intro _; rfl
  | succ n ih =>
    intro h
    show cb f n + (f n).toNat = cb g n + (g n).toNat
    rw [ih (fun j hj => h j (by omega)), h n (by omega)]
theorem cb_split (f : Nat → Bool) (p : Nat) : ∀ q, cb f (p + q) = cb f p + cb (fun j => f (p + j)) q := by
  intro q
  induction q with
  | zero => rfl
  | succ q ih =>
    show cb f (p + q) + (f (p + q)).toNat = cb f p + (cb (fun j => f (p + j)) q + (f (p + q)).toNat)
    omega
theorem bc_x {x : Int32} (h : ∀ j, j < 32 → bt x j = true → j < 16) : f_J6_bitCount_0f7a4 x = some (nI (cb (bt x) 16)) := by
  obtain ⟨k, rfl, hk⟩ := b_nat x
  have hlt : k < 65536 := Nat.lt_pow_two_of_testBit k (n := 16) (fun i hi => by
    rw [hk i]
    rcases Nat.lt_or_ge i 32 with h3 | h3
    · cases hb : bt (nI k) i with
      | false => rfl
      | true => exact absurd (h i h3 hb) (by omega)
    · exact b_big h3)
  have e : nI k = nI (k % 256 + 256 * (k / 256)) := by rw [Nat.mod_add_div]
  have e2 : f_J6_bitCount_0f7a4 (nI k) = f_J6_bitCount_0f7a4 (nI (k % 256 + 256 * (k / 256))) := by rw [← e]
  rw [e2, bc16 (Nat.mod_lt _ (by decide)) (by omega), cb_split _ 8 8]
  congr 2
  congr 1
  · refine cb_cong 8 (fun j hj => ?_)
    rw [show (256 : Nat) = 2 ^ 8 from rfl, Nat.testBit_mod_two_pow, ← hk j]
    simp [hj]
  · refine cb_cong 8 (fun j hj => ?_)
    rw [show (256 : Nat) = 2 ^ 8 from rfl, Nat.testBit_div_two_pow, ← hk (8 + j), Nat.add_comm]
theorem cb_0 {f : Nat → Bool} : ∀ n, (∀ j, j < n → f j = false) → cb f n = 0 := by
  intro n
  induction n with
  | zero => intro _; rfl
  | succ n ih =>
    intro h
    show cb f n + (f n).toNat = 0
    rw [ih (fun j hj => h j (by omega)), h n (by omega)]
    rfl
theorem cb_pos {f : Nat → Bool} {i : Nat} (hi : f i = true) : ∀ n, i < n → 1 ≤ cb f n := by
  intro n
  induction n with
  | zero => intro h; omega
  | succ n ih =>
    intro h
    show 1 ≤ cb f n + (f n).toNat
    by_cases h1 : i = n
    · subst h1
      rw [hi]
      show 1 ≤ cb f i + 1
      omega
    · have := ih (by omega)
      omega
theorem cb_two {f : Nat → Bool} {i j : Nat} (hi : f i = true) (hj : f j = true) (hij : i < j) : ∀ n, j < n → 2 ≤ cb f n := by
  intro n
  induction n with
  | zero => intro h; omega
  | succ n ih =>
    intro h
    show 2 ≤ cb f n + (f n).toNat
    by_cases h1 : j = n
    · subst h1
      have := cb_pos hi j hij
      rw [hj]
      show 2 ≤ cb f j + 1
      omega
    · have := ih (by omega)
      omega
theorem cb_one {f : Nat → Bool} {l : Nat} : ∀ n, (∀ j, j < n → f j = true → j = l) → cb f n ≤ 1 := by
  intro n
  induction n with
  | zero => intro _; exact Nat.zero_le 1
  | succ n ih =>
    intro h
    show cb f n + (f n).toNat ≤ 1
    cases hn : f n with
    | false =>
      have := ih (fun j hj => h j (by omega))
      simpa using this
    | true =>
      have h2 := h n (by omega) hn
      rw [cb_0 n (fun j hj => by
        cases hj2 : f j with
        | false => rfl
        | true =>
          have := h j (by omega) hj2
          omega)]
      decide
/-! ===== normal forms ===== -/
def Nrm (n m : Nat) (S : Nat → Nat) (j : Nat) : Prop := j < n ∧ ∀ s, s < m → S s ≠ j
theorem b_all : ∀ n, n < 17 → ∀ j, j < 32 → bt (((1 : Int32) <<< (nI n &&& 31)) - 1) j = decide (j < n) := by decide +kernel
theorem x_normals (fu : Nat) (hfu : 32 < fu) {n m : Nat} {S T L : Nat → Nat} {ox sx : Int32} {lx cx tx : Nat → Int32} (hp : SyP n m S T L) (hx : Sy n m S T L ox sx lx cx tx) :
    tot (f_X3_normalForms fu ox sx cx) (fun r => ∀ j, j < 32 → (bt r j = true ↔ Nrm n m S j)) := by
  have hn := hp.1
  have hm := hp.2.1
  obtain ⟨rfl, rfl, _, hc, ht⟩ := hx
  unfold f_X3_normalForms
  refine tot_lt (tot_lt (lw2 (fun k v w => ∃ i, w = nI i ∧ i + k = m ∧ ∀ j, j < 32 → (bt v j = true ↔ Nrm n i S j)) ?_ fu m _ _ (by omega) ⟨0, rfl, by omega, fun j hj => ?_⟩))
  · rintro r k v w ⟨i, rfl, hi, hv⟩ ih
    unfold f_X3_normalForms_L11
    by_cases him : i = m
    · subst him
      rw [if_pos (nI_le (Nat.le_refl i) (by omega))]
      exact tot_some hv
    · rw [if_neg (nI_ge (a := i) (by omega) (by omega))]
      have hS := hp.2.2 i (by omega)
      simp (disch := omega) only [ck_nI, nI_clamp, lt, nI_1]
      rw [hc i (by omega)]
      refine ih (k - 1) _ _ (by omega) ⟨i + 1, rfl, by omega, fun j hj => ?_⟩
      rw [b_and, b_xor, b_1shl (by omega) hj, b_m1 j hj, Bool.and_eq_true, hv j hj]
      constructor
      · rintro ⟨⟨h1, h2⟩, h3⟩
        refine ⟨h1, fun s hs => ?_⟩
        by_cases hsi : s = i
        · subst hsi
          intro h4
          rw [decide_eq_true h4.symm] at h3
          cases h3
        · exact h2 s (by omega)
      · rintro ⟨h1, h2⟩
        refine ⟨⟨h1, fun s hs => h2 s (by omega)⟩, ?_⟩
        rw [decide_eq_false (fun h => h2 i (by omega) h.symm)]
        rfl
  · rw [b_all n (by omega) j hj, decide_eq_true_iff]
    exact ⟨fun h => ⟨h, fun s hs => absurd hs (Nat.not_lt_zero s)⟩, fun h => h.1⟩
theorem m_isNormal (fu : Nat) (hfu : 32 < fu) {n m : Nat} {S T L : Nat → Nat} {om sm : Int32} {lm cm tm : Nat → Int32} (hp : SyP n m S T L) (hx : Sy n m S T L om sm lm cm tm) {o : Nat} (ho : o < n) :
    tot (f_X12_isNormal fu sm cm (nI o)) (fun r => (r = 1 ∧ Nrm n m S o) ∨ (r = 0 ∧ ¬ Nrm n m S o)) := by
  have hn := hp.1
  have hm := hp.2.1
  obtain ⟨rfl, rfl, _, hc, ht⟩ := hx
  unfold f_X12_isNormal
  refine tot_lt (lw1 (fun k v => ∃ i, v = nI i ∧ i + k = m ∧ ∀ s, s < i → S s ≠ o) ?_ fu m _ (by omega) ⟨0, rfl, by omega, fun s hs => absurd hs (Nat.not_lt_zero s)⟩)
  rintro r k v ⟨i, rfl, hi, hv⟩ ih
  unfold f_X12_isNormal_L2
  by_cases him : i = m
  · subst him
    rw [if_pos (nI_le (Nat.le_refl i) (by omega))]
    exact tot_some (Or.inl ⟨rfl, ho, hv⟩)
  · rw [if_neg (nI_ge (a := i) (by omega) (by omega))]
    have hS := hp.2.2 i (by omega)
    simp (disch := omega) only [ck_nI, nI_clamp, lt, nI_1]
    rw [hc i (by omega)]
    simp (disch := omega) only [nI_eq]
    by_cases h : S i = o
    · rw [if_neg (fun h2 => h2 h)]
      exact tot_some (Or.inr ⟨rfl, fun h2 => h2.2 i (by omega) h⟩)
    · rw [if_pos h]
      refine ih (k - 1) _ (by omega) ⟨i + 1, rfl, by omega, fun s hs => ?_⟩
      by_cases hsi : s = i
      · subst hsi
        exact h
      · exact hv s (by omega)
def nfS (n : Nat) (Q : Nat → Prop) (r : Int32) : Prop := (r = -2 ∧ ∀ j, ¬ Q j) ∨ (∃ l, l < n ∧ r = nI l ∧ Q l ∧ ∀ j, Q j → j = l) ∨ (r = -7 ∧ ∃ i j, i < j ∧ Q i ∧ Q j)
theorem nfS_eq {n : Nat} {Q : Nat → Prop} {r r2 : Int32} (h1 : nfS n Q r) (h2 : nfS n Q r2) : r = r2 := by
  rcases h1 with ⟨a1, a2⟩ | ⟨l, a1, a2, a3, a4⟩ | ⟨a1, i, j, a2, a3, a4⟩
  · rcases h2 with ⟨b1, b2⟩ | ⟨l2, b1, b2, b3, b4⟩ | ⟨b1, i2, j2, b2, b3, b4⟩
    · rw [a1, b1]
    · exact absurd b3 (a2 l2)
    · exact absurd b3 (a2 i2)
  · rcases h2 with ⟨b1, b2⟩ | ⟨l2, b1, b2, b3, b4⟩ | ⟨b1, i2, j2, b2, b3, b4⟩
    · exact absurd a3 (b2 l)
    · rw [a2, b2, a4 l2 b3]
    · have := a4 i2 b3
      have := a4 j2 b4
      omega
  · rcases h2 with ⟨b1, b2⟩ | ⟨l2, b1, b2, b3, b4⟩ | ⟨b1, i2, j2, b2, b3, b4⟩
    · exact absurd a3 (b2 i)
    · have := b4 i a3
      have := b4 j a4
      omega
    · rw [a1, b1]
theorem s_normalForm (fu : Nat) (hfu : 32 < fu) {n m : Nat} {S T L : Nat → Nat} {ox sx om sm : Int32} {lx cx tx lm cm tm : Nat → Int32} (hp : SyP n m S T L) (hx : Sy n m S T L ox sx lx cx tx) (hm : Sy n m S T L om sm lm cm tm) (D : Nat → Nat → Int32) (v1 : Int32) :
    ∃ (r : Int32) (D' : Nat → Nat → Int32), f_X11_normalForm fu ox sx lx cx tx v1 = some r ∧ f_X12_normalForm fu om sm D cm tm v1 = some (r, D') := by
  have hn := hp.1
  have h0 := hx.1
  have h1 := hm.1
  subst h0 h1
  cases hv : inN v1 n with
  | false =>
    unfold f_X11_normalForm f_X12_normalForm
    simp (disch := omega) only [obj_x, obj_m, Option.bind_some, bI_ifn, hv, ↓reduceIte, Bool.false_eq_true]
    exact ⟨_, _, rfl, rfl⟩
  | true =>
    obtain ⟨o, ho, rfl⟩ := inN_of (by omega) hv
    have hX : tot (f_X11_normalForm fu (nI n) sx lx cx tx (nI o)) (nfS n (fun j => Rch (Es m S T) o j ∧ Nrm n m S j)) := by
      unfold f_X11_normalForm
      simp (disch := omega) only [obj_x, Option.bind_some, bI_ifn, hv, ↓reduceIte]
      obtain ⟨r, e1, e2⟩ := x_reach fu hfu hp hx ho
      obtain ⟨r2, e3, e4⟩ := x_normals fu hfu hp hx
      rw [e1, e3]
      simp only [Option.bind_some, lt]
      have hb : ∀ j, j < 32 → (bt (r &&& r2) j = true ↔ (Rch (Es m S T) o j ∧ Nrm n m S j)) := fun j hj => by
        rw [b_and, Bool.and_eq_true, e2 j hj, e4 j hj]
      by_cases hz : r &&& r2 = 0
      · rw [if_neg (fun h => h hz)]
        refine tot_some (Or.inl ⟨rfl, fun j hj => ?_⟩)
        have := (hb j (by have := hj.2.1; omega)).mpr hj
        rw [hz, b_0] at this
        cases this
      · rw [if_pos hz, bc_x (fun j hj h => by have := ((hb j hj).mp h).2.1; omega)]
        simp only [Option.bind_some]
        rw [show (1 : Int32) = nI 1 from rfl]
        obtain ⟨l, g1, g2, g3⟩ := b_least hz
        have g4 := (hb l g1).mp g2
        have g5 := g4.2.1
        by_cases hu : ∀ j, (Rch (Es m S T) o j ∧ Nrm n m S j) → j = l
        · have hc : cb (bt (r &&& r2)) 16 ≤ 1 := cb_one (l := l) 16 (fun j hj h => hu j ((hb j (by omega)).mp h))
          rw [if_pos (nI_le (b := 1) hc (by decide)), x_lowest (by omega) g2 g3]
          exact tot_some (Or.inr (Or.inl ⟨l, g5, rfl, g4, hu⟩))
        · have hj : ∃ j, (Rch (Es m S T) o j ∧ Nrm n m S j) ∧ j ≠ l := by
            refine Classical.byContradiction (fun hc => hu (fun j hj => ?_))
            exact Classical.byContradiction (fun hne => hc ⟨j, hj, hne⟩)
          obtain ⟨j, hj, hne⟩ := hj
          have hj2 := hj.2.1
          have hbj := (hb j (by omega)).mpr hj
          have hlj : l < j := by
            rcases Nat.lt_or_ge j l with h | h
            · rw [g3 j h] at hbj
              cases hbj
            · omega
          have hc := cb_two g2 hbj hlj 16 (by omega)
          have hc2 : cb (bt (r &&& r2)) 16 < 2 ^ 31 := by
            have h16 : ∀ (f : Nat → Bool) (q : Nat), cb f q ≤ q := by
              intro f q
              induction q with
              | zero => exact Nat.le_refl 0
              | succ q ih =>
                show cb f q + (f q).toNat ≤ q + 1
                have : (f q).toNat ≤ 1 := by cases f q <;> decide
                omega
            have := h16 (bt (r &&& r2)) 16
            omega
          rw [if_neg (nI_ge (a := 1) (by omega) hc2)]
          exact tot_some (Or.inr (Or.inr ⟨rfl, l, j, hlj, g4, hj⟩))
    have hM : tot (f_X12_normalForm fu (nI n) sm D cm tm (nI o)) (fun q => nfS n (fun j => Rch (Es m S T) o j ∧ Nrm n m S j) q.1) := by
      unfold f_X12_normalForm
      simp (disch := omega) only [obj_m, Option.bind_some, bI_ifn, hv, ↓reduceIte]
      obtain ⟨D', e3, e4⟩ := m_dist fu hfu hp hm D
      rw [e3]
      simp only [Option.bind_some]
      refine tot_lt (tot_lt (lw2 (fun k v w => ∃ i, w = nI i ∧ i + k = n ∧ ((v = -2 ∧ ∀ j, j < i → ¬ (Rch (Es m S T) o j ∧ Nrm n m S j)) ∨ (∃ l, l < i ∧ v = nI l ∧ (Rch (Es m S T) o l ∧ Nrm n m S l) ∧ ∀ j, j < i → (Rch (Es m S T) o j ∧ Nrm n m S j) → j = l))) ?_ fu n _ _ (by omega) ⟨0, rfl, by omega, Or.inl ⟨rfl, fun j hj => absurd hj (Nat.not_lt_zero j)⟩⟩))
      rintro r k v w ⟨i, rfl, hi, hv⟩ ih
      unfold f_X12_normalForm_L19 f_X12_normalForm_J60
      by_cases hin : i = n
      · subst hin
        rw [if_pos (nI_le (Nat.le_refl i) (by omega))]
        refine tot_some ?_
        rcases hv with ⟨h1, h2⟩ | ⟨l, h1, h2, h3, h4⟩
        · exact Or.inl ⟨h1, fun j hj => h2 j hj.2.1 hj⟩
        · exact Or.inr (Or.inl ⟨l, h1, h2, h3, fun j hj => h4 j hj.2.1 hj⟩)
      · rw [if_neg (nI_ge (a := i) (by omega) (by omega))]
        simp (disch := omega) only [ck_nI, nI_clamp, lt, nI_1]
        have hfar := DsP_far hp e4 ho (show i < n by omega)
        have skip : ¬ (Rch (Es m S T) o i ∧ Nrm n m S i) → tot (r v (nI (i + 1))) (fun q => nfS n (fun j => Rch (Es m S T) o j ∧ Nrm n m S j) q.1) := by
          intro hno
          refine ih (k - 1) _ _ (by omega) ⟨i + 1, rfl, by omega, ?_⟩
          rcases hv with ⟨h1, h2⟩ | ⟨l, h1, h2, h3, h4⟩
          · refine Or.inl ⟨h1, fun j hj => ?_⟩
            by_cases hji : j = i
            · subst hji
              exact hno
            · exact h2 j (by omega)
          · refine Or.inr ⟨l, by omega, h2, h3, fun j hj hq => ?_⟩
            by_cases hji : j = i
            · subst hji
              exact absurd hq hno
            · exact h4 j (by omega) hq
        by_cases h : (1000 : Int32) ≤ D' o i
        · rw [if_pos h]
          exact skip (fun hq => hfar.mp h hq.1)
        · rw [if_neg h]
          have hr : Rch (Es m S T) o i := Classical.byContradiction (fun hc => h (hfar.mpr hc))
          obtain ⟨b, f1, f2⟩ := m_isNormal fu hfu hp hm (show i < n by omega)
          rw [f1]
          simp only [Option.bind_some]
          rcases f2 with ⟨rfl, f3⟩ | ⟨rfl, f3⟩
          · rw [if_neg (by decide)]
            rcases hv with ⟨rfl, h2⟩ | ⟨l, h1, rfl, h3, h4⟩
            · rw [if_pos rfl]
              refine ih (k - 1) _ _ (by omega) ⟨i + 1, rfl, by omega, Or.inr ⟨i, by omega, rfl, ⟨hr, f3⟩, fun j hj hq => ?_⟩⟩
              refine Classical.byContradiction (fun hc => h2 j (by omega) hq)
            · have hne : ¬ nI l = -2 := by
                intro hc
                have : (nI l).toInt = (-2 : Int32).toInt := by rw [hc]
                rw [nI_toInt (by omega)] at this
                have h22 : (-2 : Int32).toInt = -2 := by decide
                omega
              rw [if_neg hne]
              exact tot_some (Or.inr (Or.inr ⟨rfl, l, i, h1, h3, ⟨hr, f3⟩⟩))
          · rw [if_pos rfl]
            exact skip (fun hq => f3 hq.2)
    obtain ⟨r, e1, e2⟩ := hX
    obtain ⟨⟨r2, D'⟩, e3, e4⟩ := hM
    have := nfS_eq e2 e4
    subst this
    exact ⟨_, _, e1, e3⟩
