/-! ===== distance ===== -/
theorem b_sh1 (x : Int32) {j : Nat} (hj : j < 32) : ((x >>> (nI j &&& 31)) &&& 1) = bI (bt x j) := by
  refine b_ext (fun i hi => ?_)
  rw [b_and, b_one]
  by_cases h0 : i = 0
  · subst h0
    rw [b_sshr j hj x (by decide)]
    cases h : bt x j <;> simp [hj, h, bI, b_one, b_0]
  · rw [decide_eq_false h0, Bool.and_false]
    cases bt x j
    · exact (b_0 i).symm
    · show false = bt 1 i
      rw [b_one, decide_eq_false h0]
theorem s_distance (fu : Nat) (hfu : 32 < fu) {n m : Nat} {S T L : Nat → Nat} {ox sx om sm : Int32} {lx cx tx lm cm tm : Nat → Int32} (hp : SyP n m S T L) (hx : Sy n m S T L ox sx lx cx tx) (hm : Sy n m S T L om sm lm cm tm) (D : Nat → Nat → Int32) (v1 v2 : Int32) :
    ∃ (r : Int32) (D' : Nat → Nat → Int32), f_X11_distance fu ox sx lx cx tx v1 v2 = some r ∧ f_X12_distance fu om sm D cm tm v1 v2 = some (r, D') := by
  have hn := hp.1
  have h0 := hx.1
  have h1 := hm.1
  subst h0 h1
  unfold f_X11_distance f_X12_distance
  simp (disch := omega) only [obj_x, obj_m, Option.bind_some, bI_if, bI_ifn]
  cases hv : inN v1 n with
  | false => exact ⟨_, _, rfl, rfl⟩
  | true =>
    cases hw : inN v2 n with
    | false => exact ⟨_, _, rfl, rfl⟩
    | true =>
      obtain ⟨a, ha, rfl⟩ := inN_of (by omega) hv
      obtain ⟨b, hb, rfl⟩ := inN_of (by omega) hw
      simp only [↓reduceIte]
      obtain ⟨D', e3, e4⟩ := m_dist fu hfu hp hm D
      obtain ⟨d, g1, g2, g3, g4⟩ := e4 a ha b hb
      have hX : tot (lt (1 <<< (nI a &&& 31)) (fun v3_27 => lt (0 : Int32) (fun v4_29 => lp (τ := Int32 → Int32 → Option (Int32)) (fun _ _ => none) (f_X11_distance_L31 fu (nI n) sx lx cx tx (nI b)) fu v3_27 v4_29))) (fun r => (r = -2 ∧ ¬ Rch (Es m S T) a b) ∨ ∃ i, r = nI i ∧ wk (Es m S T) i a b ∧ ∀ k, wk (Es m S T) k a b → i ≤ k) := by
        refine tot_lt (tot_lt (lw2 (fun k v w => ∃ i, w = nI i ∧ i + k = n ∧ (∀ j, j < 32 → (bt v j = true ↔ wk (Es m S T) i a j)) ∧ ∀ k, k < i → ¬ wk (Es m S T) k a b) ?_ fu n _ _ (by omega) ⟨0, rfl, by omega, fun j hj => ?_, fun k hk => absurd hk (Nat.not_lt_zero k)⟩))
        · rintro r k v w ⟨i, rfl, hi, hv, hno⟩ ih
          unfold f_X11_distance_L31
          by_cases hin : i = n
          · subst hin
            rw [if_pos (nI_le (Nat.le_refl i) (by omega))]
            refine tot_some (Or.inl ⟨rfl, ?_⟩)
            rintro ⟨k, hk⟩
            obtain ⟨j, h1, h2, h3⟩ := wk_short (Es_in hp) ha k hk
            exact hno j h1 h3
          · rw [if_neg (nI_ge (a := i) (by omega) (by omega)), isIn_e _ (show b < 32 by omega)]
            simp only [Option.bind_some, bI_if]
            by_cases hb2 : bt v b = true
            · rw [if_pos hb2]
              refine tot_some (Or.inr ⟨i, rfl, (hv b (by omega)).mp hb2, fun k hk => ?_⟩)
              refine Classical.byContradiction (fun hc => hno k (by omega) hk)
            · rw [if_neg hb2]
              obtain ⟨sr, e5, e6⟩ := x_succ fu hfu hp hx v 255
              have e7 := x_ends hv (fun s hs => by have := hp.2.2 s hs; omega) e6
              rw [e5]
              simp only [Option.bind_some, lt, nI_1]
              refine ih (k - 1) _ _ (by omega) ⟨i + 1, rfl, by omega, fun j hj => ?_, fun k hk => ?_⟩
              · rw [e7 j hj, Ed_255 hp]
                exact Iff.rfl
              · by_cases hki : k = i
                · subst hki
                  intro h
                  exact hb2 ((hv b (by omega)).mpr h)
                · exact hno k (by omega)
        · rw [b_sing (by omega) j hj]
          exact ⟨fun h => h.symm, fun h => Eq.symm h⟩
      obtain ⟨r, e1, e2⟩ := hX
      rw [e1, e3]
      simp (disch := omega) only [Option.bind_some, ck_nI, nI_clamp, g1]
      rw [show (1000 : Int32) = nI 1000 from rfl]
      simp (disch := omega) only [nI_leI]
      rcases e2 with ⟨rfl, h2⟩ | ⟨i, rfl, h3, h4⟩
      · have : 1000 ≤ d := Classical.byContradiction (fun hc => h2 ⟨d, g3 (by omega)⟩)
        rw [if_pos this]
        exact ⟨_, _, rfl, rfl⟩
      · have h5 := g4 i h3
        obtain ⟨j, h6, h7, h8⟩ := wk_short (Es_in hp) ha i h3
        have h9 := h4 j h8
        have h10 := h4 d (g3 (by omega))
        have : i = d := by omega
        subst this
        rw [if_neg (by omega)]
        exact ⟨_, _, rfl, rfl⟩
/-! ===== the lowest member of a set; counting members ===== -/
theorem b_neg (x : Int32) (i : Nat) (hi : i < 32) : bt (-x) i = (bt x i ^^ decide (∃ j, j < i ∧ bt x j = true)) := by
  unfold bt
  rw [Int32.toBitVec_neg, BitVec.getLsbD_neg]
  simp [hi]
theorem b_low {x : Int32} {l : Nat} (hl : l < 32) (h1 : bt x l = true) (h2 : ∀ j, j < l → bt x j = false) : x &&& (-x) = (1 : Int32) <<< (nI l &&& 31) := by
  refine b_ext (fun i hi => ?_)
  rw [b_and, b_neg x i hi, b_1shl hl hi]
  by_cases h : i = l
  · subst h
    rw [h1, decide_eq_true rfl, decide_eq_false]
    · rfl
    · rintro ⟨j, hj, h3⟩
      rw [h2 j hj] at h3
      cases h3
  · rw [decide_eq_false h]
    by_cases h3 : i < l
    · rw [h2 i h3]
      rfl
    · rw [decide_eq_true (show ∃ j, j < i ∧ bt x j = true from ⟨l, by omega, h1⟩)]
      cases bt x i <;> rfl
theorem low_bc : ∀ l, l < 16 → f_J6_bitCount_0f7a4 (((1 : Int32) <<< (nI l &&& 31)) - 1) = some (nI l) := by decide +kernel
theorem x_lowest {x : Int32} {l : Nat} (hl : l < 16) (h1 : bt x l = true) (h2 : ∀ j, j < l → bt x j = false) : f_X11_lowestMember x = some (nI l) := by
  unfold f_X11_lowestMember
  rw [b_low (by omega) h1 h2, low_bc l hl]
  rfl
theorem b_least {x : Int32} (h : ¬ x = 0) : ∃ l, l < 32 ∧ bt x l = true ∧ ∀ j, j < l → bt x j = false := by
  have h1 : ∃ i, i < 32 ∧ bt x i = true := by
    refine Classical.byContradiction (fun hc => h (b_zero.mpr (fun i hi => ?_)))
    cases hb : bt x i with
    | false => rfl
    | true => exact absurd ⟨i, hi, hb⟩ hc
  obtain ⟨i, hi, hb⟩ := h1
  induction i using Nat.strongRecOn with
  | ind i ih =>
    by_cases hc : ∃ j, j < i ∧ bt x j = true
    · obtain ⟨j, hj, hbj⟩ := hc
      exact ih j hj (by omega) hbj
    · refine ⟨i, hi, hb, fun j hj => ?_⟩
      cases hb2 : bt x j with
      | false => rfl
      | true => exact absurd ⟨j, hj, hb2⟩ hc
/-! ===== component ===== -/
def cv1 (S T : Nat → Nat) (x : Int32) : Nat → Int32
  | 0 => x
  | s + 1 => if (bt (cv1 S T x s) (S s) || bt (cv1 S T x s) (T s)) = true then cv1 S T x s ||| ((1 <<< (nI (S s) &&& 31)) ||| (1 <<< (nI (T s) &&& 31))) else cv1 S T x s
theorem cv1_s (S T : Nat → Nat) (x : Int32) (s : Nat) : cv1 S T x (s + 1) = if (bt (cv1 S T x s) (S s) || bt (cv1 S T x s) (T s)) = true then cv1 S T x s ||| ((1 <<< (nI (S s) &&& 31)) ||| (1 <<< (nI (T s) &&& 31))) else cv1 S T x s := rfl
def cvo (m : Nat) (S T : Nat → Nat) (x : Int32) : Nat → Int32
  | 0 => x
  | r + 1 => cv1 S T (cvo m S T x r) m
def cvP (n o : Nat) (x : Int32) : Prop := bt x o = true ∧ ∀ j, j < 32 → bt x j = true → j < n
theorem cv1_P {n m : Nat} {S T L : Nat → Nat} (hp : SyP n m S T L) {o : Nat} (ho : o < n) {x : Int32} (hx : cvP n o x) : ∀ s, s ≤ m → cvP n o (cv1 S T x s) := by
  intro s
  have hn := hp.1
  induction s with
  | zero => exact fun _ => hx
  | succ s ih =>
    intro hs
    have h1 := ih (by omega)
    have h2 := hp.2.2 s (by omega)
    rw [cv1_s]
    split
    · refine ⟨by rw [b_or, h1.1]; rfl, fun j hj h => ?_⟩
      rw [b_or, b_or, b_1shl (by omega) hj, b_1shl (by omega) hj, Bool.or_eq_true, Bool.or_eq_true, decide_eq_true_iff, decide_eq_true_iff] at h
      rcases h with h | h | h
      · exact h1.2 j hj h
      · omega
      · omega
    · exact h1
theorem cvo_P {n m : Nat} {S T L : Nat → Nat} (hp : SyP n m S T L) {o : Nat} (ho : o < n) {x : Int32} (hx : cvP n o x) : ∀ r, cvP n o (cvo m S T x r) := by
  intro r
  induction r with
  | zero => exact hx
  | succ r ih => exact cv1_P hp ho ih m (Nat.le_refl m)
theorem x_conv (fu : Nat) (hfu : 32 < fu) {n m : Nat} {S T L : Nat → Nat} {ox sx : Int32} {lx cx tx : Nat → Int32} (hp : SyP n m S T L) (hx : Sy n m S T L ox sx lx cx tx) {o : Nat} (ho : o < n) :
    f_X3_convertible fu ox sx cx tx (nI o) = some (cvo m S T (1 <<< (nI o &&& 31)) n) := by
  have hn := hp.1
  have hm := hp.2.1
  obtain ⟨rfl, rfl, hl, hc, ht⟩ := hx
  have : tot (f_X3_convertible fu (nI n) (nI m) cx tx (nI o)) (fun r => r = cvo m S T (1 <<< (nI o &&& 31)) n) := by
    unfold f_X3_convertible
    refine tot_lt (tot_lt (lw2 (fun k v w => ∃ i, w = nI i ∧ i + k = n ∧ v = cvo m S T (1 <<< (nI o &&& 31)) i) ?_ fu n _ _ (by omega) ⟨0, rfl, by omega, rfl⟩))
    rintro r k v w ⟨i, rfl, hi, rfl⟩ ih
    unfold f_X3_convertible_L6
    by_cases hin : i = n
    · subst hin
      rw [if_pos (nI_le (Nat.le_refl i) (by omega))]
      exact tot_some rfl
    · rw [if_neg (nI_ge (a := i) (by omega) (by omega))]
      refine tot_lt (lw2 (fun k v w => ∃ s, w = nI s ∧ s + k = m ∧ v = cv1 S T (cvo m S T (1 <<< (nI o &&& 31)) i) s) ?_ fu m _ _ (by omega) ⟨0, rfl, by omega, rfl⟩)
      rintro r2 k2 v w ⟨s, rfl, hs, rfl⟩ ih2
      unfold f_X3_convertible_L17 f_X3_convertible_J82 f_X3_convertible_J54 f_X3_convertible_J76
      by_cases hsm : s = m
      · subst hsm
        rw [if_pos (nI_le (Nat.le_refl s) (by omega))]
        refine tot_lt ?_
        rw [nI_1]
        exact ih (k - 1) _ _ (by omega) ⟨i + 1, rfl, by omega, rfl⟩
      · rw [if_neg (nI_ge (a := s) (by omega) (by omega))]
        have hS := hp.2.2 s (by omega)
        simp (disch := omega) only [ck_nI, nI_clamp, lt, nI_1]
        rw [hc s (by omega), ht s (by omega), isIn_e _ (show S s < 32 by omega)]
        simp only [Option.bind_some, bI_ifn]
        rw [isIn_e _ (show T s < 32 by omega)]
        simp only [Option.bind_some, bI_if]
        have fin : tot (r2 (cv1 S T (cvo m S T (1 <<< (nI o &&& 31)) i) (s + 1)) (nI (s + 1))) (fun r => r = cvo m S T (1 <<< (nI o &&& 31)) n) := ih2 (k2 - 1) _ _ (by omega) ⟨s + 1, rfl, by omega, rfl⟩
        rw [cv1_s] at fin
        by_cases h1 : bt (cv1 S T (cvo m S T (1 <<< (nI o &&& 31)) i) s) (S s) = true
        · rw [if_pos h1]
          rw [h1] at fin
          exact fin
        · rw [if_neg h1]
          by_cases h2 : bt (cv1 S T (cvo m S T (1 <<< (nI o &&& 31)) i) s) (T s) = true
          · rw [if_pos h2]
            rw [h2, Bool.or_true] at fin
            exact fin
          · rw [if_neg h2]
            rw [if_neg (by simp [h1, h2])] at fin
            exact fin
  obtain ⟨r, e1, e2⟩ := this
  rw [e1, e2]
theorem m_comp (fu : Nat) (hfu : 32 < fu) {n m : Nat} {S T L : Nat → Nat} {om sm : Int32} {lm cm tm : Nat → Int32} (hp : SyP n m S T L) (hx : Sy n m S T L om sm lm cm tm) {o : Nat} (ho : o < n) {l : Nat} (hl : l < 32) (hl1 : bt (cvo m S T (1 <<< (nI o &&& 31)) n) l = true) (hl2 : ∀ j, j < l → bt (cvo m S T (1 <<< (nI o &&& 31)) n) j = false) :
    f_X12_component fu om sm cm tm (nI o) = some (nI l) := by
  have hn := hp.1
  have hm := hp.2.1
  obtain ⟨rfl, rfl, _, hc, ht⟩ := hx
  have : tot (f_X12_component fu (nI n) (nI m) cm tm (nI o)) (fun r => r = nI l) := by
    unfold f_X12_component
    simp (disch := omega) only [obj_m, Option.bind_some, bI_ifn, inN_nI, ho, decide_true, ↓reduceIte]
    refine tot_lt (tot_lt (lw2 (fun k v w => ∃ i, w = nI i ∧ i + k = n ∧ v = cvo m S T (1 <<< (nI o &&& 31)) i) ?_ fu n _ _ (by omega) ⟨0, rfl, by omega, rfl⟩))
    rintro r k v w ⟨i, rfl, hi, rfl⟩ ih
    unfold f_X12_component_L16
    by_cases hin : i = n
    · subst hin
      rw [if_pos (nI_le (Nat.le_refl i) (by omega))]
      unfold f_X12_component_J116
      refine tot_lt (lw1 (fun k v => ∃ q, v = nI q ∧ q + k = l) ?_ fu l _ (by omega) ⟨0, rfl, by omega⟩)
      rintro r k v ⟨q, rfl, hq⟩ ih
      unfold f_X12_component_L118
      rw [b_sh1 _ (show q < 32 by omega)]
      simp only [bI_ifn, lt, nI_1]
      by_cases hql : q = l
      · subst hql
        rw [if_pos hl1]
        exact tot_some rfl
      · rw [if_neg (by rw [hl2 q (by omega)]; decide)]
        exact ih (k - 1) _ (by omega) ⟨q + 1, rfl, by omega⟩
    · rw [if_neg (nI_ge (a := i) (by omega) (by omega))]
      refine tot_lt (lw2 (fun k v w => ∃ s, w = nI s ∧ s + k = m ∧ v = cv1 S T (cvo m S T (1 <<< (nI o &&& 31)) i) s) ?_ fu m _ _ (by omega) ⟨0, rfl, by omega, rfl⟩)
      rintro r2 k2 v w ⟨s, rfl, hs, rfl⟩ ih2
      unfold f_X12_component_L27 f_X12_component_J110 f_X12_component_J66 f_X12_component_J71 f_X12_component_J102
      by_cases hsm : s = m
      · subst hsm
        rw [if_pos (nI_le (Nat.le_refl s) (by omega))]
        refine tot_lt ?_
        rw [nI_1]
        exact ih (k - 1) _ _ (by omega) ⟨i + 1, rfl, by omega, rfl⟩
      · rw [if_neg (nI_ge (a := s) (by omega) (by omega))]
        have hS := hp.2.2 s (by omega)
        simp (disch := omega) only [ck_nI, nI_clamp, lt, nI_1]
        rw [hc s (by omega), ht s (by omega), b_sh1 _ (show S s < 32 by omega), b_sh1 _ (show T s < 32 by omega)]
        simp only [bI_if1, bI_ifn1]
        have fin : tot (r2 (cv1 S T (cvo m S T (1 <<< (nI o &&& 31)) i) (s + 1)) (nI (s + 1))) (fun r => r = nI l) := ih2 (k2 - 1) _ _ (by omega) ⟨s + 1, rfl, by omega, rfl⟩
        rw [cv1_s] at fin
        by_cases h1 : bt (cv1 S T (cvo m S T (1 <<< (nI o &&& 31)) i) s) (S s) = true
        · rw [if_pos h1]
          rw [h1] at fin
          exact fin
        · rw [if_neg h1]
          by_cases h2 : bt (cv1 S T (cvo m S T (1 <<< (nI o &&& 31)) i) s) (T s) = true
          · rw [if_pos h2]
            rw [h2, Bool.or_true] at fin
            exact fin
          · rw [if_neg h2]
            rw [if_neg (by simp [h1, h2])] at fin
            have e0 : ∀ x : Int32, x ||| 0 = x := fun x => b_ext (fun i _ => by rw [b_or, b_0, Bool.or_false])
            rw [e0]
            exact fin
  obtain ⟨r, e1, e2⟩ := this
  rw [e1, e2]
theorem s_component (fu : Nat) (hfu : 32 < fu) {n m : Nat} {S T L : Nat → Nat} {ox sx om sm : Int32} {lx cx tx lm cm tm : Nat → Int32} (hp : SyP n m S T L) (hx : Sy n m S T L ox sx lx cx tx) (hm : Sy n m S T L om sm lm cm tm) (v1 : Int32) :
    ∃ (r : Int32), f_X11_component fu ox sx cx tx v1 = some r ∧ f_X12_component fu om sm cm tm v1 = some r := by
  have hn := hp.1
  have h0 := hx.1
  have h1 := hm.1
  subst h0 h1
  cases hv : inN v1 n with
  | false =>
    unfold f_X11_component f_X12_component
    simp (disch := omega) only [obj_x, obj_m, Option.bind_some, bI_if, bI_ifn, hv, ↓reduceIte, Bool.false_eq_true]
    exact ⟨_, rfl, rfl⟩
  | true =>
    obtain ⟨o, ho, rfl⟩ := inN_of (by omega) hv
    have hP : cvP n o (cvo m S T (1 <<< (nI o &&& 31)) n) := cvo_P hp ho ⟨(b_sing (by omega) o (by omega)).mpr rfl, fun j hj h => by rw [b_sing (by omega) j hj] at h; omega⟩ n
    obtain ⟨l, g1, g2, g3⟩ := b_least (x := cvo m S T (1 <<< (nI o &&& 31)) n) (fun h => by
      have := hP.1
      rw [h, b_0] at this
      cases this)
    have g4 := hP.2 l g1 g2
    refine ⟨nI l, ?_, m_comp fu hfu hp hm ho g1 g2 g3⟩
    unfold f_X11_component
    simp (disch := omega) only [obj_x, Option.bind_some, bI_if, hv, ↓reduceIte]
    rw [x_conv fu hfu hp hx ho]
    simp only [Option.bind_some]
    rw [x_lowest (by omega) g2 g3]
    rfl
