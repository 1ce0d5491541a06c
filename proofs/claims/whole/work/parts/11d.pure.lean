/-! ===== the reference: distances ===== -/
def hs (S T : Nat → Nat) : Nat → Nat → Nat → Bool
  | 0, _, _ => false
  | s + 1, a, b => hs S T s a b || (decide (S s = a) && decide (T s = b))
theorem hs_iff {S T : Nat → Nat} : ∀ {s a b : Nat}, hs S T s a b = true ↔ Es s S T a b := by
  intro s
  induction s with
  | zero =>
    intro a b
    constructor
    · intro h
      cases h
    · rintro ⟨t, h, _⟩
      omega
  | succ s ih =>
    intro a b
    show (hs S T s a b || (decide (S s = a) && decide (T s = b))) = true ↔ _
    rw [Bool.or_eq_true, Bool.and_eq_true, ih, decide_eq_true_iff, decide_eq_true_iff]
    constructor
    · rintro (⟨t, h1, h2⟩ | h)
      · exact ⟨t, by omega, h2⟩
      · exact ⟨s, by omega, h⟩
    · rintro ⟨t, h1, h2⟩
      by_cases h : t = s
      · subst h
        exact Or.inr h2
      · exact Or.inl ⟨t, by omega, h2⟩
def d0 (S T : Nat → Nat) (s a b : Nat) : Nat := if a = b then 0 else if hs S T s a b = true then 1 else 1000
theorem d0_le (S T : Nat → Nat) (s a b : Nat) : d0 S T s a b ≤ 1000 := by
  unfold d0
  split
  · omega
  · split <;> omega
theorem d0_self (S T : Nat → Nat) (s a : Nat) : d0 S T s a a = 0 := if_pos rfl
theorem d0_snd {S T : Nat → Nat} {m : Nat} (a b : Nat) (h : d0 S T m a b < 1000) : wk (Es m S T) (d0 S T m a b) a b := by
  unfold d0 at h ⊢
  by_cases h1 : a = b
  · rw [if_pos h1]
    exact h1
  · rw [if_neg h1] at h ⊢
    by_cases h2 : hs S T m a b = true
    · rw [if_pos h2]
      exact wk_1 (hs_iff.mp h2)
    · rw [if_neg h2] at h
      omega
theorem d0_1 {S T : Nat → Nat} {m : Nat} (a b : Nat) (h : Es m S T a b) : d0 S T m a b ≤ 1 := by
  unfold d0
  split
  · omega
  · rw [if_pos (hs_iff.mpr h)]
    exact Nat.le_refl 1
def DsP (n m : Nat) (S T : Nat → Nat) (D : Nat → Nat → Int32) : Prop := ∀ a, a < n → ∀ b, b < n → ∃ d, D a b = nI d ∧ d ≤ 1000 ∧ (d < 1000 → wk (Es m S T) d a b) ∧ (∀ k, wk (Es m S T) k a b → d ≤ k)
theorem m_dist (fu : Nat) (hfu : 32 < fu) {n m : Nat} {S T L : Nat → Nat} {om sm : Int32} {lm cm tm : Nat → Int32} (hp : SyP n m S T L) (hx : Sy n m S T L om sm lm cm tm) (D0 : Nat → Nat → Int32) :
    tot (f_X12_findDistances fu om sm D0 cm tm) (DsP n m S T) := by
  have hm := hp.2.1
  have hn := hp.1
  obtain ⟨rfl, rfl, hl, hc, ht⟩ := hx
  unfold f_X12_findDistances
  refine tot_lt (lw2 (fun k v D => ∃ i, v = nI i ∧ i + k = n ∧ ∀ a, a < i → ∀ b, b < n → D a b = nI (d0 S T 0 a b)) ?_ fu n _ _ (by omega) ⟨0, rfl, by omega, fun a ha => absurd ha (Nat.not_lt_zero a)⟩)
  rintro r k v D ⟨i, rfl, hi, hD⟩ ih
  unfold f_X12_findDistances_L2
  by_cases hin : i = n
  · subst hin
    rw [if_pos (nI_le (Nat.le_refl i) (by omega))]
    unfold f_X12_findDistances_J52
    refine tot_lt (lw2 (fun k v D => ∃ s, v = nI s ∧ s + k = m ∧ ∀ a, a < i → ∀ b, b < i → D a b = nI (d0 S T s a b)) ?_ fu m _ _ (by omega) ⟨0, rfl, by omega, hD⟩)
    clear ih hD hi
    rintro r k v D ⟨s, rfl, hs1, hD⟩ ih
    unfold f_X12_findDistances_L54 f_X12_findDistances_J96
    by_cases hsm : s = m
    · subst hsm
      rw [if_pos (nI_le (Nat.le_refl s) (by omega))]
      unfold f_X12_findDistances_J102
      refine tot_lt (lw2 (fun k v D => ∃ q, v = nI q ∧ q + k = i ∧ ∀ a, a < i → ∀ b, b < i → D a b = nI (fw (d0 S T s) q a b)) ?_ fu i _ _ (by omega) ⟨0, rfl, by omega, hD⟩)
      clear ih hD hs1
      rintro r k v D ⟨q, rfl, hq, hD⟩ ih
      unfold f_X12_findDistances_L104
      by_cases hqi : q = i
      · subst hqi
        rw [if_pos (nI_le (Nat.le_refl q) (by omega))]
        refine tot_some (fun a ha b hb => ⟨_, hD a ha b hb, Nat.le_trans (fw_le _ _ _ _) (d0_le _ _ _ _ _), fw_sound d0_snd q a b, fun k hk => fw_comp (d0_self S T s) (Es_in hp) d0_1 ha k b hk⟩)
      · rw [if_neg (nI_ge (a := q) (by omega) (by omega))]
        refine tot_lt (lw2 (fun k v D => ∃ u, v = nI u ∧ u + k = i ∧ ∀ a, a < i → ∀ b, b < i → D a b = nI (if a < u then fw (d0 S T s) (q + 1) a b else fw (d0 S T s) q a b)) ?_ fu i _ _ (by omega) ⟨0, rfl, by omega, fun a ha b hb => by rw [if_neg (Nat.not_lt_zero a)]; exact hD a ha b hb⟩)
        clear hD
        rintro r2 k2 v D ⟨u, rfl, hu, hD⟩ ih2
        unfold f_X12_findDistances_L114 f_X12_findDistances_J197
        by_cases hui : u = i
        · subst hui
          rw [if_pos (nI_le (Nat.le_refl u) (by omega))]
          refine tot_lt ?_
          rw [nI_1]
          refine ih (k - 1) _ _ (by omega) ⟨q + 1, rfl, by omega, fun a ha b hb => ?_⟩
          rw [hD a ha b hb, if_pos ha]
        · rw [if_neg (nI_ge (a := u) (by omega) (by omega))]
          refine tot_lt (lw2 (fun k v D => ∃ t, v = nI t ∧ t + k = i ∧ ∀ a, a < i → ∀ b, b < i → D a b = nI (if a < u ∨ (a = u ∧ b < t) then fw (d0 S T s) (q + 1) a b else fw (d0 S T s) q a b)) ?_ fu i _ _ (by omega) ⟨0, rfl, by omega, fun a ha b hb => ?_⟩)
          · clear hD
            rintro r3 k3 v D ⟨t, rfl, ht1, hD⟩ ih3
            unfold f_X12_findDistances_L124 f_X12_findDistances_J191 f_X12_findDistances_J184
            by_cases hti : t = i
            · subst hti
              rw [if_pos (nI_le (Nat.le_refl t) (by omega))]
              refine tot_lt ?_
              rw [nI_1]
              refine ih2 (k2 - 1) _ _ (by omega) ⟨u + 1, rfl, by omega, fun a ha b hb => ?_⟩
              rw [hD a ha b hb]
              by_cases h1 : a < u + 1
              · rw [if_pos h1, if_pos (by omega)]
              · rw [if_neg h1, if_neg (by omega)]
            · rw [if_neg (nI_ge (a := t) (by omega) (by omega))]
              have e1 : D u q = nI (fw (d0 S T s) q u q) := by
                rw [hD u (by omega) q (by omega)]
                by_cases h : u < u ∨ u = u ∧ q < t
                · rw [if_pos h, fw_ik (d0_self S T s)]
                · rw [if_neg h]
              have e2 : D q t = nI (fw (d0 S T s) q q t) := by
                rw [hD q (by omega) t (by omega)]
                by_cases h : q < u ∨ q = u ∧ t < t
                · rw [if_pos h, fw_kj (d0_self S T s)]
                · rw [if_neg h]
              have e3 : D u t = nI (fw (d0 S T s) q u t) := by
                rw [hD u (by omega) t (by omega), if_neg (by omega)]
              have l1 := Nat.le_trans (fw_le (d0 S T s) u q q) (d0_le S T s u q)
              have l2 := Nat.le_trans (fw_le (d0 S T s) q t q) (d0_le S T s q t)
              have l3 := Nat.le_trans (fw_le (d0 S T s) u t q) (d0_le S T s u t)
              have fin : tot (r3 (nI (t + 1)) (up2 D u t (nI (fw (d0 S T s) (q + 1) u t)))) (DsP i s S T) := by
                refine ih3 (k3 - 1) _ _ (by omega) ⟨t + 1, rfl, by omega, fun a ha j hj => ?_⟩
                rw [up2_e]
                by_cases h1 : a = u
                · subst h1
                  rw [if_pos rfl]
                  by_cases h2 : j = t
                  · subst h2
                    rw [if_pos rfl, if_pos (by omega)]
                  · rw [if_neg h2, hD a ha j hj]
                    by_cases h3 : j < t
                    · rw [if_pos (by omega), if_pos (by omega)]
                    · rw [if_neg (by omega), if_neg (by omega)]
                · rw [if_neg h1, hD a ha j hj]
                  by_cases h3 : a < u
                  · rw [if_pos (by omega), if_pos (by omega)]
                  · rw [if_neg (by omega), if_neg (by omega)]
              simp (disch := omega) only [ck_nI, nI_clamp, lt, e1, e2, e3, nI_add, nI_leI, nI_1]
              rw [fw_s] at fin
              by_cases h : fw (d0 S T s) q u t ≤ fw (d0 S T s) q u q + fw (d0 S T s) q q t
              · rw [if_pos h]
                rw [if_neg (by omega)] at fin
                exact fin
              · rw [if_neg h]
                rw [if_pos (by omega)] at fin
                exact fin
          · rw [hD a ha b hb]
            by_cases h : a < u
            · rw [if_pos h, if_pos (by omega)]
            · rw [if_neg h, if_neg (by omega)]
    · rw [if_neg (nI_ge (a := s) (by omega) (by omega))]
      have hS := hp.2.2 s (by omega)
      simp (disch := omega) only [ck_nI, nI_clamp, lt, nI_1]
      rw [hc s (by omega), ht s (by omega)]
      simp (disch := omega) only [ck_nI, nI_clamp, nI_eq]
      by_cases he : S s = T s
      · rw [if_pos he]
        refine ih (k - 1) _ _ (by omega) ⟨s + 1, rfl, by omega, fun a ha b hb => ?_⟩
        rw [hD a ha b hb]
        congr 1
        unfold d0
        by_cases h1 : a = b
        · rw [if_pos h1, if_pos h1]
        · rw [if_neg h1, if_neg h1]
          have : hs S T (s + 1) a b = hs S T s a b := by
            show (hs S T s a b || (decide (S s = a) && decide (T s = b))) = _
            by_cases h2 : S s = a
            · rw [decide_eq_false (show ¬ T s = b by omega)]
              simp
            · rw [decide_eq_false h2]
              simp
          rw [this]
      · rw [if_neg he]
        refine ih (k - 1) _ _ (by omega) ⟨s + 1, rfl, by omega, fun a ha b hb => ?_⟩
        have hh : hs S T (s + 1) a b = (hs S T s a b || (decide (S s = a) && decide (T s = b))) := rfl
        rw [up2_e]
        by_cases h1 : a = S s
        · by_cases h2 : b = T s
          · rw [if_pos h1, if_pos h2]
            unfold d0
            rw [if_neg (by omega), hh, decide_eq_true h1.symm, decide_eq_true h2.symm]
            simp
            rfl
          · rw [if_pos h1, if_neg h2, hD a ha b hb]
            unfold d0
            rw [hh, decide_eq_false (show ¬ T s = b by omega)]
            simp
        · rw [if_neg h1, hD a ha b hb]
          unfold d0
          rw [hh, decide_eq_false (show ¬ S s = a by omega)]
          simp
  · rw [if_neg (nI_ge (a := i) (by omega) (by omega))]
    refine tot_lt (lw2 (fun k v D => ∃ t, v = nI t ∧ t + k = n ∧ ∀ a, a ≤ i → ∀ b, b < n → (a < i ∨ b < t) → D a b = nI (d0 S T 0 a b)) ?_ fu n _ _ (by omega) ⟨0, rfl, by omega, fun a ha b hb h => hD a (by omega) b hb⟩)
    clear hD
    rintro r2 k2 v D ⟨t, rfl, ht1, hD⟩ ih2
    unfold f_X12_findDistances_L12 f_X12_findDistances_J46 f_X12_findDistances_J39
    by_cases htn : t = n
    · subst htn
      rw [if_pos (nI_le (Nat.le_refl t) (by omega))]
      refine tot_lt ?_
      rw [nI_1]
      exact ih (k - 1) _ _ (by omega) ⟨i + 1, rfl, by omega, fun a ha b hb => hD a (by omega) b hb (Or.inr hb)⟩
    · rw [if_neg (nI_ge (a := t) (by omega) (by omega))]
      have fin : ∀ x : Int32, x = nI (d0 S T 0 i t) → tot (r2 (nI (t + 1)) (up2 D i t x)) (DsP n m S T) := by
        intro x hx
        refine ih2 (k2 - 1) _ _ (by omega) ⟨t + 1, rfl, by omega, fun a ha b hb h => ?_⟩
        rw [up2_e]
        by_cases h1 : a = i
        · rw [if_pos h1]
          by_cases h2 : b = t
          · rw [if_pos h2, h1, h2]
            exact hx
          · rw [if_neg h2]
            exact hD a ha b hb (by omega)
        · rw [if_neg h1]
          exact hD a ha b hb (by omega)
      simp (disch := omega) only [ck_nI, nI_clamp, lt, nI_1, nI_eq]
      by_cases he : i = t
      · rw [if_neg (fun h => h he)]
        refine fin 0 ?_
        rw [he, d0_self]
        rfl
      · rw [if_pos he]
        refine fin 1000 ?_
        unfold d0
        rw [if_neg he]
        rfl
/-- the reach as the distances tell it -/
theorem DsP_far {n m : Nat} {S T L : Nat → Nat} {D : Nat → Nat → Int32} (hp : SyP n m S T L) (hD : DsP n m S T D) {a b : Nat} (ha : a < n) (hb : b < n) : (1000 : Int32) ≤ D a b ↔ ¬ Rch (Es m S T) a b := by
  obtain ⟨d, e, h1, h2, h3⟩ := hD a ha b hb
  have hn := hp.1
  rw [e, show (1000 : Int32) = nI 1000 from rfl, nI_leI (by omega) (by omega)]
  constructor
  · rintro h ⟨k, hk⟩
    obtain ⟨j, h4, h5, h6⟩ := wk_short (Es_in hp) ha k hk
    have := h3 j h6
    omega
  · intro h
    refine Classical.byContradiction (fun hc => h ⟨d, h2 (by omega)⟩)
theorem m_reach (fu : Nat) (hfu : 32 < fu) {n m : Nat} {S T L : Nat → Nat} {om sm : Int32} {lm cm tm : Nat → Int32} (hp : SyP n m S T L) (hx : Sy n m S T L om sm lm cm tm) {D : Nat → Nat → Int32} (hD : DsP n m S T D) {o : Nat} (ho : o < n) :
    tot (f_X12_reachedFrom fu om D (nI o)) (isRch n m S T o) := by
  have hn := hp.1
  have h0 := hx.1
  subst h0
  unfold f_X12_reachedFrom
  refine tot_lt (tot_lt (lw2 (fun k v w => ∃ i, w = nI i ∧ i + k = n ∧ ∀ j, j < 32 → (bt v j = true ↔ j < i ∧ Rch (Es m S T) o j)) ?_ fu n _ _ (by omega) ⟨0, rfl, by omega, fun j hj => ?_⟩))
  · rintro r k v w ⟨i, rfl, hi, hv⟩ ih
    unfold f_X12_reachedFrom_L4 f_X12_reachedFrom_J34
    by_cases hin : i = n
    · subst hin
      rw [if_pos (nI_le (Nat.le_refl i) (by omega))]
      refine tot_some (fun j hj => ?_)
      rw [hv j hj]
      constructor
      · exact fun h => h.2
      · rintro ⟨k, h⟩
        exact ⟨wk_in (Es_in hp) ho h, k, h⟩
    · rw [if_neg (nI_ge (a := i) (by omega) (by omega))]
      simp (disch := omega) only [ck_nI, nI_clamp, lt, nI_1]
      have hfar := DsP_far hp hD ho (show i < n by omega)
      by_cases h : (1000 : Int32) ≤ D o i
      · rw [if_pos h]
        refine ih (k - 1) _ _ (by omega) ⟨i + 1, rfl, by omega, fun j hj => ?_⟩
        rw [b_or, b_0, Bool.or_false, hv j hj]
        constructor
        · exact fun h => ⟨by omega, h.2⟩
        · rintro ⟨h1, h2⟩
          by_cases hji : j = i
          · subst hji
            exact absurd h2 (hfar.mp h)
          · exact ⟨by omega, h2⟩
      · rw [if_neg h]
        refine ih (k - 1) _ _ (by omega) ⟨i + 1, rfl, by omega, fun j hj => ?_⟩
        rw [b_or, b_1shl (by omega) hj, Bool.or_eq_true, hv j hj, decide_eq_true_iff]
        constructor
        · rintro (h1 | h1)
          · exact ⟨by omega, h1.2⟩
          · subst h1
            exact ⟨by omega, Classical.byContradiction (fun hc => h (hfar.mpr hc))⟩
        · rintro ⟨h1, h2⟩
          by_cases hji : j = i
          · exact Or.inr hji
          · exact Or.inl ⟨by omega, h2⟩
  · rw [b_0]
    constructor
    · intro h
      cases h
    · rintro ⟨h, _⟩
      omega
theorem s_reachable (fu : Nat) (hfu : 32 < fu) {n m : Nat} {S T L : Nat → Nat} {ox sx om sm : Int32} {lx cx tx lm cm tm : Nat → Int32} (hp : SyP n m S T L) (hx : Sy n m S T L ox sx lx cx tx) (hm : Sy n m S T L om sm lm cm tm) (D : Nat → Nat → Int32) (v1 : Int32) :
    ∃ (r : Int32) (D' : Nat → Nat → Int32), f_X11_reachable fu ox sx lx cx tx v1 = some r ∧ f_X12_reachable fu om sm D cm tm v1 = some (r, D') := by
  have hn := hp.1
  have h0 := hx.1
  have h1 := hm.1
  subst h0 h1
  unfold f_X11_reachable f_X12_reachable
  simp (disch := omega) only [obj_x, obj_m, Option.bind_some, bI_if, bI_ifn]
  cases hv : inN v1 n with
  | false => exact ⟨_, _, rfl, rfl⟩
  | true =>
    obtain ⟨o, ho, rfl⟩ := inN_of (by omega) hv
    simp only [↓reduceIte]
    obtain ⟨r, e1, e2⟩ := x_reach fu hfu hp hx ho
    obtain ⟨D', e3, e4⟩ := m_dist fu hfu hp hm D
    obtain ⟨r2, e5, e6⟩ := m_reach fu hfu hp hm e4 ho
    rw [e1, e3]
    simp only [Option.bind_some, e5, isRch_eq e2 e6]
    exact ⟨_, _, rfl, rfl⟩
