theorem lpQ {E : Nat → Nat → Prop} {n : Nat} (hE : ∀ a b, E a b → a < n ∧ b < n) {o b q j : Nat} (ho : Rch E o b) (hb : b < n) (hno : ∀ c, Rch E o c → ¬ Cyc E c) (h : wk E q b j) : q < n := by
  refine Classical.byContradiction (fun hc => ?_)
  obtain ⟨c, ⟨i, h1⟩, h2⟩ := long_Cyc hE hb (by omega) h
  obtain ⟨k, hk⟩ := ho
  exact hno c ⟨k + i, wk_add _ _ _ _ hk h1⟩ h2
theorem s_longestPath (fu : Nat) (hfu : 32 < fu) {n m : Nat} {S T L : Nat → Nat} {ox sx om sm : Int32} {lx cx tx lm cm tm : Nat → Int32} (hp : SyP n m S T L) (hx : Sy n m S T L ox sx lx cx tx) (hm : Sy n m S T L om sm lm cm tm) (D : Nat → Nat → Int32) (lg : Nat → Int32) (v1 : Int32) :
    ∃ (r : Int32) (D' : Nat → Nat → Int32) (lg' : Nat → Int32), f_X11_longestPath fu ox sx lx cx tx v1 = some r ∧ f_X12_longestPath fu om sm D lg cm tm v1 = some (r, D', lg') := by
  have hn := hp.1
  have h0 := hx.1
  have h1 := hm.1
  subst h0 h1
  cases hv : inN v1 n with
  | false =>
    unfold f_X11_longestPath f_X12_longestPath
    simp (disch := omega) only [obj_x, obj_m, Option.bind_some, bI_if, bI_ifn, hv, ↓reduceIte, Bool.false_eq_true]
    exact ⟨_, _, _, rfl, rfl⟩
  | true =>
    obtain ⟨o, ho, rfl⟩ := inN_of (by omega) hv
    have hX : tot (f_X11_longestPath fu (nI n) sx lx cx tx (nI o)) (fun r => (r = -2 ∧ ∃ c, Rch (Es m S T) o c ∧ Cyc (Es m S T) c) ∨ (∃ i, i ≤ n ∧ r = nI i ∧ (∀ j, ¬ wk (Es m S T) (i + 1) o j) ∧ (∃ j, wk (Es m S T) i o j))) := by
      unfold f_X11_longestPath
      simp (disch := omega) only [obj_x, Option.bind_some, bI_if, hv, ↓reduceIte]
      obtain ⟨r, e1, e2⟩ := x_longest fu hfu hp hx _ (b_sing (o := o) (by omega))
      rw [e1]
      refine tot_some ?_
      rcases e2 with ⟨h1, a, j, rfl, h2⟩ | ⟨i, h1, h2, h3, h4⟩
      · exact Or.inl ⟨h1, long_Cyc (Es_in hp) ho (by omega) h2⟩
      · refine Or.inr ⟨i, h1, h2, fun j => h3 o j rfl, ?_⟩
        rcases h4 with rfl | ⟨a, j, rfl, h5⟩
        · exact ⟨o, rfl⟩
        · exact ⟨j, h5⟩
    have hM : tot (f_X12_longestPath fu (nI n) sm D lg cm tm (nI o)) (fun q => (q.1 = -2 ∧ ∃ c, Rch (Es m S T) o c ∧ Cyc (Es m S T) c) ∨ (∃ i, q.1 = nI i ∧ (∀ c, Rch (Es m S T) o c → ¬ Cyc (Es m S T) c) ∧ (∃ j, wk (Es m S T) i o j) ∧ ∀ k j, k ≤ n → wk (Es m S T) k o j → k ≤ i)) := by
      have hm32 := hp.2.1
      unfold f_X12_longestPath
      simp (disch := omega) only [obj_m, Option.bind_some, bI_ifn, hv, ↓reduceIte]
      obtain ⟨D', e3, e4⟩ := m_dist fu hfu hp hm D
      rw [e3]
      simp only [Option.bind_some]
      refine tot_lt (lw2 (fun k v lg => ∃ i, v = nI i ∧ i + k = n ∧ (∀ c, c < i → Rch (Es m S T) o c → ¬ Cyc (Es m S T) c) ∧ ∀ c, c < i → lg c = nI 0) ?_ fu n _ _ (by omega) ⟨0, rfl, by omega, fun s hs => absurd hs (Nat.not_lt_zero s), fun s hs => absurd hs (Nat.not_lt_zero s)⟩)
      rintro r k v lg ⟨i, rfl, hi, hc, hlg⟩ ih
      unfold f_X12_longestPath_L16 f_X12_longestPath_J49
      by_cases hin : i = n
      · subst hin
        rw [if_pos (nI_le (Nat.le_refl i) (by omega))]
        have hno : ∀ c, Rch (Es m S T) o c → ¬ Cyc (Es m S T) c := fun c hr => by
          obtain ⟨k, hk⟩ := hr
          exact hc c (wk_in (Es_in hp) ho hk) ⟨k, hk⟩
        obtain ⟨_, rfl, _, hcm, htm⟩ := hm
        unfold f_X12_longestPath_J62
        -- the rounds
        refine tot_lt (lw2 (fun k v lg => ∃ q, v = nI q ∧ q + k = i ∧ ∃ f : Nat → Nat, (∀ b, b < i → lg b = nI (f b) ∧ (f b = 0 ∨ Rch (Es m S T) o b) ∧ ∃ j, wk (Es m S T) (f b) b j) ∧ ∀ b, b < i → Rch (Es m S T) o b → ∀ k j, k ≤ q → wk (Es m S T) k b j → k ≤ f b) ?_ fu i _ _ (by omega) ⟨0, rfl, by omega, fun _ => 0, fun b hb => ⟨hlg b hb, Or.inl rfl, b, rfl⟩, fun b hb _ k j hk _ => by omega⟩)
        clear ih hlg hc hi
        rintro r k v lg ⟨q, rfl, hq, f, hf1, hf2⟩ ih
        unfold f_X12_longestPath_L64
        by_cases hqi : q = i
        · subst hqi
          rw [if_pos (nI_le (Nat.le_refl q) (by omega))]
          unfold f_X12_longestPath_J176
          simp (disch := omega) only [ck_nI, nI_clamp]
          exact tot_some (Or.inr ⟨f o, (hf1 o ho).1, hno, (hf1 o ho).2.2, fun k j hk h => hf2 o ho ⟨0, rfl⟩ k j hk h⟩)
        · rw [if_neg (nI_ge (a := q) (by omega) (by omega))]
          refine tot_lt (lw2 (fun k v lg => ∃ s, v = nI s ∧ s + k = m ∧ ∃ f : Nat → Nat, (∀ b, b < i → lg b = nI (f b) ∧ (f b = 0 ∨ Rch (Es m S T) o b) ∧ ∃ j, wk (Es m S T) (f b) b j) ∧ (∀ b, b < i → Rch (Es m S T) o b → ∀ k j, k ≤ q → wk (Es m S T) k b j → k ≤ f b) ∧ ∀ t, t < s → Rch (Es m S T) o (S t) → ∀ k j, k ≤ q → wk (Es m S T) k (T t) j → k + 1 ≤ f (S t)) ?_ fu m _ _ (by omega) ⟨0, rfl, by omega, f, hf1, hf2, fun t ht => absurd ht (Nat.not_lt_zero t)⟩)
          clear hf1 hf2
          rintro r2 k2 v lg ⟨s, rfl, hs, f, hf1, hf2, hf3⟩ ih2
          unfold f_X12_longestPath_L74 f_X12_longestPath_J170 f_X12_longestPath_J106 f_X12_longestPath_J164
          by_cases hsm : s = m
          · subst hsm
            rw [if_pos (nI_le (Nat.le_refl s) (by omega))]
            refine tot_lt ?_
            rw [nI_1]
            refine ih (k - 1) _ _ (by omega) ⟨q + 1, rfl, by omega, f, hf1, fun b hb hr k j hk h => ?_⟩
            cases k with
            | zero => exact Nat.zero_le _
            | succ k =>
              obtain ⟨c, ⟨t, h1, rfl, rfl⟩, h4⟩ := wk_head _ _ _ h
              exact hf3 t h1 hr k j (by omega) h4
          · rw [if_neg (nI_ge (a := s) (by omega) (by omega))]
            have hS := hp.2.2 s (by omega)
            have hfar := DsP_far hp e4 ho hS.1
            simp (disch := omega) only [ck_nI, nI_clamp, lt, nI_1]
            rw [hcm s (by omega), htm s (by omega)]
            simp (disch := omega) only [ck_nI, nI_clamp]
            have a1 := hf1 (T s) hS.2.1
            have a2 := hf1 (S s) hS.1
            by_cases h3 : (1000 : Int32) ≤ D' o (S s)
            · rw [if_pos h3, if_pos trivial]
              refine ih2 (k2 - 1) _ _ (by omega) ⟨s + 1, rfl, by omega, f, hf1, hf2, fun t ht hr => ?_⟩
              by_cases hts : t = s
              · subst hts
                exact absurd hr (hfar.mp h3)
              · exact hf3 t (by omega) hr
            · have hr : Rch (Es m S T) o (S s) := Classical.byContradiction (fun hc => h3 (hfar.mpr hc))
              have hrT : Rch (Es m S T) o (T s) := by
                obtain ⟨k, hk⟩ := hr
                exact ⟨k + 1, S s, hk, s, by omega, rfl, rfl⟩
              have b1 : f (T s) < i := by
                obtain ⟨j, hj⟩ := a1.2.2
                exact lpQ (Es_in hp) hrT hS.2.1 hno hj
              have b2 : f (S s) < i := by
                obtain ⟨j, hj⟩ := a2.2.2
                exact lpQ (Es_in hp) hr hS.1 hno hj
              rw [if_neg h3, if_neg (by decide), a1.1, a2.1]
              simp (disch := omega) only [nI_1, nI_leI]
              by_cases hle : f (T s) + 1 ≤ f (S s)
              · rw [if_pos hle]
                refine ih2 (k2 - 1) _ _ (by omega) ⟨s + 1, rfl, by omega, f, hf1, hf2, fun t ht hr k j hk h => ?_⟩
                by_cases hts : t = s
                · subst hts
                  have := hf2 (T t) hS.2.1 hrT k j hk h
                  omega
                · exact hf3 t (by omega) hr k j hk h
              · rw [if_neg hle]
                have mono : ∀ b, f b ≤ put1 f (S s) (f (T s) + 1) b := fun b => by
                  unfold put1
                  by_cases hb : b = S s
                  · rw [if_pos hb, hb]
                    omega
                  · rw [if_neg hb]
                    exact Nat.le_refl _
                refine ih2 (k2 - 1) _ _ (by omega) ⟨s + 1, rfl, by omega, put1 f (S s) (f (T s) + 1), fun b hb => ?_, fun b hb hr k j hk h => ?_, fun t ht hr k j hk h => ?_⟩
                · rw [upd_e]
                  unfold put1
                  by_cases hbs : b = S s
                  · rw [if_pos hbs, if_pos hbs]
                    refine ⟨rfl, Or.inr (by rw [hbs]; exact hr), ?_⟩
                    obtain ⟨j, hj⟩ := a1.2.2
                    rw [hbs]
                    exact ⟨j, wk_cons ⟨s, by omega, rfl, rfl⟩ hj⟩
                  · rw [if_neg hbs, if_neg hbs]
                    exact hf1 b hb
                · exact Nat.le_trans (hf2 b hb hr k j hk h) (mono b)
                · by_cases hts : t = s
                  · subst hts
                    have := hf2 (T t) hS.2.1 hrT k j hk h
                    unfold put1
                    rw [if_pos rfl]
                    omega
                  · exact Nat.le_trans (hf3 t (by omega) hr k j hk h) (mono _)
      · rw [if_neg (nI_ge (a := i) (by omega) (by omega))]
        have hfar := DsP_far hp e4 ho (show i < n by omega)
        simp (disch := omega) only [ck_nI, nI_clamp, lt, nI_1]
        have skip : (Rch (Es m S T) o i → ¬ Cyc (Es m S T) i) → tot (r (nI (i + 1)) (upd lg i 0)) (fun q => (q.1 = -2 ∧ ∃ c, Rch (Es m S T) o c ∧ Cyc (Es m S T) c) ∨ (∃ i, q.1 = nI i ∧ (∀ c, Rch (Es m S T) o c → ¬ Cyc (Es m S T) c) ∧ (∃ j, wk (Es m S T) i o j) ∧ ∀ k j, k ≤ n → wk (Es m S T) k o j → k ≤ i)) := fun hno => by
          refine ih (k - 1) _ _ (by omega) ⟨i + 1, rfl, by omega, fun c hci => ?_, fun c hci => ?_⟩
          · by_cases h : c = i
            · subst h
              exact hno
            · exact hc c (by omega)
          · rw [upd_e]
            by_cases h : c = i
            · rw [if_pos h]
              rfl
            · rw [if_neg h]
              exact hlg c (by omega)
        by_cases h3 : (1000 : Int32) ≤ D' o i
        · rw [if_pos h3]
          exact skip (fun h => absurd h (hfar.mp h3))
        · rw [if_neg h3]
          have hr : Rch (Es m S T) o i := Classical.byContradiction (fun hc => h3 (hfar.mpr hc))
          obtain ⟨b, e5, e6⟩ := m_cycle fu hfu hp hm e4 (show i < n by omega)
          rw [e5]
          simp only [Option.bind_some]
          rcases e6 with ⟨rfl, h⟩ | ⟨rfl, h⟩
          · rw [if_neg (by decide)]
            exact tot_some (Or.inl ⟨rfl, i, hr, h⟩)
          · rw [if_pos rfl]
            exact skip (fun _ => h)
    obtain ⟨r, e1, e2⟩ := hX
    obtain ⟨⟨r2, D', lg'⟩, e3, e4⟩ := hM
    have : r = r2 := by
      rcases e2 with ⟨h1, c, h2, h3⟩ | ⟨i, h1, h2, h3, j, h4⟩
      · rcases e4 with ⟨h4, _⟩ | ⟨i, h4, h5, _⟩
        · rw [h1]
          exact h4.symm
        · exact absurd h3 (h5 c h2)
      · rcases e4 with ⟨h5, c, ⟨k, h6⟩, h7⟩ | ⟨i2, h5, h6, ⟨j2, h7⟩, h8⟩
        · obtain ⟨j3, h8⟩ := Cyc_long (k := i + 1) h6 h7
          exact absurd h8 (h3 j3)
        · have g1 := h8 i j h1 h4
          have g2 : i2 ≤ i := by
            refine Classical.byContradiction (fun hc => ?_)
            obtain ⟨j3, h9⟩ := wk_pre h7 (show i + 1 ≤ i2 by omega)
            exact h3 j3 h9
          have : i = i2 := by omega
          subst this
          rw [h2]
          exact h5.symm
    subst this
    exact ⟨_, _, _, e1, e3⟩
