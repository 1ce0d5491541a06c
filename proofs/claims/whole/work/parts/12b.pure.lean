theorem x_firstCe (fu : Nat) (hfu : 32 < fu) {n m : Nat} {S T L : Nat → Nat} {ox sx : Int32} {lx cx tx : Nat → Int32} (hp : SyP n m S T L) (hx : Sy n m S T L ox sx lx cx tx) (rows : Nat → Int32) :
    tot (f_X11_firstCounterexample fu ox sx rows lx cx tx) (fun q => ceS n m S T q.1) := by
  have hn := hp.1
  have h0 := hx.1
  subst h0
  unfold f_X11_firstCounterexample
  obtain ⟨reach, e1, e2⟩ := x_fill fu hfu hp hx rows
  rw [e1]
  simp only [Option.bind_some]
  refine tot_lt (lw1 (fun k v => ∃ a, v = nI a ∧ a + k = n ∧ ∀ a' b c, a' < a → ¬ Bad n m S T a' b c) ?_ fu n _ (by omega) ⟨0, rfl, by omega, fun a' b c h => absurd h (Nat.not_lt_zero a')⟩)
  rintro r k v ⟨a, rfl, ha, hv⟩ ih
  unfold f_X11_firstCounterexample_L13 f_X11_firstCounterexample_J41
  by_cases han : a = n
  · subst han
    rw [if_pos (nI_le (Nat.le_refl a) (by omega))]
    exact tot_some (Or.inl ⟨rfl, fun a' b c h => hv a' b c h⟩)
  · rw [if_neg (nI_ge (a := a) (by omega) (by omega))]
    obtain ⟨q, e3, e4⟩ := x_unjoin fu hfu hp e2 (show a < n by omega)
    simp (disch := omega) only [ck_nI, nI_clamp, lt, nI_1]
    rw [e3]
    simp only [Option.bind_some]
    rcases e4 with ⟨rfl, h1⟩ | ⟨b, c, h1, rfl, h2, h3⟩
    · rw [if_pos rfl]
      refine ih (k - 1) _ (by omega) ⟨a + 1, rfl, by omega, fun a' b c h => ?_⟩
      by_cases haa : a' = a
      · subst haa
        exact h1 b c
      · exact hv a' b c (by omega)
    · have g1 := h1.1
      have g2 := h1.2.1
      rw [if_neg (nI_ne2 (by omega)), show (256 : Int32) = nI 256 from rfl, pk_mul, nI_add]
      exact tot_some (Or.inr ⟨a, b, c, by omega, h1, by rw [Nat.add_assoc], hv, h2, h3⟩)
theorem m_counter (fu : Nat) (hfu : 32 < fu) {n m : Nat} {S T L : Nat → Nat} {om sm : Int32} {lm cm tm : Nat → Int32} (hp : SyP n m S T L) (hm : Sy n m S T L om sm lm cm tm) (D : Nat → Nat → Int32) :
    tot (f_X12_counterexample fu om sm D cm tm) (fun q => ceS n m S T q.1) := by
  have hn := hp.1
  have h0 := hm.1
  subst h0
  unfold f_X12_counterexample
  obtain ⟨D', e1, e2⟩ := m_dist fu hfu hp hm D
  rw [e1]
  simp only [Option.bind_some]
  refine tot_lt (lw1 (fun k v => ∃ a, v = nI a ∧ a + k = n ∧ ∀ a' b c, a' < a → ¬ Bad n m S T a' b c) ?_ fu n _ (by omega) ⟨0, rfl, by omega, fun a' b c h => absurd h (Nat.not_lt_zero a')⟩)
  rintro r k v ⟨a, rfl, ha, hv⟩ ih
  unfold f_X12_counterexample_L6
  by_cases han : a = n
  · subst han
    rw [if_pos (nI_le (Nat.le_refl a) (by omega))]
    exact tot_some (Or.inl ⟨rfl, fun a' b c h => hv a' b c h⟩)
  · rw [if_neg (nI_ge (a := a) (by omega) (by omega))]
    refine tot_lt (lw1 (fun k v => ∃ b, v = nI b ∧ b + k = n ∧ ∀ b' c, b' < b → ¬ Bad n m S T a b' c) ?_ fu n _ (by omega) ⟨0, rfl, by omega, fun b' c h => absurd h (Nat.not_lt_zero b')⟩)
    rintro r2 k2 v ⟨b, rfl, hb, hw⟩ ih2
    unfold f_X12_counterexample_L16 f_X12_counterexample_J98
    by_cases hbn : b = n
    · subst hbn
      rw [if_pos (nI_le (Nat.le_refl b) (by omega))]
      refine tot_lt ?_
      rw [nI_1]
      refine ih (k - 1) _ (by omega) ⟨a + 1, rfl, by omega, fun a' b' c' h h2 => ?_⟩
      by_cases haa : a' = a
      · subst haa
        exact hw b' c' (by have := h2.1; have := h2.2.1; omega) h2
      · exact hv a' b' c' (by omega) h2
    · rw [if_neg (nI_ge (a := b) (by omega) (by omega)), nI_1]
      refine tot_lt (lw1 (fun k v => ∃ c, v = nI c ∧ c + k = n ∧ b < c ∧ ∀ c', c' < c → ¬ Bad n m S T a b c') ?_ fu (n - (b + 1)) _ (by omega) ⟨b + 1, rfl, by omega, by omega, fun c' h h2 => by have := h2.1; omega⟩)
      rintro r3 k3 v ⟨c, rfl, hc, hbc, hu⟩ ih3
      unfold f_X12_counterexample_L28 f_X12_counterexample_J92 f_X12_counterexample_J86 f_X12_counterexample_J73
      have next : (∀ c, ¬ Bad n m S T a b c) → tot (r2 (nI (b + 1))) (fun q => ceS n m S T q.1) := fun hno => by
        refine ih2 (k2 - 1) _ (by omega) ⟨b + 1, rfl, by omega, fun b' c' h => ?_⟩
        by_cases hbb : b' = b
        · subst hbb
          exact hno c'
        · exact hw b' c' (by omega)
      by_cases hcn : c = n
      · subst hcn
        rw [if_pos (nI_le (Nat.le_refl c) (by omega))]
        refine tot_lt ?_
        rw [nI_1]
        exact next (fun c' h => hu c' h.2.1 h)
      · rw [if_neg (nI_ge (a := c) (by omega) (by omega))]
        have skip : ¬ Bad n m S T a b c → tot (r3 (nI (c + 1))) (fun q => ceS n m S T q.1) := fun hno => by
          refine ih3 (k3 - 1) _ (by omega) ⟨c + 1, rfl, by omega, by omega, fun c' h => ?_⟩
          by_cases hcc : c' = c
          · subst hcc
            exact hno
          · exact hu c' (by omega)
        have f1 := DsP_far hp e2 (show a < n by omega) (show b < n by omega)
        have f2 := DsP_far hp e2 (show a < n by omega) (show c < n by omega)
        simp (disch := omega) only [ck_nI, nI_clamp, lt, nI_1]
        by_cases h1 : (1000 : Int32) ≤ D' a b
        · rw [if_pos h1]
          exact next (fun c' h => f1.mp h1 h.2.2.1)
        · rw [if_neg h1]
          by_cases h2 : (1000 : Int32) ≤ D' a c
          · rw [if_pos h2]
            exact skip (fun h => f2.mp h2 h.2.2.2.1)
          · rw [if_neg h2]
            obtain ⟨q, e3, e4⟩ := m_join fu hfu hp hm e2 (show b < n by omega) (show c < n by omega)
            rw [e3]
            simp only [Option.bind_some]
            rcases e4 with ⟨rfl, h3⟩ | ⟨rfl, h3⟩
            · rw [if_pos (by decide)]
              exact skip (fun h => h.2.2.2.2 h3)
            · rw [if_neg (by decide), show (256 : Int32) = nI 256 from rfl, show (16 : Int32) = nI 16 from rfl, pk_mul, pk_mul, nI_add, nI_add]
              exact tot_some (Or.inr ⟨a, b, c, by omega, ⟨hbc, by omega, Classical.byContradiction (fun hc => h1 (f1.mpr hc)), Classical.byContradiction (fun hc => h2 (f2.mpr hc)), h3⟩, rfl, hv, hw, hu⟩)
theorem s_counterexample (fu : Nat) (hfu : 32 < fu) {n m : Nat} {S T L : Nat → Nat} {ox sx om sm : Int32} {lx cx tx lm cm tm : Nat → Int32} (hp : SyP n m S T L) (hx : Sy n m S T L ox sx lx cx tx) (hm : Sy n m S T L om sm lm cm tm) (rows : Nat → Int32) (D : Nat → Nat → Int32) :
    ∃ (r : Int32) (rows' : Nat → Int32) (D' : Nat → Nat → Int32), f_X11_counterexample fu ox sx rows lx cx tx = some (r, rows') ∧ f_X12_counterexample fu om sm D cm tm = some (r, D') := by
  obtain ⟨⟨r, rows'⟩, e1, e2⟩ := x_firstCe fu hfu hp hx rows
  obtain ⟨⟨r2, D'⟩, e3, e4⟩ := m_counter fu hfu hp hm D
  have := ceS_eq e2 e4
  have : r = r2 := this
  subst this
  refine ⟨r, rows', D', ?_, e3⟩
  unfold f_X11_counterexample
  rw [e1]
  rfl
theorem s_isConfluent (fu : Nat) (hfu : 32 < fu) {n m : Nat} {S T L : Nat → Nat} {ox sx om sm : Int32} {lx cx tx lm cm tm : Nat → Int32} (hp : SyP n m S T L) (hx : Sy n m S T L ox sx lx cx tx) (hm : Sy n m S T L om sm lm cm tm) (rows : Nat → Int32) (D : Nat → Nat → Int32) :
    ∃ (r : Int32) (rows' : Nat → Int32) (D' : Nat → Nat → Int32), f_X11_isConfluent fu ox sx rows lx cx tx = some (r, rows') ∧ f_X12_isConfluent fu om sm D cm tm = some (r, D') := by
  obtain ⟨⟨r, rows'⟩, e1, e2⟩ := x_firstCe fu hfu hp hx rows
  obtain ⟨⟨r2, D'⟩, e3, e4⟩ := m_counter fu hfu hp hm D
  have := ceS_eq e2 e4
  have : r = r2 := this
  subst this
  unfold f_X11_isConfluent f_X12_isConfluent
  rw [e1, e3]
  simp only [Option.bind_some]
  by_cases h : r = -2
  · rw [if_neg (fun h2 => h2 h), if_neg (fun h2 => h2 h)]
    exact ⟨_, _, _, rfl, rfl⟩
  · rw [if_pos h, if_pos h]
    exact ⟨_, _, _, rfl, rfl⟩
