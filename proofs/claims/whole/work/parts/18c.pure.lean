/-! ===== findLabelling, labellingCount, foundLabel, applyLabelling ===== -/
def FoR (fx : Int32) (dx : Nat → Int32) (fm : Int32) (dm : Nat → Int32) : Prop := (fx = -2 ∧ fm = -1) ∨ ∃ q, q ≤ 8 ∧ fx = nI q ∧ fm = nI q ∧ ∀ i, i < q → ∃ c, c < 8 ∧ dx i = nI c ∧ dm i = nI c
theorem sErr_x {m : Nat} (hm : m ≤ 32) (v1 : Int32) : (∃ k, 1 ≤ k ∧ k ≤ 3 ∧ v1 = nI k ∧ m ≤ 8 ∧ f_X11_searchError (nI m) v1 = some 0 ∧ f_X12_searchError (nI m) v1 = some 0) ∨ ∃ e : Int32, ¬ e = 0 ∧ f_X11_searchError (nI m) v1 = some e ∧ f_X12_searchError (nI m) v1 = some e := by
  unfold f_X11_searchError f_X12_searchError f_X12_isBetween
  by_cases h1 : v1 < 1
  · rw [if_pos h1, if_pos h1]
    exact Or.inr ⟨-1, by decide, rfl, rfl⟩
  · rw [if_neg h1, if_neg h1]
    by_cases h3 : v1 ≤ 3
    · rw [if_pos h3, if_neg (Int32.not_lt.mpr h3)]
      simp only [Option.bind_some]
      rw [if_pos (show ¬ (1 : Int32) = 0 by decide), show (8 : Int32) = nI 8 from rfl]
      have hn0 : ¬ v1 < 0 := fun h => h1 (by
        rw [Int32.lt_iff_toInt_lt] at h ⊢
        have e0 : (0 : Int32).toInt = 0 := by decide
        have e1 : (1 : Int32).toInt = 1 := by decide
        omega)
      obtain ⟨k, hk, rfl⟩ := nI_of2 (x := v1) (M := 3) (n := 3) (by decide) hn0 h3
      have hk0 : 1 ≤ k := by
        refine Nat.pos_of_ne_zero (fun h => h1 ?_)
        rw [h]
        decide
      by_cases h8 : m ≤ 8
      · rw [if_pos (nI_le h8 (by decide))]
        exact Or.inl ⟨k, hk0, hk, rfl, h8, rfl, rfl⟩
      · rw [if_neg (nI_ge (a := 8) (by omega) (by omega))]
        exact Or.inr ⟨-5, by decide, rfl, rfl⟩
    · rw [if_neg h3, if_pos (Int32.not_le.mp h3)]
      exact Or.inr ⟨-1, by decide, rfl, rfl⟩
theorem s_findLabelling (fu : Nat) (hfu : 40000 < fu) {n m : Nat} {S T L : Nat → Nat} {ox sx om sm : Int32} {lx cx tx lm cm tm : Nat → Int32} (hp : SyP n m S T L) (hx : Sy n m S T L ox sx lx cx tx) (hm : Sy n m S T L om sm lm cm tm) {above pairs : Nat → Nat → Int32} {p : Nat → Nat → Bool} (ho : OrM above pairs p) {nb : Nat → Int32} (hnb : Rb nb o_nat) {fx fm : Int32} {dx dm : Nat → Int32} (hF : FoR fx dx fm dm) (to ts tc a0 b0 : Int32) (tl tso tt tw f0 g0 wx kl0 : Nat → Int32) (kp0 M0 : Nat → Nat → Int32) (v1 : Int32) :
    ∃ (r : Int32) (V1 : Nat → Int32) (V2 : Nat → Nat → Int32) (W1 : Nat → Int32) (W2 : Nat → Nat → Int32) (W3 : Nat → Nat → Nat → Int32), f_X11_findLabelling fu fx to ts tc ox sx dx nb tl tso tt tw f0 g0 lx cx tx wx v1 = some (r, V1, V2) ∧ f_X12_findLabelling fu om sm a0 b0 fm above dm kl0 kp0 lm M0 pairs cm tm v1 = some (r, W1, W2, W3) ∧ FoR (V1 0) (V2 0) (W1 1) (W2 0) ∧ Sy n m S T L om sm (W2 2) cm tm ∧ OrM (W3 0) (W3 3) p := by
  have hm32 := hp.2.1
  have es := hx.2.1
  have et := hm.2.1
  subst es et
  unfold f_X11_findLabelling f_X12_findLabelling
  rcases sErr_x hm32 v1 with ⟨k, hk1, hk3, rfl, hm8, g1, g2⟩ | ⟨e, he, g1, g2⟩
  · rw [g1, g2]
    simp only [Option.bind_some, lt, ↓reduceIte]
    obtain ⟨⟨r, V1, V2⟩, e1, e2⟩ := x_findFirst fu hfu hp hx hm8 hk1 hk3 hnb fx wx dx tl tso tt tw f0 g0
    obtain ⟨⟨r2, W1, W2, W3⟩, e3, e4, e5, e6⟩ := m_search fu hfu hp hm hm8 hk1 hk3 ho a0 b0 fm dm kl0 kp0 M0 true
    rw [e1]
    rw [show f_X12_search fu om (nI m) a0 b0 fm above dm kl0 kp0 lm M0 pairs cm tm (nI k) 1 = some (r2, W1, W2, W3) from e3]
    simp only [Option.bind_some]
    have hSy : Sy n m S T L om (nI m) (W2 2) cm tm := ⟨hm.1, hm.2.1, fun i hi => (e5 i (by omega)).trans (hm.2.2.1 i hi), hm.2.2.2.1, hm.2.2.2.2⟩
    unfold SrI at e4
    rw [if_pos rfl] at e4
    rcases e2 with ⟨h1, h2, h3, h4⟩ | ⟨h1, t, h2, h3, h4, h5, h6⟩
    · have h1 : r = 0 := h1
      subst h1
      rw [if_pos rfl]
      rcases e4 with ⟨k1, k2, k3, k4⟩ | ⟨k1, u, k2, k3, _⟩
      · have k1 : r2 = 0 := k1
        subst k1
        refine ⟨_, _, _, _, _, _, rfl, rfl, ?_, hSy, e6⟩
        show FoR (V1 0) (V2 0) (W1 1) (W2 0)
        rw [show V1 0 = fx from h3, show V2 0 = dx from h4, show W1 1 = fm from k3, show W2 0 = dm from k4]
        exact hF
      · exact absurd k3 (h2 u k2)
    · have h1 : r = 1 := h1
      subst h1
      rw [if_neg (by decide)]
      rcases e4 with ⟨k1, k2, _⟩ | ⟨k1, u, k2, k3, k4, k5, k6⟩
      · exact absurd h3 (k2 t h2)
      · have k1 : r2 = 1 := k1
        subst k1
        have htu : t = u := by
          rcases Nat.lt_trichotomy t u with h | h | h
          · exact absurd h3 (k4 t h)
          · exact h
          · exact absurd k3 (h4 u h)
        subst htu
        refine ⟨_, _, _, _, _, _, rfl, rfl, ?_, hSy, e6⟩
        show FoR (V1 0) (V2 0) (W1 1) (W2 0)
        exact Or.inr ⟨m, hm8, h5, k5, fun i hi => ⟨dgt k m t i, by have := dgt_lt hk1 m t i; omega, h6 i hi, k6 i hi⟩⟩
  · rw [g1, g2]
    simp only [Option.bind_some, lt, he, ↓reduceIte]
    exact ⟨_, _, _, _, _, _, rfl, rfl, hF, hm, ho⟩
theorem s_labellingCount (fu : Nat) (hfu : 40000 < fu) {n m : Nat} {S T L : Nat → Nat} {ox sx om sm : Int32} {lx cx tx lm cm tm : Nat → Int32} (hp : SyP n m S T L) (hx : Sy n m S T L ox sx lx cx tx) (hm : Sy n m S T L om sm lm cm tm) {above pairs : Nat → Nat → Int32} {p : Nat → Nat → Bool} (ho : OrM above pairs p) {nb : Nat → Int32} (hnb : Rb nb o_nat) {fx fm : Int32} {dx dm : Nat → Int32} (hF : FoR fx dx fm dm) (to ts tc a0 b0 : Int32) (tl tso tt tw f0 g0 wx kl0 : Nat → Int32) (kp0 M0 : Nat → Nat → Int32) (v1 : Int32) :
    ∃ (r : Int32) (V1 : Nat → Int32) (V2 : Nat → Nat → Int32) (W1 : Nat → Int32) (W2 : Nat → Nat → Int32) (W3 : Nat → Nat → Nat → Int32), f_X11_labellingCount fu to ts tc ox sx nb tl tso tt tw f0 g0 lx cx tx wx v1 = some (r, V1, V2) ∧ f_X12_labellingCount fu om sm a0 b0 fm above dm kl0 kp0 lm M0 pairs cm tm v1 = some (r, W1, W2, W3) ∧ FoR fx dx (W1 1) (W2 0) ∧ Sy n m S T L om sm (W2 2) cm tm ∧ OrM (W3 0) (W3 3) p := by
  have hm32 := hp.2.1
  have es := hx.2.1
  have et := hm.2.1
  subst es et
  unfold f_X11_labellingCount f_X12_labellingCount
  rcases sErr_x hm32 v1 with ⟨k, hk1, hk3, rfl, hm8, g1, g2⟩ | ⟨e, he, g1, g2⟩
  · rw [g1, g2]
    simp only [Option.bind_some, lt, ↓reduceIte]
    obtain ⟨⟨r, V1, V2⟩, e1, e2⟩ := x_countAll fu hfu hp hx hm8 hk1 hk3 hnb wx tl tso tt tw f0 g0
    obtain ⟨⟨r2, W1, W2, W3⟩, e3, e4, e5, e6⟩ := m_search fu hfu hp hm hm8 hk1 hk3 ho a0 b0 fm dm kl0 kp0 M0 false
    rw [e1]
    rw [show f_X12_search fu om (nI m) a0 b0 fm above dm kl0 kp0 lm M0 pairs cm tm (nI k) 0 = some (r2, W1, W2, W3) from e3]
    simp only [Option.bind_some]
    have hSy : Sy n m S T L om (nI m) (W2 2) cm tm := ⟨hm.1, hm.2.1, fun i hi => (e5 i (by omega)).trans (hm.2.2.1 i hi), hm.2.2.2.1, hm.2.2.2.2⟩
    unfold SrI at e4
    rw [if_neg (by decide)] at e4
    obtain ⟨k1, k2, k3⟩ := e4
    have : r = r2 := Eq.trans e2 (Eq.symm k1)
    subst this
    refine ⟨_, _, _, _, _, _, rfl, rfl, ?_, hSy, e6⟩
    show FoR fx dx (W1 1) (W2 0)
    rw [show W1 1 = fm from k2, show W2 0 = dm from k3]
    exact hF
  · rw [g1, g2]
    simp only [Option.bind_some, lt, he, ↓reduceIte]
    exact ⟨_, _, _, _, _, _, rfl, rfl, hF, hm, ho⟩
theorem s_foundLabel {fx fm : Int32} {dx dm : Nat → Int32} (hF : FoR fx dx fm dm) (v1 : Int32) : ∃ r, f_X11_foundLabel fx dx v1 = some r ∧ f_X12_foundLabel fm dm v1 = some r := by
  unfold f_X11_foundLabel f_X12_foundLabel
  rcases hF with ⟨rfl, rfl⟩ | ⟨q, hq, rfl, rfl, hd⟩
  · rw [show f_X12_isBetween v1 0 (-1 - 1) = some (bI (inO v1 none)) from btw_sz (K := none) (fun k h => by cases h) v1]
    simp only [Option.bind_some, inO, bI_if, Bool.false_eq_true, ↓reduceIte]
    by_cases h1 : v1 < 0
    · rw [if_pos h1]
      exact ⟨_, rfl, rfl⟩
    · rw [if_neg h1, if_pos]
      · exact ⟨_, rfl, rfl⟩
      · rw [Int32.lt_iff_toInt_lt] at h1
        rw [Int32.le_iff_toInt_le]
        have e0 : (0 : Int32).toInt = 0 := by decide
        have e1 : (-2 : Int32).toInt = -2 := by decide
        omega
  · rw [inN_if]
    simp (disch := omega) only [btw_e, Option.bind_some, bI_if]
    cases hv : inN v1 q with
    | false => exact ⟨_, rfl, rfl⟩
    | true =>
      obtain ⟨i, hi, rfl⟩ := inN_of (by omega) hv
      obtain ⟨c, _, h1, h2⟩ := hd i hi
      simp (disch := omega) only [↓reduceIte, ck_nI, nI_clamp, h1, h2]
      exact ⟨_, rfl, rfl⟩
theorem s_applyLabelling (fu : Nat) (hfu : 32 < fu) {n m : Nat} {S T L : Nat → Nat} {ox sx om sm : Int32} {lx cx tx lm cm tm : Nat → Int32} (hp : SyP n m S T L) (hx : Sy n m S T L ox sx lx cx tx) (hm : Sy n m S T L om sm lm cm tm) {below pairs : Nat → Int32} {above pm : Nat → Nat → Int32} {p : Nat → Nat → Bool} (hP : OrP p) (hox : OrX below pairs p) (hom : OrM above pm p) {fx fm : Int32} {dx dm : Nat → Int32} (hF : FoR fx dx fm dm) :
    ∃ (r : Int32) (b' p' l' : Nat → Int32) (a' q' : Nat → Nat → Int32) (lm' : Nat → Int32) (L' : Nat → Nat) (pp : Nat → Nat → Bool), f_X11_applyLabelling fu fx sx dx below pairs lx = some (r, b', p', l') ∧ f_X12_applyLabelling fu sm fm above dm lm pm = some (r, a', lm', q') ∧ SyP n m S T L' ∧ Sy n m S T L' ox sx l' cx tx ∧ Sy n m S T L' om sm lm' cm tm ∧ OrP pp ∧ OrX b' p' pp ∧ OrM a' q' pp := by
  have hm32 := hp.2.1
  have es := hx.2.1
  have et := hm.2.1
  subst es et
  unfold f_X11_applyLabelling f_X12_applyLabelling
  have hne1 : ¬ (-2 : Int32) = nI m := fun h => nI_ne2 (show m < 2 ^ 31 by omega) h.symm
  have hne2 : ¬ (-1 : Int32) = nI m := by
    intro hc
    have : (nI m).toInt = (-1 : Int32).toInt := by rw [← hc]
    rw [nI_toInt (by omega)] at this
    have h22 : (-1 : Int32).toInt = -1 := by decide
    omega
  rcases hF with ⟨rfl, rfl⟩ | ⟨q, hq, rfl, rfl, hd⟩
  · rw [if_neg hne1, if_neg hne2]
    exact ⟨_, _, _, _, _, _, _, L, p, rfl, rfl, hp, hx, hm, hP, hox, hom⟩
  · simp (disch := omega) only [nI_eq]
    by_cases hqm : q = m
    · subst hqm
      rw [if_pos rfl, if_pos rfl]
      simp only [lt]
      obtain ⟨⟨b', p'⟩, n1, n2⟩ := x_makeNatural fu (by omega) below pairs
      obtain ⟨⟨rr, a', q'⟩, n3, n4, n5⟩ := m_natural fu (by omega) above pm p hom.2
      -- the labels that were found
      have hL : ∃ Lf : Nat → Nat, ∀ i, i < q → Lf i < 8 ∧ dx i = nI (Lf i) ∧ dm i = nI (Lf i) := by
        refine ⟨fun i => (dx i).toNatClampNeg, fun i hi => ?_⟩
        obtain ⟨c, h1, h2, h3⟩ := hd i hi
        show (dx i).toNatClampNeg < 8 ∧ dx i = nI (dx i).toNatClampNeg ∧ dm i = nI (dx i).toNatClampNeg
        rw [h2, nI_clamp (by omega)]
        exact ⟨h1, rfl, h3⟩
      obtain ⟨Lf, hLf⟩ := hL
      let cnt : Nat → Nat := fun i => (List.range i).countP (fun j => decide (L j ≠ Lf j))
      have cnt_s : ∀ i, cnt (i + 1) = cnt i + (if L i ≠ Lf i then 1 else 0) := by
        intro i
        show (List.range (i + 1)).countP _ = (List.range i).countP _ + _
        rw [List.range_succ, List.countP_append]
        simp
      have hX : tot (lp (τ := Int32 → Int32 → (Nat → Int32) → Option (Int32 × (Nat → Int32) × (Nat → Int32) × (Nat → Int32))) (fun _ _ _ => none) (f_X11_applyLabelling_L24 fu (nI q) dx below pairs) fu 0 0 lx) (fun o => o.1 = nI (cnt q) ∧ OrX o.2.1 o.2.2.1 o_nat ∧ ∀ i, i < q → o.2.2.2 i = nI (Lf i)) := by
        refine lw3 (fun t c v lab => ∃ i, v = nI i ∧ i + t = q ∧ c = nI (cnt i) ∧ ∀ j, j < q → lab j = nI (if j < i then Lf j else L j)) ?_ fu q _ _ _ (by omega) ⟨0, rfl, by omega, rfl, fun j hj => by rw [if_neg (Nat.not_lt_zero j)]; exact hx.2.2.1 j hj⟩
        rintro r t c v lab ⟨i, rfl, hi, rfl, hlab⟩ ih
        unfold f_X11_applyLabelling_L24 f_X11_applyLabelling_J83 f_X11_applyLabelling_J77
        by_cases hiq : i = q
        · rw [hiq, if_pos (nI_le (Nat.le_refl _) (by omega)), n1]
          rw [hiq] at hlab
          exact tot_some ⟨rfl, n2, fun j hj => by show lab j = nI (Lf j); rw [hlab j hj, if_pos hj]⟩
        · rw [if_neg (nI_ge (a := i) (by omega) (by omega))]
          have hi2 : i < q := by omega
          have l1 := (hp.2.2 i hi2).2.2
          have l2 := hLf i hi2
          simp (disch := omega) only [ck_nI, nI_clamp, lt, nI_1]
          rw [hlab i hi2, if_neg (Nat.lt_irrefl i), l2.2.1]
          simp (disch := omega) only [nI_eq]
          by_cases he : L i = Lf i
          · rw [if_pos he]
            refine ih (t - 1) _ _ _ (by omega) ⟨i + 1, rfl, by omega, ?_, fun j hj => ?_⟩
            · rw [cnt_s, if_neg (fun h => h he)]
              rfl
            · rw [hlab j hj]
              by_cases hji : j < i
              · rw [if_pos hji, if_pos (by omega)]
              · rw [if_neg hji]
                by_cases hje : j = i
                · rw [if_pos (by omega), hje, he]
                · rw [if_neg (by omega)]
          · rw [if_neg he]
            refine ih (t - 1) _ _ _ (by omega) ⟨i + 1, rfl, by omega, ?_, fun j hj => ?_⟩
            · rw [cnt_s, if_pos he]
            · rw [upd_e]
              by_cases hje : j = i
              · rw [if_pos hje, if_pos (by omega), hje]
              · rw [if_neg hje, hlab j hj]
                by_cases hji : j < i
                · rw [if_pos hji, if_pos (by omega)]
                · rw [if_neg hji, if_neg (by omega)]
      have hM : tot (lp (τ := Int32 → Int32 → (Nat → Int32) → Option (Int32 × (Nat → Nat → Int32) × (Nat → Int32) × (Nat → Nat → Int32))) (fun _ _ _ => none) (f_X12_applyLabelling_L18 fu (nI q) above dm pm) fu 0 0 lm) (fun o => o.1 = nI (cnt q) ∧ OrM o.2.1 o.2.2.2 o_nat ∧ ∀ i, i < q → o.2.2.1 i = nI (Lf i)) := by
        refine lw3 (fun t c v lab => ∃ i, v = nI i ∧ i + t = q ∧ c = nI (cnt i) ∧ ∀ j, j < q → lab j = nI (if j < i then Lf j else L j)) ?_ fu q _ _ _ (by omega) ⟨0, rfl, by omega, rfl, fun j hj => by rw [if_neg (Nat.not_lt_zero j)]; exact hm.2.2.1 j hj⟩
        rintro r t c v lab ⟨i, rfl, hi, rfl, hlab⟩ ih
        unfold f_X12_applyLabelling_L18 f_X12_applyLabelling_J67 f_X12_applyLabelling_J47
        by_cases hiq : i = q
        · rw [hiq, if_pos (nI_le (Nat.le_refl _) (by omega)), n3]
          rw [hiq] at hlab
          exact tot_some ⟨rfl, n5, fun j hj => by show lab j = nI (Lf j); rw [hlab j hj, if_pos hj]⟩
        · rw [if_neg (nI_ge (a := i) (by omega) (by omega))]
          have hi2 : i < q := by omega
          have l1 := (hp.2.2 i hi2).2.2
          have l2 := hLf i hi2
          have e0 : ∀ x : Int32, x + 0 = x := fun x => Int32.add_zero x
          simp (disch := omega) only [ck_nI, nI_clamp, lt, nI_1, e0]
          rw [hlab i hi2, if_neg (Nat.lt_irrefl i), l2.2.2]
          simp (disch := omega) only [nI_eq]
          have hnew : ∀ j, j < q → upd lab i (nI (Lf i)) j = nI (if j < i + 1 then Lf j else L j) := fun j hj => by
            rw [upd_e]
            by_cases hje : j = i
            · rw [if_pos hje, if_pos (by omega), hje]
            · rw [if_neg hje, hlab j hj]
              by_cases hji : j < i
              · rw [if_pos hji, if_pos (by omega)]
              · rw [if_neg hji, if_neg (by omega)]
          by_cases he : L i = Lf i
          · rw [if_pos he]
            refine ih (t - 1) _ _ _ (by omega) ⟨i + 1, rfl, by omega, ?_, hnew⟩
            rw [cnt_s, if_neg (fun h => h he)]
            rfl
          · rw [if_neg he]
            refine ih (t - 1) _ _ _ (by omega) ⟨i + 1, rfl, by omega, ?_, hnew⟩
            rw [cnt_s, if_pos he]
      obtain ⟨⟨r, b1, p1, l1⟩, x1, x2, x3, x4⟩ := hX
      obtain ⟨⟨r2, a1, l2, q1⟩, y1, y2, y3, y4⟩ := hM
      have : r = r2 := Eq.trans x2 (Eq.symm y2)
      subst this
      refine ⟨r, b1, p1, l1, a1, q1, l2, Lf, o_nat, x1, y1, ⟨hp.1, hp.2.1, fun i hi => ⟨(hp.2.2 i hi).1, (hp.2.2 i hi).2.1, (hLf i hi).1⟩⟩, ⟨hx.1, hx.2.1, x4, hx.2.2.2.1, hx.2.2.2.2⟩, ⟨hm.1, hm.2.1, y4, hm.2.2.2.1, hm.2.2.2.2⟩, ⟨o_nat_sm, o_nat_ac⟩, x3, y3⟩
    · rw [if_neg hqm, if_neg hqm]
      exact ⟨_, _, _, _, _, _, _, L, p, rfl, rfl, hp, hx, hm, hP, hox, hom⟩
