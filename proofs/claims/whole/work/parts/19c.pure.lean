/-! ===== rules; the words of objects ===== -/
def wdM (w : List Nat) (len : Int32) (row : Nat → Int32) : Prop := len = nI w.length ∧ ∀ k c, w[k]? = some c → row k = nI (96 + c)
def RuP (c : Nat) (RL RR : Nat → List Nat) : Prop := c ≤ 6 ∧ ∀ i, i < c → Wd (RL i) ∧ 1 ≤ (RL i).length ∧ (RL i).length ≤ 4 ∧ Wd (RR i) ∧ (RR i).length ≤ 4
def RuX (c : Nat) (RL RR : Nat → List Nat) (cx : Int32) (lf rg : Nat → Int32) : Prop := cx = nI c ∧ ∀ i, i < c → lf i = nI (enc (RL i)) ∧ rg i = nI (enc (RR i))
def RuM (c : Nat) (RL RR : Nat → List Nat) (cm : Int32) (sl : Nat → Int32) (sd : Nat → Nat → Int32) : Prop := cm = nI c ∧ ∀ i, i < c → wdM (RL i) (sl (2 * i)) (sd (2 * i)) ∧ wdM (RR i) (sl (2 * i + 1)) (sd (2 * i + 1))
theorem i_err (a b : Nat) : (-100 : Int32) - nI (a + 1 + b) = (-100 - nI a) - 1 - nI b := by
  rw [← nI_add, ← nI_1]
  simp only [Int32.sub_eq_add_neg, Int32.neg_add, Int32.add_assoc]
theorem m_rule (fu : Nat) (hfu : 32 < fu) {c : Nat} (hc : c < 6) {u v : List Nat} (hu : u.length ≤ 4) (hv : v.length ≤ 4) {bm sl : Nat → Int32} {sd : Nat → Nat → Int32} (h1 : ∀ k d, u[k]? = some d → bm k = nI (96 + d)) (h2 : ∀ k d, v[k]? = some d → bm (u.length + 1 + k) = nI (96 + d)) :
    tot (lp (τ := Int32 → (Nat → Nat → Int32) → Option (Int32 × Int32 × Int32 × (Nat → Int32) × (Nat → Nat → Int32))) (fun _ _ => none) (f_X12_addRule_L86 fu 0 (nI c) bm sl (nI u.length) (nI v.length)) fu 0 sd) (fun q => q.1 = nI c ∧ q.2.1 = 0 ∧ q.2.2.1 = nI (c + 1) ∧ (∀ j, j ≠ 2 * c → j ≠ 2 * c + 1 → q.2.2.2.1 j = sl j ∧ q.2.2.2.2 j = sd j) ∧ wdM u (q.2.2.2.1 (2 * c)) (q.2.2.2.2 (2 * c)) ∧ wdM v (q.2.2.2.1 (2 * c + 1)) (q.2.2.2.2 (2 * c + 1))) := by
  refine lw2 (fun k w M => ∃ i, w = nI i ∧ i + k = u.length ∧ (∀ j, j ≠ 2 * c → M j = sd j) ∧ ∀ x d, x < i → u[x]? = some d → M (2 * c) x = nI (96 + d)) ?_ fu u.length _ _ (by omega) ⟨0, rfl, by omega, fun j _ => rfl, fun x d h => absurd h (Nat.not_lt_zero x)⟩
  rintro r k w M ⟨i, rfl, hi, hM1, hM2⟩ ih
  unfold f_X12_addRule_L86
  by_cases hiu : i = u.length
  · rw [if_pos (nI_le (show u.length ≤ i by omega) (by omega))]
    unfold f_X12_addRule_J119
    refine tot_lt (lw2 (fun k w M => ∃ i, w = nI i ∧ i + k = v.length ∧ (∀ j, j ≠ 2 * c → j ≠ 2 * c + 1 → M j = sd j) ∧ (∀ x d, u[x]? = some d → M (2 * c) x = nI (96 + d)) ∧ ∀ x d, x < i → v[x]? = some d → M (2 * c + 1) x = nI (96 + d)) ?_ fu v.length _ _ (by omega) ⟨0, rfl, by omega, fun j h _ => hM1 j h, fun x d hx => hM2 x d (by rw [hiu]; exact (List.getElem?_eq_some_iff.mp hx).1) hx, fun x d h => absurd h (Nat.not_lt_zero x)⟩)
    clear ih hM1 hM2
    rintro r k w M ⟨i, rfl, hi, hM1, hM2, hM3⟩ ih
    unfold f_X12_addRule_L122
    by_cases hiv : i = v.length
    · rw [if_pos (nI_le (show v.length ≤ i by omega) (by omega))]
      unfold f_X12_addRule_J161
      simp (disch := omega) only [k2m, nI_1, ck_nI, nI_clamp, lt, nI_s1]
      refine tot_some ⟨rfl, rfl, rfl, fun j g1 g2 => ⟨?_, hM1 j g1 g2⟩, ⟨?_, hM2⟩, ⟨?_, fun x d hx => hM3 x d (by rw [hiv]; exact (List.getElem?_eq_some_iff.mp hx).1) hx⟩⟩
      · show upd (upd sl (2 * c) _) (2 * c + 1) _ j = sl j
        rw [upd_e, if_neg g2, upd_e, if_neg g1]
      · show upd (upd sl (2 * c) _) (2 * c + 1) _ (2 * c) = _
        rw [upd_e, if_neg (by omega), upd_e, if_pos rfl]
      · show upd (upd sl (2 * c) _) (2 * c + 1) _ (2 * c + 1) = _
        rw [upd_e, if_pos rfl]
    · rw [if_neg (nI_ge (a := i) (by omega) (by omega))]
      have hc2 : v[i]? = some (v[i]'(by omega)) := List.getElem?_eq_getElem (by omega)
      generalize v[i]'(by omega) = d at hc2
      simp (disch := omega) only [k2m, nI_1, nI_add, ck_nI, nI_clamp, lt]
      rw [h2 i d hc2]
      refine ih (k - 1) _ _ (by omega) ⟨i + 1, rfl, by omega, fun j g1 g2 => ?_, fun x e hx => ?_, fun x e hx hv2 => ?_⟩
      · funext y
        rw [up2_e, if_neg g2, hM1 j g1 g2]
      · rw [up2_e, if_neg (by omega)]
        exact hM2 x e hx
      · rw [up2_e, if_pos rfl]
        by_cases hxi : x = i
        · rw [if_pos hxi]
          rw [hxi, hc2] at hv2
          cases hv2
          rfl
        · rw [if_neg hxi]
          exact hM3 x e (by omega) hv2
  · rw [if_neg (nI_ge (a := i) (by omega) (by omega))]
    have hc2 : u[i]? = some (u[i]'(by omega)) := List.getElem?_eq_getElem (by omega)
    generalize u[i]'(by omega) = d at hc2
    simp (disch := omega) only [k2m, nI_1, ck_nI, nI_clamp, lt]
    rw [h1 i d hc2]
    refine ih (k - 1) _ _ (by omega) ⟨i + 1, rfl, by omega, fun j g1 => ?_, fun x e hx hv2 => ?_⟩
    · funext y
      rw [up2_e, if_neg g1, hM1 j g1]
    · rw [up2_e, if_pos rfl]
      by_cases hxi : x = i
      · rw [if_pos hxi]
        rw [hxi, hc2] at hv2
        cases hv2
        rfl
      · rw [if_neg hxi]
        exact hM2 x e (by omega) hv2
theorem s_addRule (fu : Nat) (hfu : 32 < fu) {l : List Nat} {ix im : Int32} {bx bm : Nat → Int32} (hl : InP l) (h1 : TxX l ix bx) (h2 : TxX l im bm) {c : Nat} {RL RR : Nat → List Nat} {cx cm : Int32} {lf rg sl : Nat → Int32} {sd : Nat → Nat → Int32} (hr : RuP c RL RR) (hrx : RuX c RL RR cx lf rg) (hrm : RuM c RL RR cm sl sd) :
    ∃ (r ix' im' cx' cm' : Int32) (lf' rg' sl' : Nat → Int32) (sd' : Nat → Nat → Int32) (l' : List Nat) (c' : Nat) (RL' RR' : Nat → List Nat), f_X11_addRule fu ix cx bx lf rg = some (r, ix', cx', lf', rg') ∧ f_X12_addRule fu im cm bm sl sd = some (r, im', cm', sl', sd') ∧ InP l' ∧ TxX l' ix' bx ∧ TxX l' im' bm ∧ RuP c' RL' RR' ∧ RuX c' RL' RR' cx' lf' rg' ∧ RuM c' RL' RR' cm' sl' sd' := by
  have a1 := h1.1
  have a2 := h2.1
  have a3 := hrx.1
  have a4 := hrm.1
  subst a1 a2 a3 a4
  have hl20 := hl.1
  have hc6 := hr.1
  have hnil : InP [] := ⟨by decide, fun c h => by cases h⟩
  unfold f_X11_addRule f_X12_addRule
  rw [show (6 : Int32) = nI 6 from rfl]
  simp (disch := omega) only [nI_ltI, nI_eq]
  by_cases hf : c < 6
  · have g6 : ¬ c = 6 := by omega
    rw [if_pos hf, if_pos g6]
    obtain ⟨p1, p2, p3⟩ := wdA_P l 4 0
    have w1 := x_wordAt fu hfu hl h1 (f := 0) (q := 4) (by decide) (by decide)
    rw [show f_X1_wordAt fu (nI l.length) bx 0 4 = _ from w1]
    simp only [Option.bind_some, lt]
    rw [x_lenOf fu hfu p2 (by omega)]
    simp only [Option.bind_some, nI_1]
    obtain ⟨p4, p5, p6⟩ := wdA_P l 4 ((wdA l 0 4).length + 1)
    have w2 := x_wordAt fu hfu hl h1 (f := (wdA l 0 4).length + 1) (q := 4) (by omega) (by decide)
    rw [show f_X1_wordAt fu (nI l.length) bx (nI ((wdA l 0 4).length + 1)) 4 = _ from w2]
    simp only [Option.bind_some]
    rw [x_lenOf fu hfu p5 (by omega)]
    simp only [Option.bind_some, nI_add]
    have m1 := m_letters fu hfu hl h2 (f := 0) (q := 4) (by decide) (by decide)
    rw [show f_X12_lettersIn fu bm (nI l.length) 0 4 = _ from m1]
    have m2 := m_letters fu hfu hl h2 (f := (wdA l 0 4).length + 1) (q := 4) (by omega) (by decide)
    simp only [Option.bind_some, nI_1]
    rw [show f_X12_lettersIn fu bm (nI l.length) (nI ((wdA l 0 4).length + 1)) 4 = _ from m2]
    simp only [Option.bind_some]
    have hin := wdA_in (l := l) (q := 4) (f := 0)
    have hin2 := wdA_in (l := l) (q := 4) (f := (wdA l 0 4).length + 1)
    unfold f_X11_addRule_J73 f_X11_addRule_J74 f_X11_addRule_J93
    have hclr : f_X1_clear = some 0 := rfl
    simp only [hclr, lt, Option.bind_some]
    clear w1 w2 m1 m2
    generalize wdA l 0 4 = u at *
    generalize wdA l (u.length + 1) 4 = v at *
    have heI : nI (u.length + 1 + v.length) = nI l.length ↔ u.length + 1 + v.length = l.length := nI_eq (by omega) (by omega)
    by_cases h0 : u.length ≤ 0
    · have h0' : u.length = 0 := by omega
      rw [if_pos (show nI u.length ≤ 0 from nI_le (b := 0) h0 (by decide)), if_pos (show nI u.length = 0 by rw [h0']; rfl)]
      simp only [not_true_eq_false, ↓reduceIte]
      refine ⟨_, 0, 0, _, _, _, _, _, _, [], c, RL, RR, ?_, rfl, hnil, TxX_nil bx, TxX_nil bm, hr, hrx, hrm⟩
      by_cases he : u.length + 1 + v.length = l.length
      · rw [if_neg (fun h => h (heI.mpr he))]
      · rw [if_pos (fun h => he (heI.mp h))]
    · have h0' : ¬ u.length = 0 := by omega
      rw [if_neg (show ¬ nI u.length ≤ 0 from nI_nle (by omega) (by omega)), if_neg (show ¬ nI u.length = 0 from nI_ne0 (by omega) (by omega))]
      have hub : u.length < 100 := by omega
      rcases x_byteAt hl h1 (i := u.length) hub with ⟨d, g1, g2⟩ | ⟨g1, g2⟩
      · have hlt := (List.getElem?_eq_some_iff.mp g1).1
        have hd := hl.2 d (List.mem_of_getElem? g1)
        rw [g2, if_neg (show ¬ nI l.length ≤ nI u.length from nI_ge (by omega) (by omega))]
        simp (disch := omega) only [Option.bind_some, ck_nI, nI_clamp]
        rw [h2.2 _ d g1, show (62 : Int32) = nI 62 from rfl]
        simp (disch := omega) only [nI_eq, nI_add]
        by_cases h62 : d = 62
        · rw [if_neg (fun h => h h62), if_pos h62]
          by_cases he : u.length + 1 + v.length = l.length
          · rw [if_neg (fun h => h he), if_pos (show nI l.length ≤ nI (u.length + 1 + v.length) from nI_le (by omega) (by omega))]
            simp only [show ¬ (1 : Int32) = 0 by decide, not_false_eq_true, ↓reduceIte]
            unfold f_X8_append
            rw [show (6 : Int32) = nI 6 from rfl, if_pos (nI_lt hf (by decide))]
            simp (disch := omega) only [ck_nI, nI_clamp, lt, nI_1, nI_s1, Option.bind_some]
            have hu1 : ∀ k e, u[k]? = some e → bm k = nI (96 + e) := fun k e hk => by
              have := p3 k e hk
              rw [Nat.zero_add] at this
              exact h2.2 k _ this
            have hv1 : ∀ k e, v[k]? = some e → bm (u.length + 1 + k) = nI (96 + e) := fun k e hk => h2.2 _ _ (p6 k e hk)
            obtain ⟨⟨q1, q2, q3, q4, q5⟩, f1, f2, f3, f4, f5, f6, f7⟩ := m_rule fu hfu hf (by omega) (by omega) (sl := sl) (sd := sd) hu1 hv1
            have f2 : q1 = nI c := f2
            have f3 : q2 = 0 := f3
            have f4 : q3 = nI (c + 1) := f4
            subst f2 f3 f4
            refine ⟨_, _, _, _, _, _, _, q4, q5, [], c + 1, put1 RL c u, put1 RR c v, rfl, f1, hnil, TxX_nil bx, TxX_nil bm, ⟨by omega, fun i hi => ?_⟩, ⟨rfl, fun i hi => ?_⟩, ⟨rfl, fun i hi => ?_⟩⟩
            · unfold put1
              by_cases hic : i = c
              · simp only [hic, ↓reduceIte]
                exact ⟨p2, by omega, by omega, p5, by omega⟩
              · simp only [hic, ↓reduceIte]
                exact hr.2 i (by omega)
            · rw [upd_e, upd_e]
              unfold put1
              by_cases hic : i = c
              · simp only [hic, ↓reduceIte]
                exact ⟨trivial, trivial⟩
              · simp only [hic, ↓reduceIte]
                exact hrx.2 i (by omega)
            · unfold put1
              by_cases hic : i = c
              · simp only [hic, ↓reduceIte]
                exact ⟨f6, f7⟩
              · simp only [hic, ↓reduceIte]
                have z1 := f5 (2 * i) (by omega) (by omega)
                have z2 := f5 (2 * i + 1) (by omega) (by omega)
                have z := hrm.2 i (by omega)
                rw [show q4 (2 * i) = sl (2 * i) from z1.1, show q5 (2 * i) = sd (2 * i) from z1.2, show q4 (2 * i + 1) = sl (2 * i + 1) from z2.1, show q5 (2 * i + 1) = sd (2 * i + 1) from z2.2]
                exact z
          · have hlt2 : ¬ l.length ≤ u.length + 1 + v.length := by
              rcases hin2 with hh | hh
              · omega
              · omega
            rw [if_pos he, if_neg (show ¬ nI l.length ≤ nI (u.length + 1 + v.length) from nI_ge (by omega) (by omega))]
            simp only [show ¬ (1 : Int32) = 0 by decide, not_false_eq_true, ↓reduceIte]
            rw [← i_err]
            exact ⟨_, _, _, _, _, _, _, _, _, [], c, RL, RR, rfl, rfl, hnil, TxX_nil bx, TxX_nil bm, hr, hrx, hrm⟩
        · rw [if_pos h62, if_neg h62]
          simp only [not_true_eq_false, ↓reduceIte]
          refine ⟨_, 0, 0, _, _, _, _, _, _, [], c, RL, RR, ?_, rfl, hnil, TxX_nil bx, TxX_nil bm, hr, hrx, hrm⟩
          by_cases he : u.length + 1 + v.length = l.length
          · rw [if_neg (fun h => h he)]
          · rw [if_pos he]
      · have hge : l.length ≤ u.length := List.getElem?_eq_none_iff.mp g1
        rw [g2, if_pos (show nI l.length ≤ nI u.length from nI_le hge (by omega))]
        simp only [Option.bind_some]
        rw [if_pos (by decide)]
        simp only [not_true_eq_false, ↓reduceIte]
        refine ⟨_, 0, 0, _, _, _, _, _, _, [], c, RL, RR, ?_, rfl, hnil, TxX_nil bx, TxX_nil bm, hr, hrx, hrm⟩
        by_cases he : u.length + 1 + v.length = l.length
        · rw [if_neg (fun h => h (heI.mpr he))]
        · rw [if_pos (fun h => he (heI.mp h))]
  · have g6 : c = 6 := by omega
    rw [if_neg hf, if_neg (fun h => h g6)]
    exact ⟨_, _, _, _, _, _, _, _, _, l, c, RL, RR, rfl, rfl, hl, h1, h2, hr, hrx, hrm⟩
