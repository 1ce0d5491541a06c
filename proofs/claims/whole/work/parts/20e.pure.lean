theorem ex_obj (fu : Nat) (hfu : 32 < fu) {c : Nat} {RL RR : Nat → List Nat} {lf rg sl fl : Nat → Int32} {sd2 : Nat → Nat → Int32} {rx rm0 : Int32} (hr : RuP c RL RR) (hrx : RuX c RL RR rx lf rg) (hrm : RuM c RL RR rm0 sl sd2) (fO fR fL : Int32) (ob st il : Int32) (lab len : Nat → Int32) (ltb : Nat → Nat → Int32) (src tgt : Nat → Int32) :
    ∀ (k fx fm o : Nat) (n m : Nat) (S T L : Nat → Nat) (W : Nat → List Nat) (od sd : Int32) (ld sr tg dw : Nat → Int32) (on sn : Int32) (ln sn2 tn nl : Nat → Int32) (nt : Nat → Nat → Int32) (word : Nat → Int32) (ws : Int32), o + k = 16 → k < fx → k < fm → DrR n m S T L W od sd ld sr tg dw on sn ln sn2 tn nl nt →
      (∃ (ld' : Nat → Int32) (od' : Int32) (sr' : Nat → Int32) (sd' : Int32) (tg' dw' : Nat → Int32) (ln' nl' : Nat → Int32) (nt' : Nat → Nat → Int32) (on' : Int32) (sn2' : Nat → Int32) (sn' : Int32) (tn' word' : Nat → Int32) (ws' : Int32) (n' m' : Nat) (S' T' L' : Nat → Nat) (W' : Nat → List Nat), lp (τ := Int32 → (Nat → Int32) → Int32 → (Nat → Int32) → Int32 → (Nat → Int32) → (Nat → Int32) → Option (Int32 × (Nat → Int32) × (Nat → (Nat → Int32)))) (fun _ _ _ _ _ _ _ => none) (f_X0_run_L18 fu rx fO fR fL lf rg) fx (nI o) ld od sr sd tg dw = some (1, vv (0 : Int32) [od', sd', fL, fO, fR], vv (fun _ => (0 : Int32)) [ld', sr', tg', dw']) ∧ lp (τ := Int32 → (Nat → Int32) → (Nat → Int32) → (Nat → Int32) → (Nat → Nat → Int32) → Int32 → (Nat → Int32) → Int32 → (Nat → Int32) → (Nat → Int32) → Int32 → Option (Int32 × (Nat → Int32) × (Nat → (Nat → Int32)) × (Nat → (Nat → Nat → Int32)))) (fun _ _ _ _ _ _ _ _ _ _ _ => none) (f_X12_explore_L74 fu ob st il rm0 lab len ltb sl sd2 src tgt) fm (nI o) fl ln nl nt on sn2 sn tn word ws = f_X12_explore_J99 fu fl il lab len ltb ln' nl' nt' on' sn2' sn' tn' ob src st tgt word' ws' ∧ DrR n' m' S' T' L' W' od' sd' ld' sr' tg' dw' on' sn' ln' sn2' tn' nl' nt') ∨
      (∃ (V1 : Nat → Int32) (V2 : Nat → Nat → Int32) (a1 a2 a3 : Int32) (b0 b1 b2 b3 b4 b5 : Nat → Int32) (c1 : Nat → Nat → Int32), lp (τ := Int32 → (Nat → Int32) → Int32 → (Nat → Int32) → Int32 → (Nat → Int32) → (Nat → Int32) → Option (Int32 × (Nat → Int32) × (Nat → (Nat → Int32)))) (fun _ _ _ _ _ _ _ => none) (f_X0_run_L18 fu rx fO fR fL lf rg) fx (nI o) ld od sr sd tg dw = some (0, V1, V2) ∧ lp (τ := Int32 → (Nat → Int32) → (Nat → Int32) → (Nat → Int32) → (Nat → Nat → Int32) → Int32 → (Nat → Int32) → Int32 → (Nat → Int32) → (Nat → Int32) → Int32 → Option (Int32 × (Nat → Int32) × (Nat → (Nat → Int32)) × (Nat → (Nat → Nat → Int32)))) (fun _ _ _ _ _ _ _ _ _ _ _ => none) (f_X12_explore_L74 fu ob st il rm0 lab len ltb sl sd2 src tgt) fm (nI o) fl ln nl nt on sn2 sn tn word ws = some (-6, vv (0 : Int32) [il, a1, a2, ob, st, a3], vv (fun _ => (0 : Int32)) [b0, lab, len, b1, b2, b3, b4, src, tgt, b5], vv (fun _ _ => (0 : Int32)) [ltb, c1]) ∧ FaR (V1 3) (V1 4) (V1 2) b0) := by
  have hend : ∀ (fx fm o : Nat) (n m : Nat) (S T L : Nat → Nat) (W : Nat → List Nat) (od sd : Int32) (ld sr tg dw : Nat → Int32) (on sn : Int32) (ln sn2 tn nl : Nat → Int32) (nt : Nat → Nat → Int32) (word : Nat → Int32) (ws : Int32), o ≤ 16 → n ≤ o → 0 < fx → 0 < fm → DrR n m S T L W od sd ld sr tg dw on sn ln sn2 tn nl nt →
      (∃ (ld' : Nat → Int32) (od' : Int32) (sr' : Nat → Int32) (sd' : Int32) (tg' dw' : Nat → Int32) (ln' nl' : Nat → Int32) (nt' : Nat → Nat → Int32) (on' : Int32) (sn2' : Nat → Int32) (sn' : Int32) (tn' word' : Nat → Int32) (ws' : Int32) (n' m' : Nat) (S' T' L' : Nat → Nat) (W' : Nat → List Nat), lp (τ := Int32 → (Nat → Int32) → Int32 → (Nat → Int32) → Int32 → (Nat → Int32) → (Nat → Int32) → Option (Int32 × (Nat → Int32) × (Nat → (Nat → Int32)))) (fun _ _ _ _ _ _ _ => none) (f_X0_run_L18 fu rx fO fR fL lf rg) fx (nI o) ld od sr sd tg dw = some (1, vv (0 : Int32) [od', sd', fL, fO, fR], vv (fun _ => (0 : Int32)) [ld', sr', tg', dw']) ∧ lp (τ := Int32 → (Nat → Int32) → (Nat → Int32) → (Nat → Int32) → (Nat → Nat → Int32) → Int32 → (Nat → Int32) → Int32 → (Nat → Int32) → (Nat → Int32) → Int32 → Option (Int32 × (Nat → Int32) × (Nat → (Nat → Int32)) × (Nat → (Nat → Nat → Int32)))) (fun _ _ _ _ _ _ _ _ _ _ _ => none) (f_X12_explore_L74 fu ob st il rm0 lab len ltb sl sd2 src tgt) fm (nI o) fl ln nl nt on sn2 sn tn word ws = f_X12_explore_J99 fu fl il lab len ltb ln' nl' nt' on' sn2' sn' tn' ob src st tgt word' ws' ∧ DrR n' m' S' T' L' W' od' sd' ld' sr' tg' dw' on' sn' ln' sn2' tn' nl' nt') ∨
      (∃ (V1 : Nat → Int32) (V2 : Nat → Nat → Int32) (a1 a2 a3 : Int32) (b0 b1 b2 b3 b4 b5 : Nat → Int32) (c1 : Nat → Nat → Int32), lp (τ := Int32 → (Nat → Int32) → Int32 → (Nat → Int32) → Int32 → (Nat → Int32) → (Nat → Int32) → Option (Int32 × (Nat → Int32) × (Nat → (Nat → Int32)))) (fun _ _ _ _ _ _ _ => none) (f_X0_run_L18 fu rx fO fR fL lf rg) fx (nI o) ld od sr sd tg dw = some (0, V1, V2) ∧ lp (τ := Int32 → (Nat → Int32) → (Nat → Int32) → (Nat → Int32) → (Nat → Nat → Int32) → Int32 → (Nat → Int32) → Int32 → (Nat → Int32) → (Nat → Int32) → Int32 → Option (Int32 × (Nat → Int32) × (Nat → (Nat → Int32)) × (Nat → (Nat → Nat → Int32)))) (fun _ _ _ _ _ _ _ _ _ _ _ => none) (f_X12_explore_L74 fu ob st il rm0 lab len ltb sl sd2 src tgt) fm (nI o) fl ln nl nt on sn2 sn tn word ws = some (-6, vv (0 : Int32) [il, a1, a2, ob, st, a3], vv (fun _ => (0 : Int32)) [b0, lab, len, b1, b2, b3, b4, src, tgt, b5], vv (fun _ _ => (0 : Int32)) [ltb, c1]) ∧ FaR (V1 3) (V1 4) (V1 2) b0) := by
    intro fx fm o n m S T L W od sd ld sr tg dw on sn ln sn2 tn nl nt word ws ho hno hfx hfm hD
    obtain ⟨fx, rfl⟩ : ∃ q, fx = q + 1 := ⟨fx - 1, by omega⟩
    obtain ⟨fm, rfl⟩ : ∃ q, fm = q + 1 := ⟨fm - 1, by omega⟩
    left
    refine ⟨ld, od, sr, sd, tg, dw, ln, nl, nt, on, sn2, sn, tn, word, ws, n, m, S, T, L, W, ?_, ?_, hD⟩
    · show f_X0_run_L18 fu rx fO fR fL lf rg (lp _ _ fx) (nI o) ld od sr sd tg dw = _
      unfold f_X0_run_L18
      have h1 := hD.2.1.1
      subst h1
      by_cases h16 : 16 ≤ o
      · rw [if_pos (show (16 : Int32) ≤ nI o from nI_le (a := 16) h16 (by omega))]
      · rw [if_neg (show ¬ (16 : Int32) ≤ nI o from nI_ge (b := 16) (by omega) (by omega)), if_pos (nI_le hno (by omega))]
    · show f_X12_explore_L74 fu ob st il rm0 lab len ltb sl sd2 src tgt (lp _ _ fm) (nI o) fl ln nl nt on sn2 sn tn word ws = _
      unfold f_X12_explore_L74
      have h1 := hD.2.2.1.1
      subst h1
      rw [if_pos (nI_le hno (by omega))]
  intro k
  induction k with
  | zero =>
    intro fx fm o n m S T L W od sd ld sr tg dw on sn ln sn2 tn nl nt word ws hk hfx hfm hD
    have := hD.1.1
    exact hend fx fm o n m S T L W od sd ld sr tg dw on sn ln sn2 tn nl nt word ws (by omega) (by omega) hfx hfm hD
  | succ k ih =>
    intro fx fm o n m S T L W od sd ld sr tg dw on sn ln sn2 tn nl nt word ws hk hfx hfm hD
    by_cases hno : n ≤ o
    · exact hend fx fm o n m S T L W od sd ld sr tg dw on sn ln sn2 tn nl nt word ws (by omega) hno (by omega) (by omega) hD
    clear hend
    obtain ⟨fx, rfl⟩ : ∃ q, fx = q + 1 := ⟨fx - 1, by omega⟩
    obtain ⟨fm, rfl⟩ : ∃ q, fm = q + 1 := ⟨fm - 1, by omega⟩
    have hn := hD.1.1
    have hc6 := hr.1
    have hX : ∀ (rc : Int32 → (Nat → Int32) → Int32 → (Nat → Int32) → Int32 → (Nat → Int32) → (Nat → Int32) → Option (Int32 × (Nat → Int32) × (Nat → (Nat → Int32)))), f_X0_run_L18 fu rx fO fR fL lf rg rc (nI o) ld od sr sd tg dw = lp (τ := Int32 → (Nat → Int32) → Int32 → (Nat → Int32) → Int32 → (Nat → Int32) → (Nat → Int32) → Option (Int32 × (Nat → Int32) × (Nat → (Nat → Int32)))) (fun _ _ _ _ _ _ _ => none) (f_X0_run_L38 fu rx fO fR fL lf rg (nI o) rc) fu (nI 0) ld od sr sd tg dw := by
      intro rc
      unfold f_X0_run_L18
      have h1 := hD.2.1.1
      subst h1
      rw [if_neg (show ¬ (16 : Int32) ≤ nI o from nI_ge (b := 16) (by omega) (by omega)), if_neg (nI_ge (a := o) (by omega) (by omega))]
      rfl
    have hM : ∀ (rc : Int32 → (Nat → Int32) → (Nat → Int32) → (Nat → Int32) → (Nat → Nat → Int32) → Int32 → (Nat → Int32) → Int32 → (Nat → Int32) → (Nat → Int32) → Int32 → Option (Int32 × (Nat → Int32) × (Nat → (Nat → Int32)) × (Nat → (Nat → Nat → Int32)))), f_X12_explore_L74 fu ob st il rm0 lab len ltb sl sd2 src tgt rc (nI o) fl ln nl nt on sn2 sn tn word ws = (lp (τ := Int32 → (Nat → Int32) → (Nat → Int32) → (Nat → Nat → Int32) → Int32 → (Nat → Int32) → Int32 → (Nat → Int32) → (Nat → Int32) → Int32 → Option (Int32 × (Nat → Int32) × (Nat → (Nat → Int32)) × (Nat → (Nat → Nat → Int32)))) (fun _ _ _ _ _ _ _ _ _ _ => none) (f_X12_expand_L2 fu rm0 fl sl sd2 (nI o)) fu (nI 0) ln nl nt on sn2 sn tn word ws).bind (fun r_84 => if ¬ r_84.1 = 0 then rc (nI (o + 1)) (r_84.2.2.1 0) (r_84.2.2.1 1) (r_84.2.2.1 2) (r_84.2.2.2 0) (r_84.2.1 0) (r_84.2.2.1 3) (r_84.2.1 1) (r_84.2.2.1 4) (r_84.2.2.1 5) (r_84.2.1 2) else (some ((-6), vv (0 : Int32) [il, (r_84.2.1 0), (r_84.2.1 1), ob, st, (r_84.2.1 2)], vv (fun _ => (0 : Int32)) [(r_84.2.2.1 0), lab, len, (r_84.2.2.1 1), (r_84.2.2.1 2), (r_84.2.2.1 3), (r_84.2.2.1 4), src, tgt, (r_84.2.2.1 5)], vv (fun _ _ => (0 : Int32)) [ltb, (r_84.2.2.2 0)]))) := by
      intro rc
      unfold f_X12_explore_L74 f_X12_expand
      have h1 := hD.2.2.1.1
      subst h1
      rw [if_neg (nI_ge (a := o) (by omega) (by omega))]
      simp only [lt, nI_1]
      rfl
    have IH := ih fx fm (o + 1)
    show (∃ (ld' : Nat → Int32) (od' : Int32) (sr' : Nat → Int32) (sd' : Int32) (tg' dw' : Nat → Int32) (ln' nl' : Nat → Int32) (nt' : Nat → Nat → Int32) (on' : Int32) (sn2' : Nat → Int32) (sn' : Int32) (tn' word' : Nat → Int32) (ws' : Int32) (n' m' : Nat) (S' T' L' : Nat → Nat) (W' : Nat → List Nat), f_X0_run_L18 fu rx fO fR fL lf rg (lp (τ := Int32 → (Nat → Int32) → Int32 → (Nat → Int32) → Int32 → (Nat → Int32) → (Nat → Int32) → Option (Int32 × (Nat → Int32) × (Nat → (Nat → Int32)))) (fun _ _ _ _ _ _ _ => none) (f_X0_run_L18 fu rx fO fR fL lf rg) fx) (nI o) ld od sr sd tg dw = some (1, vv (0 : Int32) [od', sd', fL, fO, fR], vv (fun _ => (0 : Int32)) [ld', sr', tg', dw']) ∧ f_X12_explore_L74 fu ob st il rm0 lab len ltb sl sd2 src tgt (lp (τ := Int32 → (Nat → Int32) → (Nat → Int32) → (Nat → Int32) → (Nat → Nat → Int32) → Int32 → (Nat → Int32) → Int32 → (Nat → Int32) → (Nat → Int32) → Int32 → Option (Int32 × (Nat → Int32) × (Nat → (Nat → Int32)) × (Nat → (Nat → Nat → Int32)))) (fun _ _ _ _ _ _ _ _ _ _ _ => none) (f_X12_explore_L74 fu ob st il rm0 lab len ltb sl sd2 src tgt) fm) (nI o) fl ln nl nt on sn2 sn tn word ws = f_X12_explore_J99 fu fl il lab len ltb ln' nl' nt' on' sn2' sn' tn' ob src st tgt word' ws' ∧ DrR n' m' S' T' L' W' od' sd' ld' sr' tg' dw' on' sn' ln' sn2' tn' nl' nt') ∨
      (∃ (V1 : Nat → Int32) (V2 : Nat → Nat → Int32) (a1 a2 a3 : Int32) (b0 b1 b2 b3 b4 b5 : Nat → Int32) (c1 : Nat → Nat → Int32), f_X0_run_L18 fu rx fO fR fL lf rg (lp (τ := Int32 → (Nat → Int32) → Int32 → (Nat → Int32) → Int32 → (Nat → Int32) → (Nat → Int32) → Option (Int32 × (Nat → Int32) × (Nat → (Nat → Int32)))) (fun _ _ _ _ _ _ _ => none) (f_X0_run_L18 fu rx fO fR fL lf rg) fx) (nI o) ld od sr sd tg dw = some (0, V1, V2) ∧ f_X12_explore_L74 fu ob st il rm0 lab len ltb sl sd2 src tgt (lp (τ := Int32 → (Nat → Int32) → (Nat → Int32) → (Nat → Int32) → (Nat → Nat → Int32) → Int32 → (Nat → Int32) → Int32 → (Nat → Int32) → (Nat → Int32) → Int32 → Option (Int32 × (Nat → Int32) × (Nat → (Nat → Int32)) × (Nat → (Nat → Nat → Int32)))) (fun _ _ _ _ _ _ _ _ _ _ _ => none) (f_X12_explore_L74 fu ob st il rm0 lab len ltb sl sd2 src tgt) fm) (nI o) fl ln nl nt on sn2 sn tn word ws = some (-6, vv (0 : Int32) [il, a1, a2, ob, st, a3], vv (fun _ => (0 : Int32)) [b0, lab, len, b1, b2, b3, b4, src, tgt, b5], vv (fun _ _ => (0 : Int32)) [ltb, c1]) ∧ FaR (V1 3) (V1 4) (V1 2) b0)
    generalize lp (τ := Int32 → (Nat → Int32) → Int32 → (Nat → Int32) → Int32 → (Nat → Int32) → (Nat → Int32) → Option (Int32 × (Nat → Int32) × (Nat → (Nat → Int32)))) (fun _ _ _ _ _ _ _ => none) (f_X0_run_L18 fu rx fO fR fL lf rg) fx = rx1 at IH ⊢
    generalize lp (τ := Int32 → (Nat → Int32) → (Nat → Int32) → (Nat → Int32) → (Nat → Nat → Int32) → Int32 → (Nat → Int32) → Int32 → (Nat → Int32) → (Nat → Int32) → Int32 → Option (Int32 × (Nat → Int32) × (Nat → (Nat → Int32)) × (Nat → (Nat → Nat → Int32)))) (fun _ _ _ _ _ _ _ _ _ _ _ => none) (f_X12_explore_L74 fu ob st il rm0 lab len ltb sl sd2 src tgt) fm = rm1 at IH ⊢
    rw [hX rx1, hM rm1]
    rcases ex_rule fu hfu hr hrx hrm fO fR fL (fl := fl) (o := o) rx1 c fu fu 0 n m S T L W od sd ld sr tg dw on sn ln sn2 tn nl nt word ws (by omega) (by omega) (by omega) hD (by omega) with ⟨ld', od', sr', sd', tg', dw', Z1, Z2, Z3, n', m', S', T', L', W', e1, e2, e3, e4, e5⟩ | ⟨V1, V2, Z1, Z2, Z3, rr, l, e1, v3, v4, v2, e2, z0, z1, z2⟩
    · rw [e1, e2]
      simp only [Option.bind_some]
      rw [if_pos (by decide), e4]
      exact IH n' m' S' T' L' W' od' sd' ld' sr' tg' dw' (Z1 0) (Z1 1) (Z2 1) (Z2 3) (Z2 4) (Z2 2) (Z3 0) (Z2 5) (Z1 2) (by omega) (by omega) (by omega) e3
    · rw [e1, e2]
      simp only [Option.bind_some]
      rw [if_neg (by decide)]
      exact Or.inr ⟨_, _, _, _, _, _, _, _, _, _, _, _, rfl, rfl, v3.trans z0.symm, v4.trans z1.symm, v2.trans z2.symm⟩
