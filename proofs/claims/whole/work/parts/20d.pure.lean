theorem ex_rule (fu : Nat) (hfu : 32 < fu) {c : Nat} {RL RR : Nat → List Nat} {lf rg sl fl : Nat → Int32} {sd2 : Nat → Nat → Int32} {rx rm0 : Int32} (hr : RuP c RL RR) (hrx : RuX c RL RR rx lf rg) (hrm : RuM c RL RR rm0 sl sd2) (fO fR fL : Int32) {o : Nat} (rec18 : Int32 → (Nat → Int32) → Int32 → (Nat → Int32) → Int32 → (Nat → Int32) → (Nat → Int32) → Option (Int32 × (Nat → Int32) × (Nat → (Nat → Int32)))) :
    ∀ (k fx fm r : Nat) (n m : Nat) (S T L : Nat → Nat) (W : Nat → List Nat) (od sd : Int32) (ld sr tg dw : Nat → Int32) (on sn : Int32) (ln sn2 tn nl : Nat → Int32) (nt : Nat → Nat → Int32) (word : Nat → Int32) (ws : Int32), r + k = c → k < fx → k < fm → DrR n m S T L W od sd ld sr tg dw on sn ln sn2 tn nl nt → o < n →
      (∃ (ld' : Nat → Int32) (od' : Int32) (sr' : Nat → Int32) (sd' : Int32) (tg' dw' : Nat → Int32) (Z1 : Nat → Int32) (Z2 : Nat → Nat → Int32) (Z3 : Nat → Nat → Nat → Int32) (n' m' : Nat) (S' T' L' : Nat → Nat) (W' : Nat → List Nat), lp (τ := Int32 → (Nat → Int32) → Int32 → (Nat → Int32) → Int32 → (Nat → Int32) → (Nat → Int32) → Option (Int32 × (Nat → Int32) × (Nat → (Nat → Int32)))) (fun _ _ _ _ _ _ _ => none) (f_X0_run_L38 fu rx fO fR fL lf rg (nI o) rec18) fx (nI r) ld od sr sd tg dw = rec18 (nI (o + 1)) ld' od' sr' sd' tg' dw' ∧ lp (τ := Int32 → (Nat → Int32) → (Nat → Int32) → (Nat → Nat → Int32) → Int32 → (Nat → Int32) → Int32 → (Nat → Int32) → (Nat → Int32) → Int32 → Option (Int32 × (Nat → Int32) × (Nat → (Nat → Int32)) × (Nat → (Nat → Nat → Int32)))) (fun _ _ _ _ _ _ _ _ _ _ => none) (f_X12_expand_L2 fu rm0 fl sl sd2 (nI o)) fm (nI r) ln nl nt on sn2 sn tn word ws = some (1, Z1, Z2, Z3) ∧ DrR n' m' S' T' L' W' od' sd' ld' sr' tg' dw' (Z1 0) (Z1 1) (Z2 1) (Z2 3) (Z2 4) (Z2 2) (Z3 0) ∧ Z2 0 = fl ∧ n ≤ n') ∨
      (∃ (V1 : Nat → Int32) (V2 : Nat → Nat → Int32) (Z1 : Nat → Int32) (Z2 : Nat → Nat → Int32) (Z3 : Nat → Nat → Nat → Int32) (rr l : Nat), lp (τ := Int32 → (Nat → Int32) → Int32 → (Nat → Int32) → Int32 → (Nat → Int32) → (Nat → Int32) → Option (Int32 × (Nat → Int32) × (Nat → (Nat → Int32)))) (fun _ _ _ _ _ _ _ => none) (f_X0_run_L38 fu rx fO fR fL lf rg (nI o) rec18) fx (nI r) ld od sr sd tg dw = some (0, V1, V2) ∧ V1 3 = nI o ∧ V1 4 = nI rr ∧ V1 2 = nI l ∧ lp (τ := Int32 → (Nat → Int32) → (Nat → Int32) → (Nat → Nat → Int32) → Int32 → (Nat → Int32) → Int32 → (Nat → Int32) → (Nat → Int32) → Int32 → Option (Int32 × (Nat → Int32) × (Nat → (Nat → Int32)) × (Nat → (Nat → Nat → Int32)))) (fun _ _ _ _ _ _ _ _ _ _ => none) (f_X12_expand_L2 fu rm0 fl sl sd2 (nI o)) fm (nI r) ln nl nt on sn2 sn tn word ws = some (0, Z1, Z2, Z3) ∧ Z2 0 0 = nI o ∧ Z2 0 1 = nI rr ∧ Z2 0 2 = nI l) := by
  have hc6 := hr.1
  have a1 := hrx.1
  have a2 := hrm.1
  subst a1 a2
  intro k
  induction k with
  | zero =>
    intro fx fm r n m S T L W od sd ld sr tg dw on sn ln sn2 tn nl nt word ws hk hfx hfm hD ho
    obtain ⟨fx, rfl⟩ : ∃ q, fx = q + 1 := ⟨fx - 1, by omega⟩
    obtain ⟨fm, rfl⟩ : ∃ q, fm = q + 1 := ⟨fm - 1, by omega⟩
    have hrc : r = c := by omega
    subst hrc
    left
    refine ⟨ld, od, sr, sd, tg, dw, vv (0 : Int32) [on, sn, ws], vv (fun _ => (0 : Int32)) [fl, ln, nl, sn2, tn, word], vv (fun _ _ => (0 : Int32)) [nt], n, m, S, T, L, W, ?_, ?_, hD, rfl, Nat.le_refl n⟩
    · show f_X0_run_L38 fu (nI r) fO fR fL lf rg (nI o) rec18 (lp _ _ fx) (nI r) ld od sr sd tg dw = _
      unfold f_X0_run_L38 f_X0_run_J102
      rw [if_pos (nI_le (Nat.le_refl r) (by omega))]
      simp only [lt, nI_1]
    · show f_X12_expand_L2 fu (nI r) fl sl sd2 (nI o) (lp _ _ fm) (nI r) ln nl nt on sn2 sn tn word ws = _
      unfold f_X12_expand_L2
      rw [if_pos (nI_le (Nat.le_refl r) (by omega))]
  | succ k ih =>
    intro fx fm r n m S T L W od sd ld sr tg dw on sn ln sn2 tn nl nt word ws hk hfx hfm hD ho
    obtain ⟨fx, rfl⟩ : ∃ q, fx = q + 1 := ⟨fx - 1, by omega⟩
    obtain ⟨fm, rfl⟩ : ∃ q, fm = q + 1 := ⟨fm - 1, by omega⟩
    have hn := hD.1.1
    obtain ⟨w1, w2, w3, w4⟩ := hD.2.2.2 o ho
    obtain ⟨u1, u2, u3, u4, u5⟩ := hr.2 r (by omega)
    obtain ⟨x1, x2⟩ := hrx.2 r (by omega)
    obtain ⟨y1, y2⟩ := hrm.2 r (by omega)
    -- the class's step of the loop
    have hX : ∀ (rc : Int32 → (Nat → Int32) → Int32 → (Nat → Int32) → Int32 → (Nat → Int32) → (Nat → Int32) → Option (Int32 × (Nat → Int32) × (Nat → (Nat → Int32)))), f_X0_run_L38 fu (nI c) fO fR fL lf rg (nI o) rec18 rc (nI r) ld od sr sd tg dw = (lp (τ := Int32 → (Nat → Int32) → Int32 → (Nat → Int32) → Int32 → (Nat → Int32) → (Nat → Int32) → Option (Int32 × (Nat → Int32) × (Nat → (Nat → Int32)))) (fun _ _ _ _ _ _ _ => none) (f_X0_applyEverywhere_L26 fu (nI o) (nI r) (nI (enc (RL r))) (nI (enc (RR r))) (nI (enc (W o))) (nI (W o).length - nI (RL r).length)) fu (nI 0) ld od sr sd tg dw).bind (fun r_65 => if r_65.1 = (-2) then rc (nI (r + 1)) (r_65.2.2 0) (r_65.2.1 0) (r_65.2.2 1) (r_65.2.1 1) (r_65.2.2 2) (r_65.2.2 3) else f_X0_run_J77 (nI o) (nI r) r_65.1 (r_65.2.2 0) (r_65.2.1 0) (r_65.2.2 1) (r_65.2.1 1) (r_65.2.2 2) (r_65.2.2 3) fL fO fR) := by
      intro rc
      unfold f_X0_run_L38
      rw [if_neg (nI_ge (a := r) (by omega) (by omega))]
      unfold f_X0_applyEverywhere
      simp (disch := omega) only [ck_nI, nI_clamp, lt, nI_1]
      rw [x1, x2, w3, x_lenOf fu hfu w1 (by omega)]
      simp only [Option.bind_some]
      rw [x_lenOf fu hfu u1 (by omega)]
      rfl
    have hMm : ∀ (rc : Int32 → (Nat → Int32) → (Nat → Int32) → (Nat → Nat → Int32) → Int32 → (Nat → Int32) → Int32 → (Nat → Int32) → (Nat → Int32) → Int32 → Option (Int32 × (Nat → Int32) × (Nat → (Nat → Int32)) × (Nat → (Nat → Nat → Int32)))), f_X12_expand_L2 fu (nI c) fl sl sd2 (nI o) rc (nI r) ln nl nt on sn2 sn tn word ws = lp (τ := Int32 → (Nat → Int32) → (Nat → Int32) → (Nat → Nat → Int32) → Int32 → (Nat → Int32) → Int32 → (Nat → Int32) → (Nat → Int32) → Int32 → Option (Int32 × (Nat → Int32) × (Nat → (Nat → Int32)) × (Nat → (Nat → Nat → Int32)))) (fun _ _ _ _ _ _ _ _ _ _ => none) (f_X12_expand_L12 fu fl sl sd2 (nI o) (nI r) rc) fu (nI 0) ln nl nt on sn2 sn tn word ws := by
      intro rc
      unfold f_X12_expand_L2
      rw [if_neg (nI_ge (a := r) (by omega) (by omega))]
      rfl
    have IH := ih fx fm (r + 1)
    show (∃ (ld' : Nat → Int32) (od' : Int32) (sr' : Nat → Int32) (sd' : Int32) (tg' dw' : Nat → Int32) (Z1 : Nat → Int32) (Z2 : Nat → Nat → Int32) (Z3 : Nat → Nat → Nat → Int32) (n' m' : Nat) (S' T' L' : Nat → Nat) (W' : Nat → List Nat), f_X0_run_L38 fu (nI c) fO fR fL lf rg (nI o) rec18 (lp (τ := Int32 → (Nat → Int32) → Int32 → (Nat → Int32) → Int32 → (Nat → Int32) → (Nat → Int32) → Option (Int32 × (Nat → Int32) × (Nat → (Nat → Int32)))) (fun _ _ _ _ _ _ _ => none) (f_X0_run_L38 fu (nI c) fO fR fL lf rg (nI o) rec18) fx) (nI r) ld od sr sd tg dw = rec18 (nI (o + 1)) ld' od' sr' sd' tg' dw' ∧ f_X12_expand_L2 fu (nI c) fl sl sd2 (nI o) (lp (τ := Int32 → (Nat → Int32) → (Nat → Int32) → (Nat → Nat → Int32) → Int32 → (Nat → Int32) → Int32 → (Nat → Int32) → (Nat → Int32) → Int32 → Option (Int32 × (Nat → Int32) × (Nat → (Nat → Int32)) × (Nat → (Nat → Nat → Int32)))) (fun _ _ _ _ _ _ _ _ _ _ => none) (f_X12_expand_L2 fu (nI c) fl sl sd2 (nI o)) fm) (nI r) ln nl nt on sn2 sn tn word ws = some (1, Z1, Z2, Z3) ∧ DrR n' m' S' T' L' W' od' sd' ld' sr' tg' dw' (Z1 0) (Z1 1) (Z2 1) (Z2 3) (Z2 4) (Z2 2) (Z3 0) ∧ Z2 0 = fl ∧ n ≤ n') ∨
      (∃ (V1 : Nat → Int32) (V2 : Nat → Nat → Int32) (Z1 : Nat → Int32) (Z2 : Nat → Nat → Int32) (Z3 : Nat → Nat → Nat → Int32) (rr l : Nat), f_X0_run_L38 fu (nI c) fO fR fL lf rg (nI o) rec18 (lp (τ := Int32 → (Nat → Int32) → Int32 → (Nat → Int32) → Int32 → (Nat → Int32) → (Nat → Int32) → Option (Int32 × (Nat → Int32) × (Nat → (Nat → Int32)))) (fun _ _ _ _ _ _ _ => none) (f_X0_run_L38 fu (nI c) fO fR fL lf rg (nI o) rec18) fx) (nI r) ld od sr sd tg dw = some (0, V1, V2) ∧ V1 3 = nI o ∧ V1 4 = nI rr ∧ V1 2 = nI l ∧ f_X12_expand_L2 fu (nI c) fl sl sd2 (nI o) (lp (τ := Int32 → (Nat → Int32) → (Nat → Int32) → (Nat → Nat → Int32) → Int32 → (Nat → Int32) → Int32 → (Nat → Int32) → (Nat → Int32) → Int32 → Option (Int32 × (Nat → Int32) × (Nat → (Nat → Int32)) × (Nat → (Nat → Nat → Int32)))) (fun _ _ _ _ _ _ _ _ _ _ => none) (f_X12_expand_L2 fu (nI c) fl sl sd2 (nI o)) fm) (nI r) ln nl nt on sn2 sn tn word ws = some (0, Z1, Z2, Z3) ∧ Z2 0 0 = nI o ∧ Z2 0 1 = nI rr ∧ Z2 0 2 = nI l)
    generalize lp (τ := Int32 → (Nat → Int32) → Int32 → (Nat → Int32) → Int32 → (Nat → Int32) → (Nat → Int32) → Option (Int32 × (Nat → Int32) × (Nat → (Nat → Int32)))) (fun _ _ _ _ _ _ _ => none) (f_X0_run_L38 fu (nI c) fO fR fL lf rg (nI o) rec18) fx = rx1 at IH ⊢
    generalize lp (τ := Int32 → (Nat → Int32) → (Nat → Int32) → (Nat → Nat → Int32) → Int32 → (Nat → Int32) → Int32 → (Nat → Int32) → (Nat → Int32) → Int32 → Option (Int32 × (Nat → Int32) × (Nat → (Nat → Int32)) × (Nat → (Nat → Nat → Int32)))) (fun _ _ _ _ _ _ _ _ _ _ => none) (f_X12_expand_L2 fu (nI c) fl sl sd2 (nI o)) fm = rm1 at IH ⊢
    rw [hX rx1, hMm rm1]
    obtain ⟨a, V1, V2, e1, e2⟩ := ex_pos fu hfu w1 w2 u1 u2 u3 u4 u5 (show r < 6 by omega) (fl := fl) y1 y2 rm1 ((W o).length + 1 - (RL r).length) fu fu 0 n m S T L W od sd ld sr tg dw on sn ln sn2 tn nl nt word ws (by omega) (by omega) (by omega) hD ho rfl
    rw [e1]
    simp only [Option.bind_some]
    rcases e2 with ⟨rfl, p1, p2, p3, p4, p5, p6, p7, p8, p9, n', m', S', T', L', W', q2, q3, q4, q5⟩ | ⟨l, l1, rfl, Z1, Z2, Z3, q1, q2, q3, q4⟩
    · rw [if_pos rfl, q2]
      rcases IH n' m' S' T' L' W' (V1 0) (V1 1) (V2 0) (V2 1) (V2 2) (V2 3) p4 p6 p1 p5 p7 p2 p3 p8 p9 (by omega) (by omega) (by omega) q3 (by omega) with ⟨b1, b2, b3, b4, b5, b6, b7, b8, b9, b10, b11, b12, b13, b14, b15, c1, c2, c3, c4, c5⟩ | hfail
      · exact Or.inl ⟨b1, b2, b3, b4, b5, b6, b7, b8, b9, b10, b11, b12, b13, b14, b15, c1, c2, c3, c4, by omega⟩
      · exact Or.inr hfail
    · rw [if_neg (nI_ne2 (show l < 2 ^ 31 by omega)), q1]
      exact Or.inr ⟨_, _, _, _, _, r, l, rfl, rfl, rfl, rfl, rfl, q2, q3, q4⟩
