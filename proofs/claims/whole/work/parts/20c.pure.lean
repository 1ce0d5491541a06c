theorem last_lt {a b i : Nat} (ha : a < 100) (hb : b < 100) (hi : i < 100) : nI a - nI b < nI i ↔ ¬ i + b ≤ a := by
  rw [Int32.lt_iff_toInt_lt, pk_sub_toInt (by omega) (by omega), nI_toInt (by omega)]
  omega
theorem ex_pos (fu : Nat) (hfu : 32 < fu) {w u v : List Nat} (hw : Wd w) (hwl : w.length ≤ 8) (hu : Wd u) (hu1 : 1 ≤ u.length) (hul : u.length ≤ 4) (hv : Wd v) (hvl : v.length ≤ 4) {o r : Nat} (hr : r < 6) {sl fl : Nat → Int32} {sd2 : Nat → Nat → Int32} (hM1 : wdM u (sl (2 * r)) (sd2 (2 * r))) (hM2 : wdM v (sl (2 * r + 1)) (sd2 (2 * r + 1))) (rec2 : Int32 → (Nat → Int32) → (Nat → Int32) → (Nat → Nat → Int32) → Int32 → (Nat → Int32) → Int32 → (Nat → Int32) → (Nat → Int32) → Int32 → Option (Int32 × (Nat → Int32) × (Nat → Nat → Int32) × (Nat → Nat → Nat → Int32))) :
    ∀ (k fx fm i : Nat) (n m : Nat) (S T L : Nat → Nat) (W : Nat → List Nat) (od sd : Int32) (ld sr tg dw : Nat → Int32) (on sn : Int32) (ln sn2 tn nl : Nat → Int32) (nt : Nat → Nat → Int32) (word : Nat → Int32) (ws : Int32), i + k = w.length + 1 - u.length → k < fx → k < fm → DrR n m S T L W od sd ld sr tg dw on sn ln sn2 tn nl nt → o < n → W o = w →
      ∃ (a : Int32) (V1 : Nat → Int32) (V2 : Nat → Nat → Int32), lp (τ := Int32 → (Nat → Int32) → Int32 → (Nat → Int32) → Int32 → (Nat → Int32) → (Nat → Int32) → Option (Int32 × (Nat → Int32) × (Nat → (Nat → Int32)))) (fun _ _ _ _ _ _ _ => none) (f_X0_applyEverywhere_L26 fu (nI o) (nI r) (nI (enc u)) (nI (enc v)) (nI (enc w)) (nI w.length - nI u.length)) fx (nI i) ld od sr sd tg dw = some (a, V1, V2) ∧
        ((a = -2 ∧ ∃ (ln' nl' : Nat → Int32) (nt' : Nat → Nat → Int32) (on' : Int32) (sn2' : Nat → Int32) (sn' : Int32) (tn' word' : Nat → Int32) (ws' : Int32) (n' m' : Nat) (S' T' L' : Nat → Nat) (W' : Nat → List Nat), lp (τ := Int32 → (Nat → Int32) → (Nat → Int32) → (Nat → Nat → Int32) → Int32 → (Nat → Int32) → Int32 → (Nat → Int32) → (Nat → Int32) → Int32 → Option (Int32 × (Nat → Int32) × (Nat → (Nat → Int32)) × (Nat → (Nat → Nat → Int32)))) (fun _ _ _ _ _ _ _ _ _ _ => none) (f_X12_expand_L12 fu fl sl sd2 (nI o) (nI r) rec2) fm (nI i) ln nl nt on sn2 sn tn word ws = rec2 (nI (r + 1)) ln' nl' nt' on' sn2' sn' tn' word' ws' ∧ DrR n' m' S' T' L' W' (V1 0) (V1 1) (V2 0) (V2 1) (V2 2) (V2 3) on' sn' ln' sn2' tn' nl' nt' ∧ n ≤ n' ∧ ∀ i, i < n → W' i = W i) ∨
         (∃ l, l < 3 ∧ a = nI l ∧ ∃ (Z1 : Nat → Int32) (Z2 : Nat → Nat → Int32) (Z3 : Nat → Nat → Nat → Int32), lp (τ := Int32 → (Nat → Int32) → (Nat → Int32) → (Nat → Nat → Int32) → Int32 → (Nat → Int32) → Int32 → (Nat → Int32) → (Nat → Int32) → Int32 → Option (Int32 × (Nat → Int32) × (Nat → (Nat → Int32)) × (Nat → (Nat → Nat → Int32)))) (fun _ _ _ _ _ _ _ _ _ _ => none) (f_X12_expand_L12 fu fl sl sd2 (nI o) (nI r) rec2) fm (nI i) ln nl nt on sn2 sn tn word ws = some (0, Z1, Z2, Z3) ∧ Z2 0 0 = nI o ∧ Z2 0 1 = nI r ∧ Z2 0 2 = nI l)) := by
  intro k
  induction k with
  | zero =>
    intro fx fm i n m S T L W od sd ld sr tg dw on sn ln sn2 tn nl nt word ws hi hfx hfm hD ho hWo
    obtain ⟨fx, rfl⟩ : ∃ q, fx = q + 1 := ⟨fx - 1, by omega⟩
    obtain ⟨fm, rfl⟩ : ∃ q, fm = q + 1 := ⟨fm - 1, by omega⟩
    have hn := hD.1.1
    obtain ⟨_, _, _, g4, _⟩ := hD.2.2.2 o ho
    rw [hWo] at g4
    show ∃ (a : Int32) (V1 : Nat → Int32) (V2 : Nat → Nat → Int32), f_X0_applyEverywhere_L26 fu (nI o) (nI r) (nI (enc u)) (nI (enc v)) (nI (enc w)) (nI w.length - nI u.length) (lp _ _ fx) (nI i) ld od sr sd tg dw = _ ∧ _
    unfold f_X0_applyEverywhere_L26
    rw [if_pos ((last_lt (by omega) (by omega) (by omega)).mpr (by omega))]
    refine ⟨_, _, _, rfl, Or.inl ⟨rfl, ln, nl, nt, on, sn2, sn, tn, word, ws, n, m, S, T, L, W, ?_, hD, Nat.le_refl n, fun _ _ => rfl⟩⟩
    show f_X12_expand_L12 fu fl sl sd2 (nI o) (nI r) rec2 (lp _ _ fm) (nI i) ln nl nt on sn2 sn tn word ws = _
    unfold f_X12_expand_L12 f_X12_expand_J91
    simp (disch := omega) only [k2m, ck_nI, nI_clamp, hM1.1, g4, nI_add, nI_ltI, lt, nI_1]
    rw [if_pos (by omega)]
  | succ k ih =>
    intro fx fm i n m S T L W od sd ld sr tg dw on sn ln sn2 tn nl nt word ws hi hfx hfm hD ho hWo
    obtain ⟨fx, rfl⟩ : ∃ q, fx = q + 1 := ⟨fx - 1, by omega⟩
    obtain ⟨fm, rfl⟩ : ∃ q, fm = q + 1 := ⟨fm - 1, by omega⟩
    have hn := hD.1.1
    have hDW := hD.2.2.2
    obtain ⟨_, _, _, g4, _⟩ := hDW o ho
    rw [hWo] at g4
    have IH := ih fx fm
    show ∃ (a : Int32) (V1 : Nat → Int32) (V2 : Nat → Nat → Int32), f_X0_applyEverywhere_L26 fu (nI o) (nI r) (nI (enc u)) (nI (enc v)) (nI (enc w)) (nI w.length - nI u.length) (lp (τ := Int32 → (Nat → Int32) → Int32 → (Nat → Int32) → Int32 → (Nat → Int32) → (Nat → Int32) → Option (Int32 × (Nat → Int32) × (Nat → (Nat → Int32)))) (fun _ _ _ _ _ _ _ => none) (f_X0_applyEverywhere_L26 fu (nI o) (nI r) (nI (enc u)) (nI (enc v)) (nI (enc w)) (nI w.length - nI u.length)) fx) (nI i) ld od sr sd tg dw = some (a, V1, V2) ∧
        ((a = -2 ∧ ∃ (ln' nl' : Nat → Int32) (nt' : Nat → Nat → Int32) (on' : Int32) (sn2' : Nat → Int32) (sn' : Int32) (tn' word' : Nat → Int32) (ws' : Int32) (n' m' : Nat) (S' T' L' : Nat → Nat) (W' : Nat → List Nat), f_X12_expand_L12 fu fl sl sd2 (nI o) (nI r) rec2 (lp (τ := Int32 → (Nat → Int32) → (Nat → Int32) → (Nat → Nat → Int32) → Int32 → (Nat → Int32) → Int32 → (Nat → Int32) → (Nat → Int32) → Int32 → Option (Int32 × (Nat → Int32) × (Nat → (Nat → Int32)) × (Nat → (Nat → Nat → Int32)))) (fun _ _ _ _ _ _ _ _ _ _ => none) (f_X12_expand_L12 fu fl sl sd2 (nI o) (nI r) rec2) fm) (nI i) ln nl nt on sn2 sn tn word ws = rec2 (nI (r + 1)) ln' nl' nt' on' sn2' sn' tn' word' ws' ∧ DrR n' m' S' T' L' W' (V1 0) (V1 1) (V2 0) (V2 1) (V2 2) (V2 3) on' sn' ln' sn2' tn' nl' nt' ∧ n ≤ n' ∧ ∀ i, i < n → W' i = W i) ∨
         (∃ l, l < 3 ∧ a = nI l ∧ ∃ (Z1 : Nat → Int32) (Z2 : Nat → Nat → Int32) (Z3 : Nat → Nat → Nat → Int32), f_X12_expand_L12 fu fl sl sd2 (nI o) (nI r) rec2 (lp (τ := Int32 → (Nat → Int32) → (Nat → Int32) → (Nat → Nat → Int32) → Int32 → (Nat → Int32) → Int32 → (Nat → Int32) → (Nat → Int32) → Int32 → Option (Int32 × (Nat → Int32) × (Nat → (Nat → Int32)) × (Nat → (Nat → Nat → Int32)))) (fun _ _ _ _ _ _ _ _ _ _ => none) (f_X12_expand_L12 fu fl sl sd2 (nI o) (nI r) rec2) fm) (nI i) ln nl nt on sn2 sn tn word ws = some (0, Z1, Z2, Z3) ∧ Z2 0 0 = nI o ∧ Z2 0 1 = nI r ∧ Z2 0 2 = nI l))
    generalize lp (τ := Int32 → (Nat → Int32) → Int32 → (Nat → Int32) → Int32 → (Nat → Int32) → (Nat → Int32) → Option (Int32 × (Nat → Int32) × (Nat → (Nat → Int32)))) (fun _ _ _ _ _ _ _ => none) (f_X0_applyEverywhere_L26 fu (nI o) (nI r) (nI (enc u)) (nI (enc v)) (nI (enc w)) (nI w.length - nI u.length)) fx = rx at IH ⊢
    generalize lp (τ := Int32 → (Nat → Int32) → (Nat → Int32) → (Nat → Nat → Int32) → Int32 → (Nat → Int32) → Int32 → (Nat → Int32) → (Nat → Int32) → Int32 → Option (Int32 × (Nat → Int32) × (Nat → (Nat → Int32)) × (Nat → (Nat → Nat → Int32)))) (fun _ _ _ _ _ _ _ _ _ _ => none) (f_X12_expand_L12 fu fl sl sd2 (nI o) (nI r) rec2) fm = rm at IH ⊢
    unfold f_X0_applyEverywhere_L26 f_X12_expand_L12 f_X0_applyEverywhere_J72 f_X12_expand_J91 f_X12_expand_J85
    have hle : i + u.length ≤ w.length := by omega
    rw [if_neg (fun hh => (last_lt (by omega) (by omega) (by omega)).mp hh hle), x_occurs fu hfu hu (by omega) hw (by omega) (show i ≤ 15 by omega)]
    simp (disch := omega) only [k2m, ck_nI, nI_clamp, hM1.1, g4, nI_add, nI_ltI, lt, nI_1, Option.bind_some, bI_if]
    rw [if_neg (show ¬ w.length < i + u.length by omega), m_occurs fu hfu hn hDW hu hul hr hM1 ho (by rw [hWo]; exact hle), hWo]
    simp only [Option.bind_some, bI_if, decide_eq_true_iff]
    by_cases hoc : (w.drop i).take u.length = u
    · rw [if_pos hoc, if_pos hoc, x_replace fu hfu hw hwl hu hul hv hvl hle]
      obtain ⟨word', e1, e2⟩ := m_rewrite fu hfu hn hDW hul hvl hr hM1 hM2 ho (by rw [hWo]; exact hle) word
      rw [hWo] at e1 e2
      rw [e1]
      simp only [Option.bind_some]
      have hwd : Wd (w.take i ++ (v ++ w.drop (i + u.length))) := Wd_app.mpr ⟨Wd_take hw i, Wd_app.mpr ⟨hv, Wd_drop hw _⟩⟩
      have hwdl : (w.take i ++ (v ++ w.drop (i + u.length))).length ≤ 15 := by
        rw [List.length_append, List.length_append, List.length_take, List.length_drop]
        omega
      obtain ⟨a, b, V1, V2, W1, W2, W3, c1, c2, c3⟩ := s_conn fu hfu hD ho hr hwd hwdl e2
      rw [c1, c2]
      simp only [Option.bind_some]
      rcases c3 with ⟨rfl, rfl, n', m', S', T', L', W', d1, d2, d3⟩ | ⟨l, l1, rfl, rfl⟩
      · rw [if_pos rfl, if_pos (by decide)]
        obtain ⟨a2, X1, X2, f1, f2⟩ := IH (i + 1) n' m' S' T' L' W' (V1 0) (V1 1) (V2 0) (V2 1) (V2 2) (V2 3) (W1 0) (W1 1) (W2 0) (W2 2) (W2 3) (W2 1) (W3 0) word' (nI (w.take i ++ (v ++ w.drop (i + u.length))).length) (by omega) (by omega) (by omega) d1 (by omega) (by rw [d3 o ho]; exact hWo)
        refine ⟨a2, X1, X2, f1, ?_⟩
        rcases f2 with ⟨q1, p1, p2, p3, p4, p5, p6, p7, p8, p9, p10, p11, p12, p13, p14, p15, q2, q3, q4, q5⟩ | q
        · exact Or.inl ⟨q1, p1, p2, p3, p4, p5, p6, p7, p8, p9, p10, p11, p12, p13, p14, p15, q2, q3, by omega, fun j hj => by rw [q5 j (by omega), d3 j hj]⟩
        · exact Or.inr q
      · have hne : ¬ nI l = -2 := nI_ne2 (by omega)
        rw [if_neg hne, if_neg (nI_pos (by omega))]
        refine ⟨_, _, _, rfl, Or.inr ⟨l, l1, rfl, ?_⟩⟩
        unfold f_X12_expand_J61
        exact ⟨_, _, _, rfl, rfl, rfl, rfl⟩
    · rw [if_neg hoc, if_neg hoc]
      exact IH (i + 1) n m S T L W od sd ld sr tg dw on sn ln sn2 tn nl nt word ws (by omega) (by omega) (by omega) hD ho hWo
