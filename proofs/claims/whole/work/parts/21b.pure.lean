/-! ===== explore ===== -/
theorem m_fin (fu : Nat) (hfu : 32 < fu) {n m : Nat} {S T L : Nat → Nat} {W : Nat → List Nat} {dw : Nat → Int32} {on sn : Int32} {ln sn2 tn nl : Nat → Int32} {nt : Nat → Nat → Int32} (h1 : SyP n m S T L) (h3 : Sy n m S T L on sn ln sn2 tn) (h4 : DrW n W dw nl nt) (fl : Nat → Int32) (il : Int32) (lab len : Nat → Int32) (ltb : Nat → Nat → Int32) (ob : Int32) (src : Nat → Int32) (st : Int32) (tgt word : Nat → Int32) (ws : Int32) :
    ∃ (W1 : Nat → Int32) (W2 : Nat → Nat → Int32) (W3 : Nat → Nat → Nat → Int32), f_X12_explore_J99 fu fl il lab len ltb ln nl nt on sn2 sn tn ob src st tgt word ws = some (on, W1, W2, W3) ∧ W2 0 = fl ∧ W1 0 = il ∧ Sy n m S T L (W1 3) (W1 4) (W2 1) (W2 7) (W2 8) ∧ ∀ dw', (∀ i, i < 16 → dw' i = dw i) → WoR n dw' (W2 2) (W3 0) := by
  have hn := h1.1
  have hm := h1.2.1
  obtain ⟨r1, e1, d1⟩ := m_copyRow fu (N := 16) (by omega) (by decide) nl len
  obtain ⟨r2, e2, d2⟩ := m_copyRow fu (N := 32) (by omega) (by decide) sn2 src
  obtain ⟨r3, e3, d3⟩ := m_copyRow fu (N := 32) (by omega) (by decide) tn tgt
  obtain ⟨r4, e4, d4⟩ := m_copyRow fu (N := 32) (by omega) (by decide) ln lab
  have : tot (f_X12_explore_J99 fu fl il lab len ltb ln nl nt on sn2 sn tn ob src st tgt word ws) (fun q => q.1 = on ∧ q.2.2.1 0 = fl ∧ q.2.1 0 = il ∧ Sy n m S T L (q.2.1 3) (q.2.1 4) (q.2.2.1 1) (q.2.2.1 7) (q.2.2.1 8) ∧ ∀ dw', (∀ i, i < 16 → dw' i = dw i) → WoR n dw' (q.2.2.1 2) (q.2.2.2 0)) := by
    unfold f_X12_explore_J99
    have a1 := h3.1
    subst a1
    refine tot_lt (tot_lt ?_)
    show tot ((f_X12_copyRow fu nl len 16 16).bind _) _
    rw [e1]
    simp only [Option.bind_some]
    refine tot_lt (lw2 (fun k v o => ∃ i, v = nI i ∧ i + k = n ∧ ∀ a, a < i → ∀ j, j < 8 → o a j = nt a j) ?_ fu n _ _ (by omega) ⟨0, rfl, by omega, fun j h => absurd h (Nat.not_lt_zero j)⟩)
    rintro r k v o ⟨i, rfl, hi, ho⟩ ih
    unfold f_X12_explore_L128
    by_cases hin : i = n
    · subst hin
      rw [if_pos (nI_le (Nat.le_refl i) (by omega))]
      unfold f_X12_explore_J157
      show tot ((f_X12_copyRow fu sn2 src 32 32).bind _) _
      rw [e2]
      show tot ((f_X12_copyRow fu tn tgt 32 32).bind _) _
      rw [e3]
      show tot ((f_X12_copyRow fu ln lab 32 32).bind _) _
      rw [e4]
      refine tot_some ⟨rfl, rfl, rfl, Sy_cp hm h3 d4 d2 d3, fun dw' hdw j hj => Or.inr ⟨W j, (h4 j hj).1, (h4 j hj).2.1, (hdw j (by omega)).trans (h4 j hj).2.2.1, ?_, ?_⟩⟩
      · exact (d1 j (by omega)).trans (h4 j hj).2.2.2.1
      · intro x c hx
        have := (List.getElem?_eq_some_iff.mp hx).1
        have h8 := (h4 j hj).2.1
        exact (ho j hj x (by omega)).trans ((h4 j hj).2.2.2.2 x c hx)
    · rw [if_neg (nI_ge (a := i) (by omega) (by omega))]
      simp (disch := omega) only [ck_nI, nI_clamp, lt, nI_1]
      obtain ⟨row, f1, f2⟩ := m_copyRow fu (N := 8) (by omega) (by decide) (nt i) (o i)
      rw [f1]
      simp only [Option.bind_some]
      refine ih (k - 1) _ _ (by omega) ⟨i + 1, rfl, by omega, fun a ha j hj => ?_⟩
      rw [va_up_e]
      by_cases hai : a = i
      · rw [if_pos hai, hai]
        exact f2 j hj
      · rw [if_neg hai]
        exact ho a (by omega) j hj
  obtain ⟨⟨q, W1, W2, W3⟩, g1, g2, g3⟩ := this
  simp only at g2
  subst g2
  exact ⟨W1, W2, W3, g1, g3⟩
theorem s_explore (fu : Nat) (hfu : 32 < fu) {l : List Nat} {ix im : Int32} {bx bm : Nat → Int32} (hl : InP l) (h1 : TxX l ix bx) (h2 : TxX l im bm) {c : Nat} {RL RR : Nat → List Nat} {lf rg sl fl : Nat → Int32} {sd2 : Nat → Nat → Int32} {rx rm0 : Int32} (hr : RuP c RL RR) (hrx : RuX c RL RR rx lf rg) (hrm : RuM c RL RR rm0 sl sd2) {n m : Nat} {S T L : Nat → Nat} {ox sx om sm : Int32} {lx cx tx lm cm tm : Nat → Int32} (hp : SyP n m S T L) (hx : Sy n m S T L ox sx lx cx tx) (hm : Sy n m S T L om sm lm cm tm) {words lens : Nat → Int32} {lets : Nat → Nat → Int32} (hw : WoR n words lens lets) {fO fR fL : Int32} (hF : FaR fO fR fL fl) (dO dS : Int32) (dl dr dt dw : Nat → Int32) (nO nS ws : Int32) (nl nL nR nT : Nat → Int32) (nt : Nat → Nat → Int32) (word : Nat → Int32) :
    ∃ (r : Int32) (V1 : Nat → Int32) (V2 : Nat → Nat → Int32) (W1 : Nat → Int32) (W2 : Nat → Nat → Int32) (W3 : Nat → Nat → Nat → Int32) (n' m' : Nat) (S' T' L' : Nat → Nat), f_X11_explore fu fO fR fL dO dS ix rx ox sx dl dr dt dw bx lf rg lx cx tx words = some (r, V1, V2) ∧ f_X12_explore fu om sm im rm0 nO nS ws fl bm lm lens lets nL nl nt nR nT sl sd2 cm tm word = some (r, W1, W2, W3) ∧ TxX [] (V1 5) bx ∧ TxX [] (W1 0) bm ∧ FaR (V1 3) (V1 4) (V1 2) (W2 0) ∧ SyP n' m' S' T' L' ∧ Sy n' m' S' T' L' (V1 6) (V1 7) (V2 4) (V2 5) (V2 6) ∧ Sy n' m' S' T' L' (W1 3) (W1 4) (W2 1) (W2 7) (W2 8) ∧ WoR n' (V2 7) (W2 2) (W3 0) := by
  have a1 := h1.1
  have a2 := h2.1
  subst a1 a2
  have hl20 := hl.1
  unfold f_X11_explore f_X12_explore
  have w1 := x_wordAt fu hfu hl h1 (f := 0) (q := 8) (by decide) (by decide)
  rw [show f_X1_wordAt fu (nI l.length) bx 0 8 = _ from w1]
  have m1 := m_letters fu hfu hl h2 (f := 0) (q := 8) (by decide) (by decide)
  obtain ⟨p1, p2, p3⟩ := wdA_P l 8 0
  have hin := wdA_in (l := l) (q := 8) (f := 0)
  simp only [Option.bind_some, lt]
  rw [show f_X12_lettersIn fu bm (nI l.length) 0 8 = _ from m1, x_lenOf fu hfu p2 (by omega)]
  simp only [Option.bind_some]
  clear w1 m1
  generalize wdA l 0 8 = w at *
  have hbad : ∃ (r : Int32) (V1 : Nat → Int32) (V2 : Nat → Nat → Int32) (W1 : Nat → Int32) (W2 : Nat → Nat → Int32) (W3 : Nat → Nat → Nat → Int32) (n' m' : Nat) (S' T' L' : Nat → Nat), f_X11_explore_J35 fu rx lf rg (nI (enc w)) (nI w.length) dl dO dr dS dt dw fL fO fR (nI l.length) lx ox cx sx tx words = some (r, V1, V2) ∧ (some (-100 - nI w.length, vv (0 : Int32) [0, nO, nS, om, sm, ws], vv (fun _ => (0 : Int32)) [fl, lm, lens, nL, nl, nR, nT, cm, tm, word], vv (fun _ _ => (0 : Int32)) [lets, nt]) : Option (Int32 × (Nat → Int32) × (Nat → (Nat → Int32)) × (Nat → (Nat → Nat → Int32)))) = some (r, W1, W2, W3) ∧ TxX [] (V1 5) bx ∧ TxX [] (W1 0) bm ∧ FaR (V1 3) (V1 4) (V1 2) (W2 0) ∧ SyP n' m' S' T' L' ∧ Sy n' m' S' T' L' (V1 6) (V1 7) (V2 4) (V2 5) (V2 6) ∧ Sy n' m' S' T' L' (W1 3) (W1 4) (W2 1) (W2 7) (W2 8) ∧ WoR n' (V2 7) (W2 2) (W3 0) := by
    unfold f_X11_explore_J35 f_X11_explore_J36
    have hclr : f_X1_clear = some 0 := rfl
    simp only [hclr, lt, Option.bind_some]
    rw [if_neg (by decide)]
    exact ⟨_, _, _, _, _, _, n, m, S, T, L, rfl, rfl, TxX_nil bx, TxX_nil bm, hF, hp, hx, hm, hw⟩
  by_cases h0 : w.length = 0
  · rw [if_pos (show nI w.length ≤ 0 from nI_le (b := 0) (by omega) (by decide)), if_pos (show nI w.length = 0 by rw [h0]; rfl)]
    exact hbad
  rw [if_neg (show ¬ nI w.length ≤ 0 from nI_nle (by omega) (by omega)), if_neg (show ¬ nI w.length = 0 from nI_ne0 (by omega) (by omega))]
  simp (disch := omega) only [nI_eq, nI_leI]
  by_cases hwl : l.length ≤ w.length
  · have hwl' : w.length = l.length := by omega
    rw [if_neg (fun h => h hwl'), if_pos hwl]
    clear hbad
    -- the input becomes the word
    have hM : ∀ (Q : (Int32 × (Nat → Int32) × (Nat → Nat → Int32) × (Nat → Nat → Nat → Int32)) → Prop), (∀ word, wdM w (nI w.length) word → tot (f_X12_explore_J58 fu rm0 sl sd2 fl 0 lm lens lets nL nl nt nO nR nS nT om cm sm tm word (nI w.length)) Q) → tot (lp (τ := Int32 → (Nat → Int32) → Option (Int32 × (Nat → Int32) × (Nat → (Nat → Int32)) × (Nat → (Nat → Nat → Int32)))) (fun _ _ => none) (f_X12_explore_L35 fu om sm 0 rm0 nO nS (nI w.length) fl bm lm lens lets nL nl nt nR nT sl sd2 cm tm (nI w.length)) fu 0 word) Q := by
      intro Q hQ
      refine lw2 (fun k v o => ∃ i, v = nI i ∧ i + k = w.length ∧ ∀ j, j < i → o j = bm j) ?_ fu w.length _ _ (by omega) ⟨0, rfl, by omega, fun j h => absurd h (Nat.not_lt_zero j)⟩
      rintro r k v o ⟨i, rfl, hi, ho⟩ ih
      unfold f_X12_explore_L35
      by_cases hiw : i = w.length
      · rw [hiw, if_pos (nI_le (Nat.le_refl _) (by omega))]
        refine hQ o ⟨rfl, fun x c hx => ?_⟩
        have hxl := (List.getElem?_eq_some_iff.mp hx).1
        rw [ho x (by omega)]
        have := p3 x c hx
        rw [Nat.zero_add] at this
        exact h2.2 x _ this
      · rw [if_neg (nI_ge (a := i) (by omega) (by omega))]
        simp (disch := omega) only [ck_nI, nI_clamp, lt, nI_1]
        refine ih (k - 1) _ _ (by omega) ⟨i + 1, rfl, by omega, fun j hj => ?_⟩
        rw [upd_e]
        by_cases hji : j = i
        · rw [if_pos hji, hji]
        · rw [if_neg hji]
          exact ho j (by omega)
    have hX : ∃ z, z = f_X11_explore_J36 fu rx lf rg 1 (nI (enc w)) (nI w.length) dl dO dr dS dt dw fL fO fR (nI l.length) lx ox cx sx tx words := ⟨_, rfl⟩
    obtain ⟨z, hz⟩ := hX
    have hfin : tot (lp (τ := Int32 → (Nat → Int32) → Option (Int32 × (Nat → Int32) × (Nat → (Nat → Int32)) × (Nat → (Nat → Nat → Int32)))) (fun _ _ => none) (f_X12_explore_L35 fu om sm 0 rm0 nO nS (nI w.length) fl bm lm lens lets nL nl nt nR nT sl sd2 cm tm (nI w.length)) fu 0 word) (fun q => ∃ (V1 : Nat → Int32) (V2 : Nat → Nat → Int32) (n' m' : Nat) (S' T' L' : Nat → Nat), z = some (q.1, V1, V2) ∧ TxX [] (V1 5) bx ∧ TxX [] (q.2.1 0) bm ∧ FaR (V1 3) (V1 4) (V1 2) (q.2.2.1 0) ∧ SyP n' m' S' T' L' ∧ Sy n' m' S' T' L' (V1 6) (V1 7) (V2 4) (V2 5) (V2 6) ∧ Sy n' m' S' T' L' (q.2.1 3) (q.2.1 4) (q.2.2.1 1) (q.2.2.1 7) (q.2.2.1 8) ∧ WoR n' (V2 7) (q.2.2.1 2) (q.2.2.2 0)) := by
      refine hM _ (fun word hwd => ?_)
      clear hM
      unfold f_X12_explore_J58
      obtain ⟨nl', nt', e1, e2, e3⟩ := m_addWord fu hfu (n := 0) (by decide) p1 (nl := nl) (nt := nt) hwd
      simp only [lt]
      rw [show f_X12_addWord fu 0 (nI w.length) nl nt word = _ from e1]
      simp only [Option.bind_some]
      have hD : DrR 1 0 (fun _ => 0) (fun _ => 0) (fun _ => 0) (fun _ => w) (nI 1) (nI 0) dl dr dt (upd dw 0 (nI (enc w))) (nI 1) (nI 0) nL nR nT nl' nt' := by
        refine ⟨⟨by decide, by decide, fun i h => absurd h (Nat.not_lt_zero i)⟩, ⟨rfl, rfl, fun i h => absurd h (Nat.not_lt_zero i), fun i h => absurd h (Nat.not_lt_zero i), fun i h => absurd h (Nat.not_lt_zero i)⟩, ⟨rfl, rfl, fun i h => absurd h (Nat.not_lt_zero i), fun i h => absurd h (Nat.not_lt_zero i), fun i h => absurd h (Nat.not_lt_zero i)⟩, fun i hi => ?_⟩
        have hi0 : i = 0 := by omega
        subst hi0
        exact ⟨p2, p1, rfl, e2⟩
      unfold f_X11_explore_J36 f_X0_run f_X3_appendObject at hz
      have hclr : f_X1_clear = some 0 := rfl
      have hcl3 : f_X3_clear = some (0, 0) := rfl
      simp only [hclr, hcl3, lt, Option.bind_some] at hz
      rw [if_pos (show ¬ (1 : Int32) = 0 by decide), if_pos (show (0 : Int32) < 16 by decide)] at hz
      have hck : ∀ (β : Type) (k : Option β), ck (0 : Int32) 16 k = k := fun β k => ck_nI (i := 0) (by decide) (by decide)
      simp only [hck, Option.bind_some] at hz
      rcases ex_obj fu hfu hr hrx hrm fO fR fL (fl := fl) om sm 0 lm lens lets cm tm 16 fu fu 0 1 0 _ _ _ _ _ _ _ _ _ _ _ _ _ _ _ _ _ word (nI w.length) (by decide) (by omega) (by omega) hD with ⟨ld', od', sr', sd', tg', dw', ln', nl2, nt2, on', sn2', sn', tn', word', ws', n', m', S', T', L', W', g1, g2, g3⟩ | ⟨V1, V2, b1, b2, b3, c0, c1, c2, c3, c4, c5, d1, g1, g2, g3⟩
      · have hz2 : z = some (od', vv (0 : Int32) [od', sd', fL, fO, fR, 0, od', sd'], vv (fun _ => (0 : Int32)) [ld', sr', tg', dw', va_cpy ld' lx 0 0 32, va_cpy sr' cx 0 0 32, va_cpy tg' tx 0 0 32, va_cpy dw' words 0 0 16]) := by
          rw [hz]
          show ((lp (τ := Int32 → (Nat → Int32) → Int32 → (Nat → Int32) → Int32 → (Nat → Int32) → (Nat → Int32) → Option (Int32 × (Nat → Int32) × (Nat → (Nat → Int32)))) (fun _ _ _ _ _ _ _ => none) (f_X0_run_L18 fu rx fO fR fL lf rg) fu (nI 0) dl (nI 1) dr (nI 0) dt (upd dw 0 (nI (enc w)))).bind _) = _
          rw [g1]
          rfl
        obtain ⟨W1, W2, W3, k1, k2, k3, k4, k5⟩ := m_fin fu hfu g3.1 g3.2.2.1 g3.2.2.2 fl 0 lm lens lets om cm sm tm word' ws'
        have hon : on' = od' := g3.2.2.1.1.trans g3.2.1.1.symm
        refine ⟨(on', W1, W2, W3), ?_, vv (0 : Int32) [od', sd', fL, fO, fR, 0, od', sd'], vv (fun _ => (0 : Int32)) [ld', sr', tg', dw', va_cpy ld' lx 0 0 32, va_cpy sr' cx 0 0 32, va_cpy tg' tx 0 0 32, va_cpy dw' words 0 0 16], n', m', S', T', L', ?_, TxX_nil bx, ?_, ?_, g3.1, ?_, k4, ?_⟩
        · exact g2.trans k1
        · rw [hz2, hon]
        · show TxX [] (W1 0) bm
          rw [k3]
          exact TxX_nil bm
        · show FaR fO fR fL (W2 0)
          rw [k2]
          exact hF
        · exact Sy_cp g3.1.2.1 g3.2.1 (fun i hi => cpy_e _ _ _ _ hi) (fun i hi => cpy_e _ _ _ _ hi) (fun i hi => cpy_e _ _ _ _ hi)
        · exact k5 _ (fun i hi => cpy_e _ _ _ _ hi)
      · have hz2 : z = some (-6, vv (0 : Int32) [V1 0, V1 1, V1 2, V1 3, V1 4, 0, ox, sx], vv (fun _ => (0 : Int32)) [V2 0, V2 1, V2 2, V2 3, lx, cx, tx, words]) := by
          rw [hz]
          show ((lp (τ := Int32 → (Nat → Int32) → Int32 → (Nat → Int32) → Int32 → (Nat → Int32) → (Nat → Int32) → Option (Int32 × (Nat → Int32) × (Nat → (Nat → Int32)))) (fun _ _ _ _ _ _ _ => none) (f_X0_run_L18 fu rx fO fR fL lf rg) fu (nI 0) dl (nI 1) dr (nI 0) dt (upd dw 0 (nI (enc w)))).bind _) = _
          rw [g1]
          rfl
        exact ⟨_, g2, _, _, n, m, S, T, L, hz2, TxX_nil bx, TxX_nil bm, g3, hp, hx, hm, hw⟩
    obtain ⟨⟨q, W1, W2, W3⟩, g1, V1, V2, n', m', S', T', L', g2⟩ := hfin
    rw [hz] at g2
    exact ⟨q, V1, V2, W1, W2, W3, n', m', S', T', L', g2.1, g1, g2.2⟩
  · rw [if_pos (fun h => hwl (by omega)), if_neg hwl]
    exact hbad
