theorem take_s {w : List Nat} {j c : Nat} (h : w[j]? = some c) : w.take (j + 1) = w.take j ++ [c] := by
  rw [List.take_add_one, h]
  rfl
theorem m_rewrite (fu : Nat) (hfu : 32 < fu) {n : Nat} (hn : n ≤ 16) {W : Nat → List Nat} {dw nl : Nat → Int32} {nt : Nat → Nat → Int32} (hW : DrW n W dw nl nt) {sl : Nat → Int32} {sd : Nat → Nat → Int32} {u v : List Nat} (hul : u.length ≤ 4) (hvl : v.length ≤ 4) {r : Nat} (hr : r < 6) (hM1 : wdM u (sl (2 * r)) (sd (2 * r))) (hM2 : wdM v (sl (2 * r + 1)) (sd (2 * r + 1))) {o i : Nat} (ho : o < n) (hi : i + u.length ≤ (W o).length) (word0 : Nat → Int32) :
    ∃ word, f_X12_rewrite fu nl nt sl sd word0 (nI o) (nI r) (nI i) = some (word, nI ((W o).take i ++ (v ++ (W o).drop (i + u.length))).length) ∧ wdM ((W o).take i ++ (v ++ (W o).drop (i + u.length))) (nI ((W o).take i ++ (v ++ (W o).drop (i + u.length))).length) word := by
  obtain ⟨g1, g2, g3, g4, g5⟩ := hW o ho
  generalize hw : W o = w at *
  have hti : ∀ j, j ≤ i → (w.take j).length = j := fun j hj => by rw [List.length_take]; omega
  have : tot (f_X12_rewrite fu nl nt sl sd word0 (nI o) (nI r) (nI i)) (fun q => wdM (w.take i ++ (v ++ w.drop (i + u.length))) q.2 q.1) := by
    unfold f_X12_rewrite
    refine tot_lt (tot_lt (lw3 (fun k v4 word ws => ∃ j, v4 = nI j ∧ j + k = i ∧ wdM (w.take j) ws word) ?_ fu i _ _ _ (by omega) ⟨0, rfl, by omega, rfl, fun k c h => by cases h⟩))
    rintro rr k v4 word ws ⟨j, rfl, hj, hwd⟩ ih
    unfold f_X12_rewrite_L8
    by_cases hji : j = i
    · subst hji
      rw [if_pos (nI_le (Nat.le_refl j) (by omega))]
      unfold f_X12_rewrite_J48
      clear ih
      refine tot_lt (lw3 (fun k v4 word ws => ∃ x, v4 = nI x ∧ x + k = v.length ∧ wdM (w.take j ++ v.take x) ws word) ?_ fu v.length _ _ _ (by omega) ⟨0, rfl, by omega, by rw [List.take_zero, List.append_nil]; exact hwd⟩)
      clear hwd
      rintro rr k v4 word ws ⟨x, rfl, hx, hwd⟩ ih
      unfold f_X12_rewrite_L51
      simp (disch := omega) only [k2m, nI_1, ck_nI, nI_clamp, hM2.1, nI_leI]
      by_cases hxv : x = v.length
      · rw [if_pos (show v.length ≤ x by omega)]
        unfold f_X12_rewrite_J104
        simp (disch := omega) only [k2m, ck_nI, nI_clamp, hM1.1, lt, nI_add]
        rw [hxv, List.take_length] at hwd
        clear ih
        refine lw3 (fun k v4 word ws => ∃ y, v4 = nI (j + u.length + y) ∧ j + u.length + y + k = w.length ∧ wdM (w.take j ++ v ++ (w.drop (j + u.length)).take y) ws word) ?_ fu (w.length - (j + u.length)) _ _ _ (by omega) ⟨0, rfl, by omega, by rw [List.take_zero, List.append_nil]; exact hwd⟩
        clear hwd
        rintro rr k v4 word ws ⟨y, rfl, hy, hwd⟩ ih
        unfold f_X12_rewrite_L116
        simp (disch := omega) only [ck_nI, nI_clamp, g4, nI_leI]
        by_cases hyw : j + u.length + y = w.length
        · rw [if_pos (show w.length ≤ j + u.length + y by omega)]
          rw [show (w.drop (j + u.length)).take y = w.drop (j + u.length) from List.take_of_length_le (by rw [List.length_drop]; omega), List.append_assoc] at hwd
          exact tot_some hwd
        · rw [if_neg (show ¬ w.length ≤ j + u.length + y by omega)]
          have hc : w[j + u.length + y]? = some (w[j + u.length + y]'(by omega)) := List.getElem?_eq_getElem (by omega)
          generalize w[j + u.length + y]'(by omega) = c at hc
          have hlen : (w.take j ++ v ++ (w.drop (j + u.length)).take y).length < 16 := by
            rw [List.length_append, List.length_append, List.length_take, List.length_take, List.length_drop]
            omega
          have hws := hwd.1
          subst hws
          simp (disch := omega) only [ck_nI, nI_clamp, lt, nI_1]
          rw [g5 _ c hc]
          refine ih (k - 1) _ _ _ (by omega) ⟨y + 1, rfl, by omega, ?_⟩
          have hdc : (w.drop (j + u.length))[y]? = some c := by rw [List.getElem?_drop]; exact hc
          rw [take_s hdc, ← List.append_assoc]
          exact wdM_app hwd c
      · rw [if_neg (show ¬ v.length ≤ x by omega)]
        have hc : v[x]? = some (v[x]'(by omega)) := List.getElem?_eq_getElem (by omega)
        generalize v[x]'(by omega) = c at hc
        have hlen : (w.take j ++ v.take x).length < 16 := by
          rw [List.length_append, List.length_take, List.length_take]
          omega
        have hws := hwd.1
        subst hws
        simp (disch := omega) only [ck_nI, nI_clamp, lt, nI_1]
        rw [hM2.2 x c hc]
        refine ih (k - 1) _ _ _ (by omega) ⟨x + 1, rfl, by omega, ?_⟩
        rw [take_s hc, ← List.append_assoc]
        exact wdM_app hwd c
    · rw [if_neg (nI_ge (a := j) (by omega) (by omega))]
      have hc : w[j]? = some (w[j]'(by omega)) := List.getElem?_eq_getElem (by omega)
      generalize w[j]'(by omega) = c at hc
      have hl := hti j (by omega)
      have hws := hwd.1
      subst hws
      simp (disch := omega) only [ck_nI, nI_clamp, lt, nI_1]
      rw [g5 j c hc]
      refine ih (k - 1) _ _ _ (by omega) ⟨j + 1, rfl, by omega, ?_⟩
      rw [take_s hc]
      exact wdM_app hwd c
  obtain ⟨⟨word, ws⟩, e1, e2⟩ := this
  have e3 : ws = nI (w.take i ++ (v ++ w.drop (i + u.length))).length := e2.1
  subst e3
  exact ⟨word, e1, e2⟩
def DrR (n m : Nat) (S T L : Nat → Nat) (W : Nat → List Nat) (od sd : Int32) (ld sr tg dw : Nat → Int32) (on sn : Int32) (ln sn2 tn nl : Nat → Int32) (nt : Nat → Nat → Int32) : Prop := SyP n m S T L ∧ Sy n m S T L od sd ld sr tg ∧ Sy n m S T L on sn ln sn2 tn ∧ DrW n W dw nl nt
theorem SyP_n {n m : Nat} {S T L : Nat → Nat} (h : SyP n m S T L) (hn : n < 16) : SyP (n + 1) m S T L := ⟨by omega, h.2.1, fun i hi => by have := h.2.2 i hi; omega⟩
theorem DrW_put {n : Nat} {W : Nat → List Nat} {dw nl nl' : Nat → Int32} {nt nt' : Nat → Nat → Int32} (h : DrW n W dw nl nt) {w : List Nat} (hw : Wd w) (hwl : w.length ≤ 8) (h1 : wdM w (nl' n) (nt' n)) (h2 : ∀ i, i ≠ n → nl' i = nl i ∧ nt' i = nt i) : DrW (n + 1) (put1 W n w) (upd dw n (nI (enc w))) nl' nt' := by
  intro i hi
  rw [upd_e]
  unfold put1
  by_cases hin : i = n
  · simp only [hin, ↓reduceIte]
    exact ⟨hw, hwl, trivial, h1⟩
  · simp only [hin, ↓reduceIte]
    rw [(h2 i hin).1, (h2 i hin).2]
    exact h i (by omega)
/-- connecting an object with a result: the same on both sides -/
theorem s_conn (fu : Nat) (hfu : 32 < fu) {n m : Nat} {S T L : Nat → Nat} {W : Nat → List Nat} {od sd : Int32} {ld sr tg dw : Nat → Int32} {on sn : Int32} {ln sn2 tn nl : Nat → Int32} {nt : Nat → Nat → Int32} (h : DrR n m S T L W od sd ld sr tg dw on sn ln sn2 tn nl nt) {o r : Nat} (ho : o < n) (hr : r < 6) {w : List Nat} (hw : Wd w) (hwl : w.length ≤ 15) {ws : Int32} {word : Nat → Int32} (hm : wdM w ws word) :
    ∃ (a b : Int32) (V1 : Nat → Int32) (V2 : Nat → Nat → Int32) (W1 : Nat → Int32) (W2 : Nat → Nat → Int32) (W3 : Nat → Nat → Nat → Int32), f_X0_connect fu od sd ld sr tg dw (nI o) (nI (enc w)) (nI r) = some (a, V1, V2) ∧ f_X12_take fu on sn ws ln nl nt sn2 tn word (nI o) (nI r) = some (b, W1, W2, W3) ∧ ((a = -2 ∧ b = -1 ∧ ∃ n' m' S' T' L' W', DrR n' m' S' T' L' W' (V1 0) (V1 1) (V2 0) (V2 1) (V2 2) (V2 3) (W1 0) (W1 1) (W2 0) (W2 2) (W2 3) (W2 1) (W3 0) ∧ n ≤ n' ∧ ∀ i, i < n → W' i = W i) ∨ ∃ l, l < 3 ∧ a = nI l ∧ b = nI l) := by
  obtain ⟨h1, h2, h3, h4⟩ := h
  have hn := h1.1
  have hm32 := h1.2.1
  have a1 := h2.1
  have a2 := h2.2.1
  have a3 := h3.1
  have a4 := h3.2.1
  have a5 := hm.1
  subst a1 a2 a3 a4 a5
  unfold f_X0_connect f_X12_take
  rw [x_lenOf fu hfu hw hwl, show (8 : Int32) = nI 8 from rfl]
  simp (disch := omega) only [Option.bind_some, nI_leI]
  by_cases h8 : w.length ≤ 8
  · rw [if_pos h8, if_pos h8]
    -- the search of the word
    have hM : ∀ t, (t = n ∨ (t < n ∧ W t = w)) → (∀ i, i < t → W i ≠ w) → ∀ (Q : (Int32 × (Nat → Int32) × (Nat → Nat → Int32) × (Nat → Nat → Nat → Int32)) → Prop), tot (f_X12_take_J35 fu (nI w.length) word (nI o) (nI r) (nI t) ln nl nt (nI n) sn2 (nI m) tn) Q → tot (lt (0 : Int32) (fun v3_12 => lp (τ := Int32 → Option (Int32 × (Nat → Int32) × (Nat → Nat → Int32) × (Nat → Nat → Nat → Int32))) (fun _ => none) (f_X12_take_L13 fu (nI n) (nI m) (nI w.length) ln nl nt sn2 tn word (nI o) (nI r)) fu v3_12)) Q := by
      intro t ht hno Q hQ
      refine tot_lt (lw1 (fun k v => ∃ i, v = nI i ∧ i + k = t) ?_ fu t _ (by omega) ⟨0, rfl, by omega⟩)
      rintro rr k v ⟨i, rfl, hi⟩ ih
      unfold f_X12_take_L13
      by_cases hit : i = t
      · subst hit
        by_cases hin : i = n
        · subst hin
          rw [if_pos (nI_le (Nat.le_refl i) (by omega))]
          exact hQ
        · rw [if_neg (nI_ge (a := i) (by omega) (by omega))]
          obtain ⟨q, e1, e2⟩ := m_isWordOf fu hfu hn h4 hw h8 hm (show i < n by omega)
          rw [e1]
          simp only [Option.bind_some]
          rcases e2 with ⟨rfl, _⟩ | ⟨_, e2⟩
          · rw [if_pos (by decide)]
            exact hQ
          · rcases ht with ht | ht
            · exact absurd ht hin
            · exact absurd ht.2 e2
      · rw [if_neg (nI_ge (a := i) (by omega) (by omega))]
        obtain ⟨q, e1, e2⟩ := m_isWordOf fu hfu hn h4 hw h8 hm (show i < n by omega)
        rw [e1]
        simp only [Option.bind_some]
        rcases e2 with ⟨_, e2⟩ | ⟨rfl, _⟩
        · exact absurd e2 (hno i (by omega))
        · rw [if_neg (by decide)]
          refine tot_lt ?_
          rw [nI_1]
          exact ih (k - 1) _ (by omega) ⟨i + 1, rfl, by omega⟩
    obtain ⟨ro, e1, e2⟩ := x_objOf fu hfu hn h4 hw hwl
    rw [e1]
    simp only [Option.bind_some, lt]
    rcases e2 with ⟨rfl, e2⟩ | ⟨t, t1, rfl, t2, t3⟩
    · -- a new object
      rw [if_neg (fun hh => hh rfl)]
      unfold f_X3_appendObject
      rw [show (16 : Int32) = nI 16 from rfl]
      simp (disch := omega) only [nI_ltI]
      by_cases h16 : n < 16
      · simp (disch := omega) only [h16, ↓reduceIte, ck_nI, nI_clamp, lt, nI_1, nI_s1, Option.bind_some]
        unfold f_X0_connect_J38
        have hne3 : ¬ nI n = -3 := by
          intro hc
          have : (nI n).toInt = (-3 : Int32).toInt := by rw [hc]
          rw [nI_toInt (by omega)] at this
          have h22 : (-3 : Int32).toInt = -3 := by decide
          omega
        rw [if_pos hne3]
        have hp' := SyP_n h1 h16
        have hx' : Sy (n + 1) m S T L (nI (n + 1)) (nI m) ld sr tg := ⟨rfl, h2.2⟩
        obtain ⟨q, f1, f2⟩ := x_joined fu hfu hp' hx' (show o < 100 by omega) (show n < 100 by omega) (show r < 100 by omega)
        rw [f1]
        simp only [Option.bind_some]
        rcases f2 with ⟨_, s, s1, _, s3, _⟩ | ⟨rfl, _⟩
        · have := (h1.2.2 s s1).2.1
          omega
        · rw [if_pos rfl]
          unfold f_X3_appendStep
          rw [show (32 : Int32) = nI 32 from rfl]
          simp (disch := omega) only [nI_ltI]
          by_cases h32 : m < 32
          · simp (disch := omega) only [h32, ↓reduceIte, ck_nI, nI_clamp, lt, nI_1, nI_s1, Option.bind_some]
            have hne3m : ¬ nI m = -3 := by
              intro hc
              have : (nI m).toInt = (-3 : Int32).toInt := by rw [hc]
              rw [nI_toInt (by omega)] at this
              have h22 : (-3 : Int32).toInt = -3 := by decide
              omega
            rw [if_pos hne3m]
            obtain ⟨nl', nt', w1, w2, w3⟩ := m_addWord fu hfu h16 h8 (nl := nl) (nt := nt) hm
            obtain ⟨⟨b, Z1, Z2, Z3⟩, z1, z2⟩ := hM n (Or.inl rfl) e2 (fun q => q = (-1, vv (0 : Int32) [nI (n + 1), nI (m + 1)], vv (fun _ => (0 : Int32)) [upd ln m (nI r), nl', upd sn2 m (nI o), upd tn m (nI n)], vv (fun _ _ => (0 : Int32)) [nt'])) (by
              unfold f_X12_take_J35 f_X12_take_J61 f_X12_take_J66 f_X12_take_J84 f_X12_take_J96
              rw [show (16 : Int32) = nI 16 from rfl, show (32 : Int32) = nI 32 from rfl]
              have d1 : ¬ n = 16 := by omega
              have d2 : ¬ m = 32 := by omega
              simp (disch := omega) only [nI_eq, d1, d2, not_false_eq_true, not_true_eq_false, ↓reduceIte, lt, show ¬ (1 : Int32) = 0 by decide, w1, Option.bind_some, ck_nI, nI_clamp, nI_1]
              exact tot_some rfl)
            cases z2
            refine ⟨_, _, _, _, _, _, _, rfl, z1, Or.inl ⟨rfl, rfl, n + 1, m + 1, put1 S m o, put1 T m n, put1 L m r, put1 W n w, ⟨SyP_put hp' h32 (by omega) (by omega) (by omega), Sy_put hx' o n r, ⟨rfl, (Sy_put (o := nI (n + 1)) ⟨rfl, h3.2⟩ o n r).2⟩, DrW_put h4 hw h8 w2 w3⟩, by omega, fun i hi => ?_⟩⟩
            unfold put1
            rw [if_neg (by omega)]
          · have d2 : m = 32 := by omega
            simp only [h32, ↓reduceIte, Option.bind_some, not_true_eq_false]
            obtain ⟨⟨b, Z1, Z2, Z3⟩, z1, z2⟩ := hM n (Or.inl rfl) e2 (fun q => q.1 = 2) (by
              unfold f_X12_take_J35 f_X12_take_J61 f_X12_take_J66
              rw [show (16 : Int32) = nI 16 from rfl, show (32 : Int32) = nI 32 from rfl]
              have d1 : ¬ n = 16 := by omega
              simp (disch := omega) only [nI_eq, d1, d2, not_false_eq_true, not_true_eq_false, ↓reduceIte, lt, show ¬ (1 : Int32) = 0 by decide]
              exact tot_some rfl)
            have z2 : b = 2 := z2
            subst z2
            exact ⟨_, _, _, _, _, _, _, rfl, z1, Or.inr ⟨2, by decide, rfl, rfl⟩⟩
      · have d1 : n = 16 := by omega
        simp only [h16, ↓reduceIte, Option.bind_some]
        unfold f_X0_connect_J38
        rw [if_neg (fun hh => hh rfl)]
        obtain ⟨⟨b, Z1, Z2, Z3⟩, z1, z2⟩ := hM n (Or.inl rfl) e2 (fun q => q.1 = 1) (by
          unfold f_X12_take_J35
          rw [show (16 : Int32) = nI 16 from rfl, d1, if_neg (fun hh => hh rfl)]
          exact tot_some rfl)
        have z2 : b = 1 := z2
        subst z2
        exact ⟨_, _, _, _, _, _, _, rfl, z1, Or.inr ⟨1, by decide, rfl, rfl⟩⟩
    · -- an object that is there
      rw [if_pos (nI_ne2 (show t < 2 ^ 31 by omega))]
      unfold f_X0_connect_J38
      have hne3 : ¬ nI t = -3 := by
        intro hc
        have : (nI t).toInt = (-3 : Int32).toInt := by rw [hc]
        rw [nI_toInt (by omega)] at this
        have h22 : (-3 : Int32).toInt = -3 := by decide
        omega
      rw [if_pos hne3]
      obtain ⟨q, f1, f2⟩ := x_joined fu hfu h1 h2 (show o < 100 by omega) (show t < 100 by omega) (show r < 100 by omega)
      obtain ⟨q2, f3, f4⟩ := m_joined fu hfu h1 h3 (show o < 100 by omega) (show t < 100 by omega) (show r < 100 by omega)
      rw [f1]
      simp only [Option.bind_some]
      have d1 : ¬ t = 16 := by omega
      have d3 : ¬ t = n := by omega
      rcases f2 with ⟨rfl, hj⟩ | ⟨rfl, hj⟩
      · rw [if_neg (by decide)]
        have q2e : q2 = 1 := by
          rcases f4 with ⟨h, _⟩ | ⟨_, h⟩
          · exact h
          · exact absurd hj h
        subst q2e
        obtain ⟨⟨b, Z1, Z2, Z3⟩, z1, z2⟩ := hM t (Or.inr ⟨t1, t2⟩) t3 (fun q => q = (-1, vv (0 : Int32) [nI n, nI m], vv (fun _ => (0 : Int32)) [ln, nl, sn2, tn], vv (fun _ _ => (0 : Int32)) [nt])) (by
          unfold f_X12_take_J35 f_X12_take_J66 f_X12_take_J84 f_X12_take_J96
          rw [f3, show (16 : Int32) = nI 16 from rfl]
          simp (disch := omega) only [nI_eq, d1, d3, not_false_eq_true, ↓reduceIte, lt, show ¬ (1 : Int32) = 0 by decide, Option.bind_some]
          exact tot_some rfl)
        cases z2
        exact ⟨_, _, _, _, _, _, _, rfl, z1, Or.inl ⟨rfl, rfl, n, m, S, T, L, W, ⟨h1, h2, h3, h4⟩, Nat.le_refl n, fun i _ => rfl⟩⟩
      · rw [if_pos rfl]
        have q2e : q2 = 0 := by
          rcases f4 with ⟨_, h⟩ | ⟨h, _⟩
          · exact absurd h hj
          · exact h
        subst q2e
        unfold f_X3_appendStep
        rw [show (32 : Int32) = nI 32 from rfl]
        simp (disch := omega) only [nI_ltI]
        by_cases h32 : m < 32
        · simp (disch := omega) only [h32, ↓reduceIte, ck_nI, nI_clamp, lt, nI_1, nI_s1, Option.bind_some]
          have hne3m : ¬ nI m = -3 := by
            intro hc
            have : (nI m).toInt = (-3 : Int32).toInt := by rw [hc]
            rw [nI_toInt (by omega)] at this
            have h22 : (-3 : Int32).toInt = -3 := by decide
            omega
          rw [if_pos hne3m]
          have d2 : ¬ m = 32 := by omega
          obtain ⟨⟨b, Z1, Z2, Z3⟩, z1, z2⟩ := hM t (Or.inr ⟨t1, t2⟩) t3 (fun q => q = (-1, vv (0 : Int32) [nI n, nI (m + 1)], vv (fun _ => (0 : Int32)) [upd ln m (nI r), nl, upd sn2 m (nI o), upd tn m (nI t)], vv (fun _ _ => (0 : Int32)) [nt])) (by
            unfold f_X12_take_J35 f_X12_take_J61 f_X12_take_J66 f_X12_take_J84 f_X12_take_J96
            rw [f3, show (16 : Int32) = nI 16 from rfl, show (32 : Int32) = nI 32 from rfl]
            simp (disch := omega) only [nI_eq, d1, d2, d3, not_false_eq_true, not_true_eq_false, ↓reduceIte, lt, show ¬ (1 : Int32) = 0 by decide, Option.bind_some, ck_nI, nI_clamp, nI_1]
            exact tot_some rfl)
          cases z2
          exact ⟨_, _, _, _, _, _, _, rfl, z1, Or.inl ⟨rfl, rfl, n, m + 1, put1 S m o, put1 T m t, put1 L m r, W, ⟨SyP_put h1 h32 ho t1 (by omega), Sy_put h2 o t r, Sy_put h3 o t r, h4⟩, Nat.le_refl n, fun i _ => rfl⟩⟩
        · have d2 : m = 32 := by omega
          simp only [h32, ↓reduceIte, Option.bind_some, not_true_eq_false]
          obtain ⟨⟨b, Z1, Z2, Z3⟩, z1, z2⟩ := hM t (Or.inr ⟨t1, t2⟩) t3 (fun q => q.1 = 2) (by
            unfold f_X12_take_J35 f_X12_take_J61 f_X12_take_J66
            rw [f3, show (16 : Int32) = nI 16 from rfl, show (32 : Int32) = nI 32 from rfl]
            simp (disch := omega) only [nI_eq, d1, d2, d3, not_false_eq_true, not_true_eq_false, ↓reduceIte, lt, show ¬ (1 : Int32) = 0 by decide, Option.bind_some]
            exact tot_some rfl)
          have z2 : b = 2 := z2
          subst z2
          exact ⟨_, _, _, _, _, _, _, rfl, z1, Or.inr ⟨2, by decide, rfl, rfl⟩⟩
  · rw [if_neg h8, if_neg h8]
    exact ⟨_, _, _, _, _, _, _, rfl, rfl, Or.inr ⟨0, by decide, rfl, rfl⟩⟩
