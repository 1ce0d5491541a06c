def f_X11_isSide_J9   : Option (Int32) :=
  some 1
def f_X11_isSide (v0 : Int32) : Option (Int32) :=
  if v0 = 0 then (f_X11_isSide_J9) else (if ¬ v0 = 1 then (some 0) else (f_X11_isSide_J9))
set_option maxHeartbeats 4000000 in
set_option maxRecDepth 100000 in
theorem k_X11_isSide (l : Launch) (D : va_G) (G : Nat → ClassId) (fu : Nat)    (v0 : Int32) (out : Int32) (hf : f_X11_isSide v0 = some out) : xMet l yX11_isSide wsX11_isSide (rM 0 0) D G [.int v0] [] (xQi D [] out) := by
  refine x_ent (cc := cX11_isSide) (maxL := 1) (by decide) rfl (Nat.le_of_ble_eq_true rfl) ?_
  intro p e s m blw meth c aa ls args Q H locs hQ hx hb hr hml hown hts hlocks hE hN hl hP hS
  have hown : s.vm.findClass RX11 = some m.cls := hown
  have hl : lv_has ls 1 [(0, .int v0)] := hl
  have J9 : ∀ (H : Heap) (locs : List Loc) (ls : Array Slot), xW D aa [] H → va_S (xA aa) s.heap H locs → lv_has ls 1 [] → f_X11_isSide_J9   = some out → W p l e (rM 0 0) s m args blw meth c H locs 0 0 Q (F0 m 9 ls []) := by
    intro   H locs ls  hP hS hl hf
    refine lv_iconst (v := 1) hx hb dX11_isSide_9 (by decide) ?_
    refine lv_goto (tgt := 14) hx hb dX11_isSide_10 (by decide) ?_
    have hf := Option.some.inj hf
    rewrite [← hQ, ← hf]
    exact x_zret (r := 1) hx hb hr hlocks rfl hP hS dX11_isSide_14
  refine lv_iload_n hx hb dX11_isSide_0 rfl (lv_at hl 0 rfl) ?_
  refine lv_if_eq (tgt := 9) hx hb dX11_isSide_1 (by decide) (fun c_1 => ?_) (fun c_1 => ?_)
  · have hf := it_pos c_1 hf
    exact J9   H locs ls  hP hS (lv_sub hl [] rfl) hf
  · have hf := it_neg c_1 hf
    refine lv_iload_n hx hb dX11_isSide_4 rfl (lv_at hl 0 rfl) ?_
    refine lv_iconst (v := 1) hx hb dX11_isSide_5 (by decide) ?_
    refine lv_icmp_ne (tgt := 13) hx hb dX11_isSide_6 (by decide) (fun c_6 => ?_) (fun c_6 => ?_)
    · have hf := it_pos c_6 hf
      refine lv_iconst (v := 0) hx hb dX11_isSide_13 (by decide) ?_
      have hf := Option.some.inj hf
      rewrite [← hQ, ← hf]
      exact x_zret (r := 0) hx hb hr hlocks rfl hP hS dX11_isSide_14
    · have hf := it_neg (fun h => h c_6) hf
      exact J9   H locs ls  hP hS (lv_sub hl [] rfl) hf

set_option maxRecDepth 20000 in
theorem u_X3_longestFrom_X3 : ∀ w ∈ wsX30, w ∈ wsX3_longestFrom := xx_pl _ [11, 12, 13, 14, 15, 16] (by decide +kernel)
def f_X3_longestFrom_L4 (fu : Nat) (objects : Int32) (steps : Int32) (labels : (Nat → Int32)) (sources : (Nat → Int32)) (targets : (Nat → Int32)) (rec_4 : Int32 → Int32 → Option (Int32)) (v2 : Int32) (v3 : Int32) : Option (Int32) :=
  if objects < v3 then (some (-2)) else ((f_X3_successors fu steps labels sources targets v2 255).bind (fun r_17 => lt r_17 (fun v2_20 => if ¬ v2_20 = 0 then (lt (v3 + 1) (fun v3_27 => rec_4 v2_20 v3_27)) else (some v3))))
def f_X3_longestFrom (fu : Nat) (objects : Int32) (steps : Int32) (labels : (Nat → Int32)) (sources : (Nat → Int32)) (targets : (Nat → Int32)) (v1 : Int32) : Option (Int32) :=
  lt v1 (fun v2_1 => lt (0 : Int32) (fun v3_3 => lp (τ := Int32 → Int32 → Option (Int32)) (fun _ _ => none) (f_X3_longestFrom_L4 fu objects steps labels sources targets) fu v2_1 v3_3))
set_option maxHeartbeats 4000000 in
set_option maxRecDepth 100000 in
theorem k_X3_longestFrom (l : Launch) (D : va_G) (G : Nat → ClassId) (fu : Nat) (h : Nat) (a_words : Nat) (a_sources : Nat) (a_targets : Nat) (a_labels : Nat) (objects : Int32) (steps : Int32) (labels : (Nat → Int32)) (sources : (Nat → Int32)) (targets : (Nat → Int32))  (v1 : Int32) (out : Int32) (hf : f_X3_longestFrom fu objects steps labels sources targets v1 = some out) : xMet l yX3_longestFrom wsX3_longestFrom (rM 1 24) D G [.ref h, .int v1] [[(h, .inr (3, [.int objects, .ref a_words, .int steps, .ref a_sources, .ref a_targets, .ref a_labels]))], [(a_labels, .inl (G 0, 32, .inl labels))], [(a_sources, .inl (G 0, 32, .inl sources))], [(a_targets, .inl (G 0, 32, .inl targets))]] (xQi D [[(h, .inr (3, [.int objects, .ref a_words, .int steps, .ref a_sources, .ref a_targets, .ref a_labels]))], [(a_labels, .inl (G 0, 32, .inl labels))], [(a_sources, .inl (G 0, 32, .inl sources))], [(a_targets, .inl (G 0, 32, .inl targets))]] out) := by
  refine x_ent (cc := cX3_longestFrom) (maxL := 4) (by decide) rfl (Nat.le_of_ble_eq_true rfl) ?_
  intro p e s m blw meth c aa ls args Q H locs hQ hx hb hr hml hown hts hlocks hE hN hl hP hS
  have hown : s.vm.findClass RX3 = some m.cls := hown
  have hl : lv_has ls 4 [(0, .ref h), (1, .int v1)] := hl
  have L4 : ∀ (n_4 : Nat) (v2 : Int32) (v3 : Int32) (H : Heap) (locs : List Loc) (ls : Array Slot), xW D aa [[(h, .inr (3, [.int objects, .ref a_words, .int steps, .ref a_sources, .ref a_targets, .ref a_labels]))], [(a_labels, .inl (G 0, 32, .inl labels))], [(a_sources, .inl (G 0, 32, .inl sources))], [(a_targets, .inl (G 0, 32, .inl targets))]] H → va_S (xA aa) s.heap H locs → lv_has ls 4 [(0, .ref h), (2, .int v2), (3, .int v3)] → lp (τ := Int32 → Int32 → Option (Int32)) (fun _ _ => none) (f_X3_longestFrom_L4 fu objects steps labels sources targets) n_4 v2 v3 = some out → W p l e (rM 1 24) s m args blw meth c H locs 0 0 Q (F0 m 4 ls []) := by
    intro    n_4
    induction n_4 with
    | zero =>
      intro v2 v3 H locs ls hP hS hl hf
      exact no_some hf
    | succ n_4 ih_4 =>
      intro v2 v3 H locs ls hP hS hl hf
      have hf : f_X3_longestFrom_L4 fu objects steps labels sources targets (lp (τ := Int32 → Int32 → Option (Int32)) (fun _ _ => none) (f_X3_longestFrom_L4 fu objects steps labels sources targets) n_4) v2 v3 = some out := hf
      refine lv_iload_n hx hb dX3_longestFrom_4 rfl (lv_at hl 2 rfl) ?_
      refine lv_aload_n hx hb dX3_longestFrom_5 rfl (lv_at hl 0 rfl) ?_
      refine x_get hx hb hts u_X3_longestFrom_X3 hown hE hP 0 rfl rfl 0 (by decide) (hts (.fieldLink RX3 9 "DecreasingDiagrams$LabelledSystem" "objects" "I") (List.mem_of_getElem? (i := 1) rfl)) rfl dX3_longestFrom_6 ?_
      refine lv_icmp_gt (tgt := 33) hx hb dX3_longestFrom_9 (by decide) (fun c_9 => ?_) (fun c_9 => ?_)
      · have hf := it_pos c_9 hf
        refine lv_bipush (v := -2) hx hb dX3_longestFrom_33 (by decide) ?_
        have hf := Option.some.inj hf
        rewrite [← hQ, ← hf]
        exact x_iret hx hb hr hlocks hP hS dX3_longestFrom_35
      · have hf := it_neg c_9 hf
        refine lv_aload_n hx hb dX3_longestFrom_12 rfl (lv_at hl 0 rfl) ?_
        refine lv_iload_n hx hb dX3_longestFrom_13 rfl (lv_at hl 1 rfl) ?_
        refine lv_sipush (v := 255) hx hb dX3_longestFrom_14 (by decide) ?_
        obtain ⟨r_17, hr_17, hf⟩ := bd_some hf
        refine x_goi0 (ps := [0, 1, 2, 3]) (x_runV (As := [.int v2, .int 255]) (rest := []) (ps := [0, 1, 2, 3]) ⟨hx, hb, hml, hown, hts⟩ (k_X3_successors l D G fu h a_words a_sources a_targets a_labels objects steps labels sources targets v2 255 r_17 hr_17) (cwV 2 hts gX3_longestFrom_X3_successors rfl rfl rfl (by decide +kernel) ⟨Nat.le_of_ble_eq_true rfl, Nat.le_of_ble_eq_true rfl⟩) hE hP hN rfl (by decide) 0 rfl rfl rfl hl.1 (Nat.le_of_ble_eq_true rfl) dX3_longestFrom_17 ⟨Nat.zero_le _, Nat.zero_le _⟩) hP hN hS rfl (fun H locs hP hS => ?_)
        obtain ⟨v2_20, e_v2_20, hf⟩ := lt_some hf
        refine x_istore_n (v := v2_20) (lv' := [(2, .int v2_20), (0, .ref h), (3, .int v3)]) hx hb dX3_longestFrom_20 e_v2_20 rfl hl (by decide) rfl (fun ls hl => ?_)
        refine lv_iload_n hx hb dX3_longestFrom_21 rfl (lv_at hl 0 rfl) ?_
        refine lv_if_ne (tgt := 27) hx hb dX3_longestFrom_22 (by decide) (fun c_22 => ?_) (fun c_22 => ?_)
        · have hf := it_pos c_22 hf
          obtain ⟨v3_27, e_v3_27, hf⟩ := lt_some hf
          refine lv_iinc (v := v3_27) (lv' := [(3, .int v3_27), (2, .int v2_20), (0, .ref h)]) hx hb dX3_longestFrom_27 hl (k := 2) rfl (by rw [e_v3_27]; rfl) (by decide) rfl (fun ls hl => ?_)
          refine lv_goto (tgt := 4) hx hb dX3_longestFrom_30 (by decide) ?_
          exact ih_4 v2_20 v3_27 H locs ls hP hS (lv_sub hl [2, 1, 0] rfl) hf
        · have hf := it_neg (fun h => h c_22) hf
          refine lv_iload_n hx hb dX3_longestFrom_25 rfl (lv_at hl 2 rfl) ?_
          have hf := Option.some.inj hf
          rewrite [← hQ, ← hf]
          exact x_iret hx hb hr hlocks hP hS dX3_longestFrom_26
  refine lv_iload_n hx hb dX3_longestFrom_0 rfl (lv_at hl 1 rfl) ?_
  obtain ⟨v2_1, e_v2_1, hf⟩ := lt_some hf
  refine x_istore_n (v := v2_1) (lv' := [(2, .int v2_1), (0, .ref h), (1, .int v1)]) hx hb dX3_longestFrom_1 e_v2_1 rfl hl (by decide) rfl (fun ls hl => ?_)
  refine lv_iconst (v := 0) hx hb dX3_longestFrom_2 (by decide) ?_
  obtain ⟨v3_3, e_v3_3, hf⟩ := lt_some hf
  refine x_istore_n (v := v3_3) (lv' := [(3, .int v3_3), (2, .int v2_1), (0, .ref h), (1, .int v1)]) hx hb dX3_longestFrom_3 e_v3_3 rfl hl (by decide) rfl (fun ls hl => ?_)
  exact L4    fu v2_1 v3_3 H locs ls hP hS (lv_sub hl [2, 1, 0] rfl) hf

set_option maxRecDepth 20000 in
theorem u_X11_isTerminating_X11 : ∀ w ∈ wsX110, w ∈ wsX11_isTerminating := xx_pl _ [15, 16, 17, 18, 19, 20, 21, 22, 23, 24, 25, 26, 27, 28, 29, 30] (by decide +kernel)
set_option maxRecDepth 20000 in
theorem u_X11_isTerminating_X3 : ∀ w ∈ wsX30, w ∈ wsX11_isTerminating := xx_pl _ [31, 32, 33, 34, 35, 36] (by decide +kernel)
def f_X11_isTerminating (fu : Nat) (system_objects : Int32) (system_steps : Int32) (system_labels : (Nat → Int32)) (system_sources : (Nat → Int32)) (system_targets : (Nat → Int32)) : Option (Int32) :=
  lt ((1 <<< (system_objects &&& 31)) - 1) (fun v1_11 => (f_X3_longestFrom fu system_objects system_steps system_labels system_sources system_targets v1_11).bind (fun r_17 => if ¬ r_17 = (-2) then (some 1) else (some 0)))
set_option maxHeartbeats 4000000 in
set_option maxRecDepth 100000 in
theorem k_X11_isTerminating (l : Launch) (D : va_G) (G : Nat → ClassId) (fu : Nat) (h : Nat) (h_order : Nat) (h_system : Nat) (h_rules : Nat) (h_savedOrder : Nat) (h_savedSystem : Nat) (h_savedRules : Nat) (h_peaks : Nat) (h_leftPaths : Nat) (h_rightPaths : Nat) (h_text : Nat) (h_labellings : Nat) (h_input : Nat) (h_explorer : Nat) (h_arrays : Nat) (a_reach : Nat) (a_system_words : Nat) (a_system_sources : Nat) (a_system_targets : Nat) (a_system_labels : Nat) (snapshotSaved : Int32) (system_objects : Int32) (system_steps : Int32) (system_labels : (Nat → Int32)) (system_sources : (Nat → Int32)) (system_targets : (Nat → Int32))   (out : Int32) (hf : f_X11_isTerminating fu system_objects system_steps system_labels system_sources system_targets = some out) : xMet l yX11_isTerminating wsX11_isTerminating (rM 2 47) D G [.ref h] [[(h, .inr (10, [.ref h_order, .ref h_system, .ref h_rules, .ref h_savedOrder, .ref h_savedSystem, .ref h_savedRules, .int snapshotSaved, .ref h_peaks, .ref h_leftPaths, .ref h_rightPaths, .ref h_text, .ref h_labellings, .ref h_input, .ref h_explorer, .ref h_arrays, .ref a_reach]))], [(h_system, .inr (3, [.int system_objects, .ref a_system_words, .int system_steps, .ref a_system_sources, .ref a_system_targets, .ref a_system_labels]))], [(a_system_labels, .inl (G 0, 32, .inl system_labels))], [(a_system_sources, .inl (G 0, 32, .inl system_sources))], [(a_system_targets, .inl (G 0, 32, .inl system_targets))]] (xQi D [[(h, .inr (10, [.ref h_order, .ref h_system, .ref h_rules, .ref h_savedOrder, .ref h_savedSystem, .ref h_savedRules, .int snapshotSaved, .ref h_peaks, .ref h_leftPaths, .ref h_rightPaths, .ref h_text, .ref h_labellings, .ref h_input, .ref h_explorer, .ref h_arrays, .ref a_reach]))], [(h_system, .inr (3, [.int system_objects, .ref a_system_words, .int system_steps, .ref a_system_sources, .ref a_system_targets, .ref a_system_labels]))], [(a_system_labels, .inl (G 0, 32, .inl system_labels))], [(a_system_sources, .inl (G 0, 32, .inl system_sources))], [(a_system_targets, .inl (G 0, 32, .inl system_targets))]] out) := by
  refine x_ent (cc := cX11_isTerminating) (maxL := 2) (by decide) rfl (Nat.le_of_ble_eq_true rfl) ?_
  intro p e s m blw meth c aa ls args Q H locs hQ hx hb hr hml hown hts hlocks hE hN hl hP hS
  have hown : s.vm.findClass RX11 = some m.cls := hown
  have hl : lv_has ls 2 [(0, .ref h)] := hl
  refine lv_iconst (v := 1) hx hb dX11_isTerminating_0 (by decide) ?_
  refine lv_aload_n hx hb dX11_isTerminating_1 rfl (lv_at hl 0 rfl) ?_
  refine x_get hx hb hts u_X11_isTerminating_X11 hown hE hP 0 rfl rfl 1 (by decide) (hts (.fieldLink RX11 19 "DecreasingDiagrams" "system" "LDecreasingDiagrams$LabelledSystem;") (List.mem_of_getElem? (i := 1) rfl)) rfl dX11_isTerminating_2 ?_
  refine x_getN hx hb hts u_X11_isTerminating_X3 hown hE hP 1 rfl rfl 0 (by decide) (hE.2 (.fieldLinkNest RX11 149 "DecreasingDiagrams$LabelledSystem" "objects" "I" RX11) (List.mem_of_getElem? (i := 5) rfl)) rfl dX11_isTerminating_5 ?_
  refine lv_ishl hx hb dX11_isTerminating_8 ?_
  refine lv_iconst (v := 1) hx hb dX11_isTerminating_9 (by decide) ?_
  refine lv_isub hx hb dX11_isTerminating_10 ?_
  obtain ⟨v1_11, e_v1_11, hf⟩ := lt_some hf
  refine x_istore_n (v := v1_11) (lv' := [(1, .int v1_11), (0, .ref h)]) hx hb dX11_isTerminating_11 e_v1_11 rfl hl (by decide) rfl (fun ls hl => ?_)
  refine lv_aload_n hx hb dX11_isTerminating_12 rfl (lv_at hl 1 rfl) ?_
  refine x_get hx hb hts u_X11_isTerminating_X11 hown hE hP 0 rfl rfl 1 (by decide) (hts (.fieldLink RX11 19 "DecreasingDiagrams" "system" "LDecreasingDiagrams$LabelledSystem;") (List.mem_of_getElem? (i := 1) rfl)) rfl dX11_isTerminating_13 ?_
  refine lv_iload_n hx hb dX11_isTerminating_16 rfl (lv_at hl 0 rfl) ?_
  obtain ⟨r_17, hr_17, hf⟩ := bd_some hf
  refine x_goi0 (ps := [1, 2, 3, 4]) (x_runVN (As := [.int v1_11]) (rest := []) (ps := [1, 2, 3, 4]) ⟨hx, hb, hml, hown, hts⟩ (k_X3_longestFrom l D G fu h_system a_system_words a_system_sources a_system_targets a_system_labels system_objects system_steps system_labels system_sources system_targets v1_11 r_17 hr_17) ⟨va_cnB 1 hts gX11_isTerminating_X3_longestFrom_n185 rfl rfl rfl (hE.2 (.methodLinkNest RX11 185 yX3_longestFrom RX11) (List.mem_of_getElem? (i := 71) rfl)) (hts (.initialized RX3) (List.mem_of_getElem? (i := 3) rfl)) (by decide +kernel) ⟨Nat.le_of_ble_eq_true rfl, Nat.le_of_ble_eq_true rfl⟩, (hts (.instanceMethod yX3_longestFrom) (List.mem_of_getElem? (i := 2) rfl)), (hts (.selects RX3 yX3_longestFrom yX3_longestFrom) (List.mem_of_getElem? (i := 4) rfl))⟩ hE hP hN rfl (by decide) 1 rfl rfl rfl hl.1 (Nat.le_of_ble_eq_true rfl) dX11_isTerminating_17 ⟨Nat.zero_le _, Nat.zero_le _⟩) hP hN hS rfl (fun H locs hP hS => ?_)
  refine lv_bipush (v := -2) hx hb dX11_isTerminating_20 (by decide) ?_
  refine lv_icmp_ne (tgt := 29) hx hb dX11_isTerminating_22 (by decide) (fun c_22 => ?_) (fun c_22 => ?_)
  · have hf := it_pos c_22 hf
    refine lv_iconst (v := 1) hx hb dX11_isTerminating_29 (by decide) ?_
    have hf := Option.some.inj hf
    rewrite [← hQ, ← hf]
    exact x_iret hx hb hr hlocks hP hS dX11_isTerminating_30
  · have hf := it_neg (fun h => h c_22) hf
    refine lv_iconst (v := 0) hx hb dX11_isTerminating_25 (by decide) ?_
    refine lv_goto (tgt := 30) hx hb dX11_isTerminating_26 (by decide) ?_
    have hf := Option.some.inj hf
    rewrite [← hQ, ← hf]
    exact x_iret hx hb hr hlocks hP hS dX11_isTerminating_30

set_option maxRecDepth 20000 in
theorem u_X11_pathsOf_X11 : ∀ w ∈ wsX110, w ∈ wsX11_pathsOf := xx_pl _ [3, 4, 5, 6, 7, 8, 9, 10, 11, 12, 13, 14, 15, 16, 17, 18] (by decide +kernel)
set_option maxHeartbeats 4000000 in
set_option maxRecDepth 100000 in
theorem k_X11_pathsOf_0 (l : Launch) (D : va_G) (G : Nat → ClassId) (h : Nat) (h_order : Nat) (h_system : Nat) (h_rules : Nat) (h_savedOrder : Nat) (h_savedSystem : Nat) (h_savedRules : Nat) (h_peaks : Nat) (h_leftPaths : Nat) (h_rightPaths : Nat) (h_text : Nat) (h_labellings : Nat) (h_input : Nat) (h_explorer : Nat) (h_arrays : Nat) (a_reach : Nat) (snapshotSaved : Int32) (v1 : Int32) (hc : v1 = 0) : xMet l yX11_pathsOf wsX11_pathsOf (rM 0 0) D G [.ref h, .int v1] [[(h, .inr (10, [.ref h_order, .ref h_system, .ref h_rules, .ref h_savedOrder, .ref h_savedSystem, .ref h_savedRules, .int snapshotSaved, .ref h_peaks, .ref h_leftPaths, .ref h_rightPaths, .ref h_text, .ref h_labellings, .ref h_input, .ref h_explorer, .ref h_arrays, .ref a_reach]))]] (xQr D [[(h, .inr (10, [.ref h_order, .ref h_system, .ref h_rules, .ref h_savedOrder, .ref h_savedSystem, .ref h_savedRules, .int snapshotSaved, .ref h_peaks, .ref h_leftPaths, .ref h_rightPaths, .ref h_text, .ref h_labellings, .ref h_input, .ref h_explorer, .ref h_arrays, .ref a_reach]))]] h_leftPaths) := by
  refine x_ent (cc := cX11_pathsOf) (maxL := 2) (by decide) rfl (Nat.le_of_ble_eq_true rfl) ?_
  intro p e s m blw meth c aa ls args Q H locs hQ hx hb hr hml hown hts hlocks hE hN hl hP hS
  have hown : s.vm.findClass RX11 = some m.cls := hown
  have hl : lv_has ls 2 [(0, .ref h), (1, .int v1)] := hl
  subst hQ
  refine lv_iload_n hx hb dX11_pathsOf_0 rfl (lv_at hl 1 rfl) ?_
  refine lv_if_ne (tgt := 11) hx hb dX11_pathsOf_1 (by decide) (fun c_1 => ?_) (fun c_1 => ?_)
  · exact absurd hc c_1
  · refine lv_aload_n hx hb dX11_pathsOf_4 rfl (lv_at hl 0 rfl) ?_
    refine x_get hx hb hts u_X11_pathsOf_X11 hown hE hP 0 rfl rfl 8 (by decide) (hts (.fieldLink RX11 53 "DecreasingDiagrams" "leftPaths" "LDecreasingDiagrams$SidePaths;") (List.mem_of_getElem? (i := 1) rfl)) rfl dX11_pathsOf_5 ?_
    refine lv_goto (tgt := 15) hx hb dX11_pathsOf_8 (by decide) ?_
    exact x_aret hx hb hr (Or.inl ⟨_, rfl⟩) hlocks hP hS dX11_pathsOf_15
set_option maxHeartbeats 4000000 in
set_option maxRecDepth 100000 in
theorem k_X11_pathsOf_1 (l : Launch) (D : va_G) (G : Nat → ClassId) (h : Nat) (h_order : Nat) (h_system : Nat) (h_rules : Nat) (h_savedOrder : Nat) (h_savedSystem : Nat) (h_savedRules : Nat) (h_peaks : Nat) (h_leftPaths : Nat) (h_rightPaths : Nat) (h_text : Nat) (h_labellings : Nat) (h_input : Nat) (h_explorer : Nat) (h_arrays : Nat) (a_reach : Nat) (snapshotSaved : Int32) (v1 : Int32) (hc : ¬ v1 = 0) : xMet l yX11_pathsOf wsX11_pathsOf (rM 0 0) D G [.ref h, .int v1] [[(h, .inr (10, [.ref h_order, .ref h_system, .ref h_rules, .ref h_savedOrder, .ref h_savedSystem, .ref h_savedRules, .int snapshotSaved, .ref h_peaks, .ref h_leftPaths, .ref h_rightPaths, .ref h_text, .ref h_labellings, .ref h_input, .ref h_explorer, .ref h_arrays, .ref a_reach]))]] (xQr D [[(h, .inr (10, [.ref h_order, .ref h_system, .ref h_rules, .ref h_savedOrder, .ref h_savedSystem, .ref h_savedRules, .int snapshotSaved, .ref h_peaks, .ref h_leftPaths, .ref h_rightPaths, .ref h_text, .ref h_labellings, .ref h_input, .ref h_explorer, .ref h_arrays, .ref a_reach]))]] h_rightPaths) := by
  refine x_ent (cc := cX11_pathsOf) (maxL := 2) (by decide) rfl (Nat.le_of_ble_eq_true rfl) ?_
  intro p e s m blw meth c aa ls args Q H locs hQ hx hb hr hml hown hts hlocks hE hN hl hP hS
  have hown : s.vm.findClass RX11 = some m.cls := hown
  have hl : lv_has ls 2 [(0, .ref h), (1, .int v1)] := hl
  subst hQ
  refine lv_iload_n hx hb dX11_pathsOf_0 rfl (lv_at hl 1 rfl) ?_
  refine lv_if_ne (tgt := 11) hx hb dX11_pathsOf_1 (by decide) (fun c_1 => ?_) (fun c_1 => ?_)
  · refine lv_aload_n hx hb dX11_pathsOf_11 rfl (lv_at hl 0 rfl) ?_
    refine x_get hx hb hts u_X11_pathsOf_X11 hown hE hP 0 rfl rfl 9 (by decide) (hts (.fieldLink RX11 57 "DecreasingDiagrams" "rightPaths" "LDecreasingDiagrams$SidePaths;") (List.mem_of_getElem? (i := 2) rfl)) rfl dX11_pathsOf_12 ?_
    exact x_aret hx hb hr (Or.inl ⟨_, rfl⟩) hlocks hP hS dX11_pathsOf_15
  · exact absurd c_1 hc

set_option maxRecDepth 20000 in
theorem u_X3_hasStep_X3 : ∀ w ∈ wsX30, w ∈ wsX3_hasStep := xx_pl _ [2, 3, 4, 5, 6, 7] (by decide +kernel)
def f_X3_hasStep (steps : Int32) (v1 : Int32) : Option (Int32) :=
  if v1 < 0 then (some 0) else (if steps ≤ v1 then (some 0) else (some 1))
set_option maxHeartbeats 4000000 in
set_option maxRecDepth 100000 in
theorem k_X3_hasStep (l : Launch) (D : va_G) (G : Nat → ClassId) (fu : Nat) (h : Nat) (a_words : Nat) (a_sources : Nat) (a_targets : Nat) (a_labels : Nat) (objects : Int32) (steps : Int32)  (v1 : Int32) (out : Int32) (hf : f_X3_hasStep steps v1 = some out) : xMet l yX3_hasStep wsX3_hasStep (rM 0 0) D G [.ref h, .int v1] [[(h, .inr (3, [.int objects, .ref a_words, .int steps, .ref a_sources, .ref a_targets, .ref a_labels]))]] (xQi D [[(h, .inr (3, [.int objects, .ref a_words, .int steps, .ref a_sources, .ref a_targets, .ref a_labels]))]] out) := by
  refine x_ent (cc := cX3_hasStep) (maxL := 2) (by decide) rfl (Nat.le_of_ble_eq_true rfl) ?_
  intro p e s m blw meth c aa ls args Q H locs hQ hx hb hr hml hown hts hlocks hE hN hl hP hS
  have hown : s.vm.findClass RX3 = some m.cls := hown
  have hl : lv_has ls 2 [(0, .ref h), (1, .int v1)] := hl
  refine lv_iload_n hx hb dX3_hasStep_0 rfl (lv_at hl 1 rfl) ?_
  refine lv_if_lt (tgt := 16) hx hb dX3_hasStep_1 (by decide) (fun c_1 => ?_) (fun c_1 => ?_)
  · have hf := it_pos c_1 hf
    refine lv_iconst (v := 0) hx hb dX3_hasStep_16 (by decide) ?_
    have hf := Option.some.inj hf
    rewrite [← hQ, ← hf]
    exact x_zret (r := 0) hx hb hr hlocks rfl hP hS dX3_hasStep_17
  · have hf := it_neg c_1 hf
    refine lv_iload_n hx hb dX3_hasStep_4 rfl (lv_at hl 1 rfl) ?_
    refine lv_aload_n hx hb dX3_hasStep_5 rfl (lv_at hl 0 rfl) ?_
    refine x_get hx hb hts u_X3_hasStep_X3 hown hE hP 0 rfl rfl 2 (by decide) (hts (.fieldLink RX3 19 "DecreasingDiagrams$LabelledSystem" "steps" "I") (List.mem_of_getElem? (i := 1) rfl)) rfl dX3_hasStep_6 ?_
    refine lv_icmp_ge (tgt := 16) hx hb dX3_hasStep_9 (by decide) (fun c_9 => ?_) (fun c_9 => ?_)
    · have hf := it_pos c_9 hf
      refine lv_iconst (v := 0) hx hb dX3_hasStep_16 (by decide) ?_
      have hf := Option.some.inj hf
      rewrite [← hQ, ← hf]
      exact x_zret (r := 0) hx hb hr hlocks rfl hP hS dX3_hasStep_17
    · have hf := it_neg c_9 hf
      refine lv_iconst (v := 1) hx hb dX3_hasStep_12 (by decide) ?_
      refine lv_goto (tgt := 17) hx hb dX3_hasStep_13 (by decide) ?_
      have hf := Option.some.inj hf
      rewrite [← hQ, ← hf]
      exact x_zret (r := 1) hx hb hr hlocks rfl hP hS dX3_hasStep_17

set_option maxRecDepth 20000 in
theorem u_X11_label_X11 : ∀ w ∈ wsX110, w ∈ wsX11_label := xx_pl _ [7, 8, 9, 10, 11, 12, 13, 14, 15, 16, 17, 18, 19, 20, 21, 22] (by decide +kernel)
set_option maxRecDepth 20000 in
theorem u_X11_label_X3 : ∀ w ∈ wsX30, w ∈ wsX11_label := xx_pl _ [23, 24, 25, 26, 27, 28] (by decide +kernel)
def f_X11_label (system_steps : Int32) (system_labels : (Nat → Int32)) (v1 : Int32) : Option (Int32) :=
  (f_X3_hasStep system_steps v1).bind (fun r_5 => if r_5 = 0 then (some (-1)) else (ck v1 32 (some (system_labels v1.toNatClampNeg))))
set_option maxHeartbeats 4000000 in
set_option maxRecDepth 100000 in
theorem k_X11_label (l : Launch) (D : va_G) (G : Nat → ClassId) (fu : Nat) (h : Nat) (h_order : Nat) (h_system : Nat) (h_rules : Nat) (h_savedOrder : Nat) (h_savedSystem : Nat) (h_savedRules : Nat) (h_peaks : Nat) (h_leftPaths : Nat) (h_rightPaths : Nat) (h_text : Nat) (h_labellings : Nat) (h_input : Nat) (h_explorer : Nat) (h_arrays : Nat) (a_reach : Nat) (a_system_words : Nat) (a_system_sources : Nat) (a_system_targets : Nat) (a_system_labels : Nat) (snapshotSaved : Int32) (system_objects : Int32) (system_steps : Int32) (system_labels : (Nat → Int32))  (v1 : Int32) (out : Int32) (hf : f_X11_label system_steps system_labels v1 = some out) : xMet l yX11_label wsX11_label (rM 1 21) D G [.ref h, .int v1] [[(h, .inr (10, [.ref h_order, .ref h_system, .ref h_rules, .ref h_savedOrder, .ref h_savedSystem, .ref h_savedRules, .int snapshotSaved, .ref h_peaks, .ref h_leftPaths, .ref h_rightPaths, .ref h_text, .ref h_labellings, .ref h_input, .ref h_explorer, .ref h_arrays, .ref a_reach]))], [(h_system, .inr (3, [.int system_objects, .ref a_system_words, .int system_steps, .ref a_system_sources, .ref a_system_targets, .ref a_system_labels]))], [(a_system_labels, .inl (G 0, 32, .inl system_labels))]] (xQi D [[(h, .inr (10, [.ref h_order, .ref h_system, .ref h_rules, .ref h_savedOrder, .ref h_savedSystem, .ref h_savedRules, .int snapshotSaved, .ref h_peaks, .ref h_leftPaths, .ref h_rightPaths, .ref h_text, .ref h_labellings, .ref h_input, .ref h_explorer, .ref h_arrays, .ref a_reach]))], [(h_system, .inr (3, [.int system_objects, .ref a_system_words, .int system_steps, .ref a_system_sources, .ref a_system_targets, .ref a_system_labels]))], [(a_system_labels, .inl (G 0, 32, .inl system_labels))]] out) := by
  refine x_ent (cc := cX11_label) (maxL := 2) (by decide) rfl (Nat.le_of_ble_eq_true rfl) ?_
  intro p e s m blw meth c aa ls args Q H locs hQ hx hb hr hml hown hts hlocks hE hN hl hP hS
  have hown : s.vm.findClass RX11 = some m.cls := hown
  have hl : lv_has ls 2 [(0, .ref h), (1, .int v1)] := hl
  refine lv_aload_n hx hb dX11_label_0 rfl (lv_at hl 0 rfl) ?_
  refine x_get hx hb hts u_X11_label_X11 hown hE hP 0 rfl rfl 1 (by decide) (hts (.fieldLink RX11 19 "DecreasingDiagrams" "system" "LDecreasingDiagrams$LabelledSystem;") (List.mem_of_getElem? (i := 1) rfl)) rfl dX11_label_1 ?_
  refine lv_iload_n hx hb dX11_label_4 rfl (lv_at hl 1 rfl) ?_
  obtain ⟨r_5, hr_5, hf⟩ := bd_some hf
  refine x_goi0 (ps := [1]) (x_runVN (As := [.int v1]) (rest := []) (ps := [1]) ⟨hx, hb, hml, hown, hts⟩ (k_X3_hasStep l D G fu h_system a_system_words a_system_sources a_system_targets a_system_labels system_objects system_steps v1 r_5 hr_5) ⟨va_cnB 1 hts gX11_label_X3_hasStep_n135 rfl rfl rfl (hE.2 (.methodLinkNest RX11 135 yX3_hasStep RX11) (List.mem_of_getElem? (i := 63) rfl)) (hts (.initialized RX3) (List.mem_of_getElem? (i := 3) rfl)) (by decide +kernel) ⟨Nat.le_of_ble_eq_true rfl, Nat.le_of_ble_eq_true rfl⟩, (hts (.instanceMethod yX3_hasStep) (List.mem_of_getElem? (i := 2) rfl)), (hts (.selects RX3 yX3_hasStep yX3_hasStep) (List.mem_of_getElem? (i := 4) rfl))⟩ hE hP hN rfl (by decide) 1 rfl rfl rfl hl.1 (Nat.le_of_ble_eq_true rfl) dX11_label_5 ⟨Nat.zero_le _, Nat.zero_le _⟩) hP hN hS rfl (fun H locs hP hS => ?_)
  refine lv_if_eq (tgt := 23) hx hb dX11_label_8 (by decide) (fun c_8 => ?_) (fun c_8 => ?_)
  · have hf := it_pos c_8 hf
    refine lv_iconst (v := -1) hx hb dX11_label_23 (by decide) ?_
    have hf := Option.some.inj hf
    rewrite [← hQ, ← hf]
    exact x_iret hx hb hr hlocks hP hS dX11_label_24
  · have hf := it_neg c_8 hf
    refine lv_aload_n hx hb dX11_label_11 rfl (lv_at hl 0 rfl) ?_
    refine x_get hx hb hts u_X11_label_X11 hown hE hP 0 rfl rfl 1 (by decide) (hts (.fieldLink RX11 19 "DecreasingDiagrams" "system" "LDecreasingDiagrams$LabelledSystem;") (List.mem_of_getElem? (i := 1) rfl)) rfl dX11_label_12 ?_
    refine x_getN hx hb hts u_X11_label_X3 hown hE hP 1 rfl rfl 5 (by decide) (hE.2 (.fieldLinkNest RX11 146 "DecreasingDiagrams$LabelledSystem" "labels" "[I" RX11) (List.mem_of_getElem? (i := 21) rfl)) rfl dX11_label_15 ?_
    refine lv_iload_n hx hb dX11_label_18 rfl (lv_at hl 1 rfl) ?_
    obtain ⟨hi, hf⟩ := ck_some hf
    refine x_iald hx hb hE hP 2 rfl hi dX11_label_19 ?_
    refine lv_goto (tgt := 24) hx hb dX11_label_20 (by decide) ?_
    have hf := Option.some.inj hf
    rewrite [← hQ, ← hf]
    exact x_iret hx hb hr hlocks hP hS dX11_label_24

set_option maxRecDepth 20000 in
theorem u_X11_letter_X11 : ∀ w ∈ wsX110, w ∈ wsX11_letter := xx_pl _ [12, 13, 14, 15, 16, 17, 18, 19, 20, 21, 22, 23, 24, 25, 26, 27] (by decide +kernel)
set_option maxRecDepth 20000 in
theorem u_X11_letter_X3 : ∀ w ∈ wsX30, w ∈ wsX11_letter := xx_pl _ [28, 29, 30, 31, 32, 33] (by decide +kernel)
def f_X11_letter (fu : Nat) (system_objects : Int32) (system_words : (Nat → Int32)) (v1 : Int32) (v2 : Int32) : Option (Int32) :=
  (f_X3_hasObject system_objects v1).bind (fun r_5 => if ¬ r_5 = 0 then (ck v1 16 (lt (system_words v1.toNatClampNeg) (fun v3_22 => if v3_22 = (-2) then (some (-2)) else (if v2 < 0 then (some (-2)) else ((f_X10_lengthOf fu v3_22).bind (fun r_35 => if v2 < r_35 then ((f_X10_letterOf v3_22 v2).bind (fun r_46 => some r_46)) else (some (-2)))))))) else (some (-1)))
set_option maxHeartbeats 4000000 in
set_option maxRecDepth 100000 in
theorem k_X11_letter (l : Launch) (D : va_G) (G : Nat → ClassId) (fu : Nat) (h : Nat) (h_order : Nat) (h_system : Nat) (h_rules : Nat) (h_savedOrder : Nat) (h_savedSystem : Nat) (h_savedRules : Nat) (h_peaks : Nat) (h_leftPaths : Nat) (h_rightPaths : Nat) (h_text : Nat) (h_labellings : Nat) (h_input : Nat) (h_explorer : Nat) (h_arrays : Nat) (a_reach : Nat) (a_system_words : Nat) (a_system_sources : Nat) (a_system_targets : Nat) (a_system_labels : Nat) (snapshotSaved : Int32) (system_objects : Int32) (system_steps : Int32) (system_words : (Nat → Int32))  (v1 : Int32) (v2 : Int32) (out : Int32) (hf : f_X11_letter fu system_objects system_words v1 v2 = some out) : xMet l yX11_letter wsX11_letter (rM 1 21) D G [.ref h, .int v1, .int v2] [[(h, .inr (10, [.ref h_order, .ref h_system, .ref h_rules, .ref h_savedOrder, .ref h_savedSystem, .ref h_savedRules, .int snapshotSaved, .ref h_peaks, .ref h_leftPaths, .ref h_rightPaths, .ref h_text, .ref h_labellings, .ref h_input, .ref h_explorer, .ref h_arrays, .ref a_reach]))], [(h_system, .inr (3, [.int system_objects, .ref a_system_words, .int system_steps, .ref a_system_sources, .ref a_system_targets, .ref a_system_labels]))], [(a_system_words, .inl (G 0, 16, .inl system_words))]] (xQi D [[(h, .inr (10, [.ref h_order, .ref h_system, .ref h_rules, .ref h_savedOrder, .ref h_savedSystem, .ref h_savedRules, .int snapshotSaved, .ref h_peaks, .ref h_leftPaths, .ref h_rightPaths, .ref h_text, .ref h_labellings, .ref h_input, .ref h_explorer, .ref h_arrays, .ref a_reach]))], [(h_system, .inr (3, [.int system_objects, .ref a_system_words, .int system_steps, .ref a_system_sources, .ref a_system_targets, .ref a_system_labels]))], [(a_system_words, .inl (G 0, 16, .inl system_words))]] out) := by
  refine x_ent (cc := cX11_letter) (maxL := 4) (by decide) rfl (Nat.le_of_ble_eq_true rfl) ?_
  intro p e s m blw meth c aa ls args Q H locs hQ hx hb hr hml hown hts hlocks hE hN hl hP hS
  have hown : s.vm.findClass RX11 = some m.cls := hown
  have hl : lv_has ls 4 [(0, .ref h), (1, .int v1), (2, .int v2)] := hl
  refine lv_aload_n hx hb dX11_letter_0 rfl (lv_at hl 0 rfl) ?_
  refine x_get hx hb hts u_X11_letter_X11 hown hE hP 0 rfl rfl 1 (by decide) (hts (.fieldLink RX11 19 "DecreasingDiagrams" "system" "LDecreasingDiagrams$LabelledSystem;") (List.mem_of_getElem? (i := 1) rfl)) rfl dX11_letter_1 ?_
  refine lv_iload_n hx hb dX11_letter_4 rfl (lv_at hl 1 rfl) ?_
  obtain ⟨r_5, hr_5, hf⟩ := bd_some hf
  refine x_goi0 (ps := [1]) (x_runVN (As := [.int v1]) (rest := []) (ps := [1]) ⟨hx, hb, hml, hown, hts⟩ (k_X3_hasObject l D G fu h_system a_system_words a_system_sources a_system_targets a_system_labels system_objects system_steps v1 r_5 hr_5) ⟨va_cnB 1 hts gX11_letter_X3_hasObject_n128 rfl rfl rfl (hE.2 (.methodLinkNest RX11 128 yX3_hasObject RX11) (List.mem_of_getElem? (i := 61) rfl)) (hts (.initialized RX3) (List.mem_of_getElem? (i := 3) rfl)) (by decide +kernel) ⟨Nat.le_of_ble_eq_true rfl, Nat.le_of_ble_eq_true rfl⟩, (hts (.instanceMethod yX3_hasObject) (List.mem_of_getElem? (i := 2) rfl)), (hts (.selects RX3 yX3_hasObject yX3_hasObject) (List.mem_of_getElem? (i := 4) rfl))⟩ hE hP hN rfl (by decide) 1 rfl rfl rfl hl.1 (Nat.le_of_ble_eq_true rfl) dX11_letter_5 ⟨Nat.zero_le _, Nat.zero_le _⟩) hP hN hS rfl (fun H locs hP hS => ?_)
  refine lv_if_ne (tgt := 13) hx hb dX11_letter_8 (by decide) (fun c_8 => ?_) (fun c_8 => ?_)
  · have hf := it_pos c_8 hf
    refine lv_aload_n hx hb dX11_letter_13 rfl (lv_at hl 0 rfl) ?_
    refine x_get hx hb hts u_X11_letter_X11 hown hE hP 0 rfl rfl 1 (by decide) (hts (.fieldLink RX11 19 "DecreasingDiagrams" "system" "LDecreasingDiagrams$LabelledSystem;") (List.mem_of_getElem? (i := 1) rfl)) rfl dX11_letter_14 ?_
    refine x_getN hx hb hts u_X11_letter_X3 hown hE hP 1 rfl rfl 1 (by decide) (hE.2 (.fieldLinkNest RX11 309 "DecreasingDiagrams$LabelledSystem" "words" "[I" RX11) (List.mem_of_getElem? (i := 7) rfl)) rfl dX11_letter_17 ?_
    refine lv_iload_n hx hb dX11_letter_20 rfl (lv_at hl 1 rfl) ?_
    obtain ⟨hi, hf⟩ := ck_some hf
    refine x_iald hx hb hE hP 2 rfl hi dX11_letter_21 ?_
    obtain ⟨v3_22, e_v3_22, hf⟩ := lt_some hf
    refine x_istore_n (v := v3_22) (lv' := [(3, .int v3_22), (0, .ref h), (1, .int v1), (2, .int v2)]) hx hb dX11_letter_22 e_v3_22 rfl hl (by decide) rfl (fun ls hl => ?_)
    refine lv_iload_n hx hb dX11_letter_23 rfl (lv_at hl 0 rfl) ?_
    refine lv_bipush (v := -2) hx hb dX11_letter_24 (by decide) ?_
    refine lv_icmp_eq (tgt := 41) hx hb dX11_letter_26 (by decide) (fun c_26 => ?_) (fun c_26 => ?_)
    · have hf := it_pos c_26 hf
      refine lv_bipush (v := -2) hx hb dX11_letter_41 (by decide) ?_
      have hf := Option.some.inj hf
      rewrite [← hQ, ← hf]
      exact x_iret hx hb hr hlocks hP hS dX11_letter_43
    · have hf := it_neg c_26 hf
      refine lv_iload_n hx hb dX11_letter_29 rfl (lv_at hl 3 rfl) ?_
      refine lv_if_lt (tgt := 41) hx hb dX11_letter_30 (by decide) (fun c_30 => ?_) (fun c_30 => ?_)
      · have hf := it_pos c_30 hf
        refine lv_bipush (v := -2) hx hb dX11_letter_41 (by decide) ?_
        have hf := Option.some.inj hf
        rewrite [← hQ, ← hf]
        exact x_iret hx hb hr hlocks hP hS dX11_letter_43
      · have hf := it_neg c_30 hf
        refine lv_iload_n hx hb dX11_letter_33 rfl (lv_at hl 3 rfl) ?_
        refine lv_iload_n hx hb dX11_letter_34 rfl (lv_at hl 0 rfl) ?_
        obtain ⟨r_35, hr_35, hf⟩ := bd_some hf
        refine x_goi0 (ps := []) (x_runSN (As := [.int v3_22]) (rest := [.int v2]) (ps := []) ⟨hx, hb, hml, hown, hts⟩ (k_X10_lengthOf l D G fu v3_22 r_35 hr_35) ⟨va_cnB 1 hts gX11_letter_X10_lengthOf_n279 rfl rfl rfl (hE.2 (.methodLinkNest RX11 279 yX10_lengthOf RX11) (List.mem_of_getElem? (i := 95) rfl)) (hts (.initialized RX10) (List.mem_of_getElem? (i := 8) rfl)) (by decide +kernel) ⟨Nat.le_of_ble_eq_true rfl, Nat.le_of_ble_eq_true rfl⟩, (hts (.static yX10_lengthOf) (List.mem_of_getElem? (i := 7) rfl)), trivial⟩ hE hP hN rfl (by decide) rfl hl.1 (Nat.le_of_ble_eq_true rfl) dX11_letter_35 ⟨Nat.zero_le _, Nat.zero_le _⟩) hP hN hS rfl (fun H locs hP hS => ?_)
        refine lv_icmp_lt (tgt := 44) hx hb dX11_letter_38 (by decide) (fun c_38 => ?_) (fun c_38 => ?_)
        · have hf := it_pos c_38 hf
          refine lv_iload_n hx hb dX11_letter_44 rfl (lv_at hl 0 rfl) ?_
          refine lv_iload_n hx hb dX11_letter_45 rfl (lv_at hl 3 rfl) ?_
          obtain ⟨r_46, hr_46, hf⟩ := bd_some hf
          refine x_goi0 (ps := []) (x_runSN (As := [.int v3_22, .int v2]) (rest := []) (ps := []) ⟨hx, hb, hml, hown, hts⟩ (k_X10_letterOf l D G fu v3_22 v2 r_46 hr_46) ⟨va_cnB 2 hts gX11_letter_X10_letterOf_n312 rfl rfl rfl (hE.2 (.methodLinkNest RX11 312 yX10_letterOf RX11) (List.mem_of_getElem? (i := 109) rfl)) (hts (.initialized RX10) (List.mem_of_getElem? (i := 8) rfl)) (by decide +kernel) ⟨Nat.le_of_ble_eq_true rfl, Nat.le_of_ble_eq_true rfl⟩, (hts (.static yX10_letterOf) (List.mem_of_getElem? (i := 10) rfl)), trivial⟩ hE hP hN rfl (by decide) rfl hl.1 (Nat.le_of_ble_eq_true rfl) dX11_letter_46 ⟨Nat.zero_le _, Nat.zero_le _⟩) hP hN hS rfl (fun H locs hP hS => ?_)
          have hf := Option.some.inj hf
          rewrite [← hQ, ← hf]
          exact x_iret hx hb hr hlocks hP hS dX11_letter_49
        · have hf := it_neg c_38 hf
          refine lv_bipush (v := -2) hx hb dX11_letter_41 (by decide) ?_
          have hf := Option.some.inj hf
          rewrite [← hQ, ← hf]
          exact x_iret hx hb hr hlocks hP hS dX11_letter_43
  · have hf := it_neg (fun h => h c_8) hf
    refine lv_iconst (v := -1) hx hb dX11_letter_11 (by decide) ?_
    have hf := Option.some.inj hf
    rewrite [← hQ, ← hf]
    exact x_iret hx hb hr hlocks hP hS dX11_letter_12

set_option maxRecDepth 20000 in
theorem u_X11_longestPath_X11 : ∀ w ∈ wsX110, w ∈ wsX11_longestPath := xx_pl _ [18, 19, 20, 21, 22, 23, 24, 25, 26, 27, 28, 29, 30, 31, 32, 33] (by decide +kernel)
def f_X11_longestPath (fu : Nat) (system_objects : Int32) (system_steps : Int32) (system_labels : (Nat → Int32)) (system_sources : (Nat → Int32)) (system_targets : (Nat → Int32)) (v1 : Int32) : Option (Int32) :=
  (f_X3_hasObject system_objects v1).bind (fun r_5 => if r_5 = 0 then (some (-1)) else ((f_X3_longestFrom fu system_objects system_steps system_labels system_sources system_targets (1 <<< (v1 &&& 31))).bind (fun r_18 => some r_18)))
set_option maxHeartbeats 4000000 in
set_option maxRecDepth 100000 in
theorem k_X11_longestPath (l : Launch) (D : va_G) (G : Nat → ClassId) (fu : Nat) (h : Nat) (h_order : Nat) (h_system : Nat) (h_rules : Nat) (h_savedOrder : Nat) (h_savedSystem : Nat) (h_savedRules : Nat) (h_peaks : Nat) (h_leftPaths : Nat) (h_rightPaths : Nat) (h_text : Nat) (h_labellings : Nat) (h_input : Nat) (h_explorer : Nat) (h_arrays : Nat) (a_reach : Nat) (a_system_words : Nat) (a_system_sources : Nat) (a_system_targets : Nat) (a_system_labels : Nat) (snapshotSaved : Int32) (system_objects : Int32) (system_steps : Int32) (system_labels : (Nat → Int32)) (system_sources : (Nat → Int32)) (system_targets : (Nat → Int32))  (v1 : Int32) (out : Int32) (hf : f_X11_longestPath fu system_objects system_steps system_labels system_sources system_targets v1 = some out) : xMet l yX11_longestPath wsX11_longestPath (rM 2 47) D G [.ref h, .int v1] [[(h, .inr (10, [.ref h_order, .ref h_system, .ref h_rules, .ref h_savedOrder, .ref h_savedSystem, .ref h_savedRules, .int snapshotSaved, .ref h_peaks, .ref h_leftPaths, .ref h_rightPaths, .ref h_text, .ref h_labellings, .ref h_input, .ref h_explorer, .ref h_arrays, .ref a_reach]))], [(h_system, .inr (3, [.int system_objects, .ref a_system_words, .int system_steps, .ref a_system_sources, .ref a_system_targets, .ref a_system_labels]))], [(a_system_labels, .inl (G 0, 32, .inl system_labels))], [(a_system_sources, .inl (G 0, 32, .inl system_sources))], [(a_system_targets, .inl (G 0, 32, .inl system_targets))]] (xQi D [[(h, .inr (10, [.ref h_order, .ref h_system, .ref h_rules, .ref h_savedOrder, .ref h_savedSystem, .ref h_savedRules, .int snapshotSaved, .ref h_peaks, .ref h_leftPaths, .ref h_rightPaths, .ref h_text, .ref h_labellings, .ref h_input, .ref h_explorer, .ref h_arrays, .ref a_reach]))], [(h_system, .inr (3, [.int system_objects, .ref a_system_words, .int system_steps, .ref a_system_sources, .ref a_system_targets, .ref a_system_labels]))], [(a_system_labels, .inl (G 0, 32, .inl system_labels))], [(a_system_sources, .inl (G 0, 32, .inl system_sources))], [(a_system_targets, .inl (G 0, 32, .inl system_targets))]] out) := by
  refine x_ent (cc := cX11_longestPath) (maxL := 2) (by decide) rfl (Nat.le_of_ble_eq_true rfl) ?_
  intro p e s m blw meth c aa ls args Q H locs hQ hx hb hr hml hown hts hlocks hE hN hl hP hS
  have hown : s.vm.findClass RX11 = some m.cls := hown
  have hl : lv_has ls 2 [(0, .ref h), (1, .int v1)] := hl
  refine lv_aload_n hx hb dX11_longestPath_0 rfl (lv_at hl 0 rfl) ?_
  refine x_get hx hb hts u_X11_longestPath_X11 hown hE hP 0 rfl rfl 1 (by decide) (hts (.fieldLink RX11 19 "DecreasingDiagrams" "system" "LDecreasingDiagrams$LabelledSystem;") (List.mem_of_getElem? (i := 1) rfl)) rfl dX11_longestPath_1 ?_
  refine lv_iload_n hx hb dX11_longestPath_4 rfl (lv_at hl 1 rfl) ?_
  obtain ⟨r_5, hr_5, hf⟩ := bd_some hf
  refine x_goi0 (ps := [1]) (x_runVN (As := [.int v1]) (rest := []) (ps := [1]) ⟨hx, hb, hml, hown, hts⟩ (k_X3_hasObject l D G fu h_system a_system_words a_system_sources a_system_targets a_system_labels system_objects system_steps v1 r_5 hr_5) ⟨va_cnB 1 hts gX11_longestPath_X3_hasObject_n128 rfl rfl rfl (hE.2 (.methodLinkNest RX11 128 yX3_hasObject RX11) (List.mem_of_getElem? (i := 61) rfl)) (hts (.initialized RX3) (List.mem_of_getElem? (i := 3) rfl)) (by decide +kernel) ⟨Nat.le_of_ble_eq_true rfl, Nat.le_of_ble_eq_true rfl⟩, (hts (.instanceMethod yX3_hasObject) (List.mem_of_getElem? (i := 2) rfl)), (hts (.selects RX3 yX3_hasObject yX3_hasObject) (List.mem_of_getElem? (i := 4) rfl))⟩ hE hP hN rfl (by decide) 1 rfl rfl rfl hl.1 (Nat.le_of_ble_eq_true rfl) dX11_longestPath_5 ⟨Nat.zero_le _, Nat.zero_le _⟩) hP hN hS rfl (fun H locs hP hS => ?_)
  refine lv_if_eq (tgt := 24) hx hb dX11_longestPath_8 (by decide) (fun c_8 => ?_) (fun c_8 => ?_)
  · have hf := it_pos c_8 hf
    refine lv_iconst (v := -1) hx hb dX11_longestPath_24 (by decide) ?_
    have hf := Option.some.inj hf
    rewrite [← hQ, ← hf]
    exact x_iret hx hb hr hlocks hP hS dX11_longestPath_25
  · have hf := it_neg c_8 hf
    refine lv_aload_n hx hb dX11_longestPath_11 rfl (lv_at hl 0 rfl) ?_
    refine x_get hx hb hts u_X11_longestPath_X11 hown hE hP 0 rfl rfl 1 (by decide) (hts (.fieldLink RX11 19 "DecreasingDiagrams" "system" "LDecreasingDiagrams$LabelledSystem;") (List.mem_of_getElem? (i := 1) rfl)) rfl dX11_longestPath_12 ?_
    refine lv_iconst (v := 1) hx hb dX11_longestPath_15 (by decide) ?_
    refine lv_iload_n hx hb dX11_longestPath_16 rfl (lv_at hl 1 rfl) ?_
    refine lv_ishl hx hb dX11_longestPath_17 ?_
    obtain ⟨r_18, hr_18, hf⟩ := bd_some hf
    refine x_goi0 (ps := [1, 2, 3, 4]) (x_runVN (As := [.int (1 <<< (v1 &&& 31))]) (rest := []) (ps := [1, 2, 3, 4]) ⟨hx, hb, hml, hown, hts⟩ (k_X3_longestFrom l D G fu h_system a_system_words a_system_sources a_system_targets a_system_labels system_objects system_steps system_labels system_sources system_targets (1 <<< (v1 &&& 31)) r_18 hr_18) ⟨va_cnB 1 hts gX11_longestPath_X3_longestFrom_n185 rfl rfl rfl (hE.2 (.methodLinkNest RX11 185 yX3_longestFrom RX11) (List.mem_of_getElem? (i := 71) rfl)) (hts (.initialized RX3) (List.mem_of_getElem? (i := 3) rfl)) (by decide +kernel) ⟨Nat.le_of_ble_eq_true rfl, Nat.le_of_ble_eq_true rfl⟩, (hts (.instanceMethod yX3_longestFrom) (List.mem_of_getElem? (i := 7) rfl)), (hts (.selects RX3 yX3_longestFrom yX3_longestFrom) (List.mem_of_getElem? (i := 8) rfl))⟩ hE hP hN rfl (by decide) 1 rfl rfl rfl hl.1 (Nat.le_of_ble_eq_true rfl) dX11_longestPath_18 ⟨Nat.zero_le _, Nat.zero_le _⟩) hP hN hS rfl (fun H locs hP hS => ?_)
    refine lv_goto (tgt := 25) hx hb dX11_longestPath_21 (by decide) ?_
    have hf := Option.some.inj hf
    rewrite [← hQ, ← hf]
    exact x_iret hx hb hr hlocks hP hS dX11_longestPath_25

set_option maxRecDepth 20000 in
theorem u_X5_renew_X5 : ∀ w ∈ wsX50, w ∈ wsX5_renew := xx_pl _ [7, 8] (by decide +kernel)
def f_X5_renew (fu : Nat) (sizes : (Nat → Int32)) (values : (Nat → Nat → Int64)) (v1 : Int32) (v2 : Int32) : Option ((Nat → Int32) × (Nat → Nat → Int64)) :=
  ck v1 3 (lt (upd sizes v1.toNatClampNeg v2) (fun sizes_6 => ck v1 3 ((f_J7_fill_d0a16 fu (values v1.toNatClampNeg) 16 0).bind (fun r_14 => some (sizes_6, va_up values v1.toNatClampNeg r_14)))))
set_option maxHeartbeats 4000000 in
set_option maxRecDepth 100000 in
theorem k_X5_renew (l : Launch) (D : va_G) (G : Nat → ClassId) (fu : Nat) (h : Nat) (a_sizes : Nat) (a_values : Nat) (r_values : Nat → Nat) (sizes : (Nat → Int32)) (values : (Nat → Nat → Int64))  (v1 : Int32) (v2 : Int32) (out : (Nat → Int32) × (Nat → Nat → Int64)) (hf : f_X5_renew fu sizes values v1 v2 = some out) : xMet l yX5_renew wsX5_renew (rM 1 24) D G [.ref h, .int v1, .int v2] [[(h, .inr (5, [.ref a_sizes, .ref a_values]))], [(a_sizes, .inl (G 0, 3, .inl sizes))], [gO (G 5) a_values r_values 3], gJ (G 1) r_values 3 16 values] (xQv D [[(h, .inr (5, [.ref a_sizes, .ref a_values]))], [(a_sizes, .inl (G 0, 3, .inl out.1))], [gO (G 5) a_values r_values 3], gJ (G 1) r_values 3 16 out.2]) := by
  refine x_ent (cc := cX5_renew) (maxL := 3) (by decide) rfl (Nat.le_of_ble_eq_true rfl) ?_
  intro p e s m blw meth c aa ls args Q H locs hQ hx hb hr hml hown hts hlocks hE hN hl hP hS
  have hown : s.vm.findClass RX5 = some m.cls := hown
  have hl : lv_has ls 3 [(0, .ref h), (1, .int v1), (2, .int v2)] := hl
  refine lv_aload_n hx hb dX5_renew_0 rfl (lv_at hl 0 rfl) ?_
  refine x_get hx hb hts u_X5_renew_X5 hown hE hP 0 rfl rfl 0 (by decide) (hts (.fieldLink RX5 9 "DecreasingDiagrams$LongArrays" "sizes" "[I") (List.mem_of_getElem? (i := 1) rfl)) rfl dX5_renew_1 ?_
  refine lv_iload_n hx hb dX5_renew_4 rfl (lv_at hl 1 rfl) ?_
  refine lv_iload_n hx hb dX5_renew_5 rfl (lv_at hl 2 rfl) ?_
  obtain ⟨hi, hf⟩ := ck_some hf
  obtain ⟨sizes_6, e_sizes_6, hf⟩ := lt_some hf
  refine x_iast (I' := [[(h, .inr (5, [.ref a_sizes, .ref a_values]))], [(a_sizes, .inl (G 0, 3, .inl sizes_6))], [gO (G 5) a_values r_values 3], gJ (G 1) r_values 3 16 values]) hx hb hE hP hN hS 1 rfl hi e_sizes_6 rfl dX5_renew_6 (fun H locs hP hS => ?_)
  refine lv_aload_n hx hb dX5_renew_7 rfl (lv_at hl 0 rfl) ?_
  refine x_get hx hb hts u_X5_renew_X5 hown hE hP 0 rfl rfl 1 (by decide) (hts (.fieldLink RX5 17 "DecreasingDiagrams$LongArrays" "values" "[[J") (List.mem_of_getElem? (i := 2) rfl)) rfl dX5_renew_8 ?_
  refine lv_iload_n hx hb dX5_renew_11 rfl (lv_at hl 1 rfl) ?_
  obtain ⟨hq_12, hf⟩ := ck_some hf
  refine x_aald hx hb hE hP 2 5 rfl rfl hq_12 dX5_renew_12 ?_
  refine lv_lconst (v := 0) hx hb dX5_renew_13 (by decide) ?_
  obtain ⟨r_14, hr_14, hf⟩ := bd_some hf
  obtain ⟨aa0, hP0, hN0, hS0, hb0, hc0⟩ := x_focJ 3 hP hN hS rfl hq_12
  have hP0 : xW D aa0 [[(h, .inr (5, [.ref a_sizes, .ref a_values]))], [(a_sizes, .inl (G 0, 3, .inl sizes_6))], [gO (G 5) a_values r_values 3], gJx (G 1) r_values 3 16 values v1.toNatClampNeg, [(r_values v1.toNatClampNeg, .inl (G 1, 16, .inr (.inl (values v1.toNatClampNeg))))]] H := hP0
  refine x_gov (ps := [4]) (qs := [0, 1, 2, 3]) (n := 5) (I' := [[(h, .inr (5, [.ref a_sizes, .ref a_values]))], [(a_sizes, .inl (G 0, 3, .inl sizes_6))], [gO (G 5) a_values r_values 3], gJx (G 1) r_values 3 16 values v1.toNatClampNeg, [(r_values v1.toNatClampNeg, .inl (G 1, 16, .inr (.inl r_14)))]]) (x_runS (As := [.ref (r_values v1.toNatClampNeg), .long 0]) (rest := []) (ps := [4]) ⟨hx, hb, hml, hown, hts⟩ (k_J7_fill_d0a16 l D G fu (r_values v1.toNatClampNeg) (values v1.toNatClampNeg) 16 0 r_14 hr_14) (va_cwS 2 hts gX5_renew_J7_fill_d0a16 rfl rfl rfl (by decide +kernel) ⟨Nat.le_of_ble_eq_true rfl, Nat.le_of_ble_eq_true rfl⟩) hE hP0 hN0 rfl (by decide) rfl hl.1 (Nat.le_of_ble_eq_true rfl) dX5_renew_14 ⟨Nat.zero_le _, Nat.zero_le _⟩) hP0 hN0 hS0 rfl rfl rfl rfl rfl (by decide) (fun H locs hP0 hS0 => ?_)
  obtain ⟨hP, hS⟩ := hb0 [[(h, .inr (5, [.ref a_sizes, .ref a_values]))], [(a_sizes, .inl (G 0, 3, .inl sizes_6))], [gO (G 5) a_values r_values 3], gJx (G 1) r_values 3 16 values v1.toNatClampNeg] r_14 H locs rfl hP0 hS0
  have hP : xW D aa [[(h, .inr (5, [.ref a_sizes, .ref a_values]))], [(a_sizes, .inl (G 0, 3, .inl sizes_6))], [gO (G 5) a_values r_values 3], gJ (G 1) r_values 3 16 (va_up values v1.toNatClampNeg r_14)] H := hP
  have hf := Option.some.inj hf
  rewrite [← hQ, ← hf]
  exact x_vret hx hb hr hlocks hP hS dX5_renew_17

set_option maxRecDepth 20000 in
theorem u_X11_newArray_X11 : ∀ w ∈ wsX110, w ∈ wsX11_newArray := xx_pl _ [16, 17, 18, 19, 20, 21, 22, 23, 24, 25, 26, 27, 28, 29, 30, 31] (by decide +kernel)
def f_X11_newArray (fu : Nat) (arrays_sizes : (Nat → Int32)) (arrays_values : (Nat → Nat → Int64)) (v1 : Int32) (v2 : Int32) : Option (Int32 × (Nat → Int32) × (Nat → Nat → Int64)) :=
  (f_X11_isArray v1).bind (fun r_1 => if r_1 = 0 then (some ((-1), arrays_sizes, arrays_values)) else (if v2 ≤ 16 then (if 0 ≤ v2 then ((f_X5_renew fu arrays_sizes arrays_values v1 v2).bind (fun r_28 => some (1, r_28.1, r_28.2))) else (some ((-14), arrays_sizes, arrays_values))) else (some ((-1), arrays_sizes, arrays_values))))
set_option maxHeartbeats 4000000 in
set_option maxRecDepth 100000 in
theorem k_X11_newArray (l : Launch) (D : va_G) (G : Nat → ClassId) (fu : Nat) (h : Nat) (h_order : Nat) (h_system : Nat) (h_rules : Nat) (h_savedOrder : Nat) (h_savedSystem : Nat) (h_savedRules : Nat) (h_peaks : Nat) (h_leftPaths : Nat) (h_rightPaths : Nat) (h_text : Nat) (h_labellings : Nat) (h_input : Nat) (h_explorer : Nat) (h_arrays : Nat) (a_reach : Nat) (a_arrays_sizes : Nat) (a_arrays_values : Nat) (r_arrays_values : Nat → Nat) (snapshotSaved : Int32) (arrays_sizes : (Nat → Int32)) (arrays_values : (Nat → Nat → Int64))  (v1 : Int32) (v2 : Int32) (out : Int32 × (Nat → Int32) × (Nat → Nat → Int64)) (hf : f_X11_newArray fu arrays_sizes arrays_values v1 v2 = some out) : xMet l yX11_newArray wsX11_newArray (rM 2 46) D G [.ref h, .int v1, .int v2] [[(h, .inr (10, [.ref h_order, .ref h_system, .ref h_rules, .ref h_savedOrder, .ref h_savedSystem, .ref h_savedRules, .int snapshotSaved, .ref h_peaks, .ref h_leftPaths, .ref h_rightPaths, .ref h_text, .ref h_labellings, .ref h_input, .ref h_explorer, .ref h_arrays, .ref a_reach]))], [(h_arrays, .inr (5, [.ref a_arrays_sizes, .ref a_arrays_values]))], [(a_arrays_sizes, .inl (G 0, 3, .inl arrays_sizes))], [gO (G 5) a_arrays_values r_arrays_values 3], gJ (G 1) r_arrays_values 3 16 arrays_values] (xQi D [[(h, .inr (10, [.ref h_order, .ref h_system, .ref h_rules, .ref h_savedOrder, .ref h_savedSystem, .ref h_savedRules, .int snapshotSaved, .ref h_peaks, .ref h_leftPaths, .ref h_rightPaths, .ref h_text, .ref h_labellings, .ref h_input, .ref h_explorer, .ref h_arrays, .ref a_reach]))], [(h_arrays, .inr (5, [.ref a_arrays_sizes, .ref a_arrays_values]))], [(a_arrays_sizes, .inl (G 0, 3, .inl out.2.1))], [gO (G 5) a_arrays_values r_arrays_values 3], gJ (G 1) r_arrays_values 3 16 out.2.2] out.1) := by
  refine x_ent (cc := cX11_newArray) (maxL := 3) (by decide) rfl (Nat.le_of_ble_eq_true rfl) ?_
  intro p e s m blw meth c aa ls args Q H locs hQ hx hb hr hml hown hts hlocks hE hN hl hP hS
  have hown : s.vm.findClass RX11 = some m.cls := hown
  have hl : lv_has ls 3 [(0, .ref h), (1, .int v1), (2, .int v2)] := hl
  refine lv_iload_n hx hb dX11_newArray_0 rfl (lv_at hl 1 rfl) ?_
  obtain ⟨r_1, hr_1, hf⟩ := bd_some hf
  refine x_goi0 (ps := []) (x_runS (As := [.int v1]) (rest := []) (ps := []) ⟨hx, hb, hml, hown, hts⟩ (k_X11_isArray l D G fu v1 r_1 hr_1) (va_cwS 1 hts gX11_newArray_X11_isArray rfl rfl rfl (by decide +kernel) ⟨Nat.le_of_ble_eq_true rfl, Nat.le_of_ble_eq_true rfl⟩) hE hP hN rfl (by decide) rfl hl.1 (Nat.le_of_ble_eq_true rfl) dX11_newArray_1 ⟨Nat.zero_le _, Nat.zero_le _⟩) hP hN hS rfl (fun H locs hP hS => ?_)
  refine lv_if_eq (tgt := 13) hx hb dX11_newArray_4 (by decide) (fun c_4 => ?_) (fun c_4 => ?_)
  · have hf := it_pos c_4 hf
    refine lv_iconst (v := -1) hx hb dX11_newArray_13 (by decide) ?_
    have hf := Option.some.inj hf
    rewrite [← hQ, ← hf]
    exact x_iret hx hb hr hlocks hP hS dX11_newArray_14
  · have hf := it_neg c_4 hf
    refine lv_iload_n hx hb dX11_newArray_7 rfl (lv_at hl 2 rfl) ?_
    refine lv_bipush (v := 16) hx hb dX11_newArray_8 (by decide) ?_
    refine lv_icmp_le (tgt := 15) hx hb dX11_newArray_10 (by decide) (fun c_10 => ?_) (fun c_10 => ?_)
    · have hf := it_pos c_10 hf
      refine lv_iload_n hx hb dX11_newArray_15 rfl (lv_at hl 2 rfl) ?_
      refine lv_if_ge (tgt := 22) hx hb dX11_newArray_16 (by decide) (fun c_16 => ?_) (fun c_16 => ?_)
      · have hf := it_pos c_16 hf
        refine lv_aload_n hx hb dX11_newArray_22 rfl (lv_at hl 0 rfl) ?_
        refine x_get hx hb hts u_X11_newArray_X11 hown hE hP 0 rfl rfl 14 (by decide) (hts (.fieldLink RX11 91 "DecreasingDiagrams" "arrays" "LDecreasingDiagrams$LongArrays;") (List.mem_of_getElem? (i := 1) rfl)) rfl dX11_newArray_23 ?_
        refine lv_iload_n hx hb dX11_newArray_26 rfl (lv_at hl 1 rfl) ?_
        refine lv_iload_n hx hb dX11_newArray_27 rfl (lv_at hl 2 rfl) ?_
        obtain ⟨r_28, hr_28, hf⟩ := bd_some hf
        refine x_gov (ps := [1, 2, 3, 4]) (qs := [0]) (n := 5) (I' := [[(h, .inr (10, [.ref h_order, .ref h_system, .ref h_rules, .ref h_savedOrder, .ref h_savedSystem, .ref h_savedRules, .int snapshotSaved, .ref h_peaks, .ref h_leftPaths, .ref h_rightPaths, .ref h_text, .ref h_labellings, .ref h_input, .ref h_explorer, .ref h_arrays, .ref a_reach]))], [(h_arrays, .inr (5, [.ref a_arrays_sizes, .ref a_arrays_values]))], [(a_arrays_sizes, .inl (G 0, 3, .inl r_28.1))], [gO (G 5) a_arrays_values r_arrays_values 3], gJ (G 1) r_arrays_values 3 16 r_28.2]) (x_runVN (As := [.int v1, .int v2]) (rest := []) (ps := [1, 2, 3, 4]) ⟨hx, hb, hml, hown, hts⟩ (k_X5_renew l D G fu h_arrays a_arrays_sizes a_arrays_values r_arrays_values arrays_sizes arrays_values v1 v2 r_28 hr_28) ⟨va_cnB 2 hts gX11_newArray_X5_renew_n318 rfl rfl rfl (hE.2 (.methodLinkNest RX11 318 yX5_renew RX11) (List.mem_of_getElem? (i := 110) rfl)) (hts (.initialized RX5) (List.mem_of_getElem? (i := 7) rfl)) (by decide +kernel) ⟨Nat.le_of_ble_eq_true rfl, Nat.le_of_ble_eq_true rfl⟩, (hts (.instanceMethod yX5_renew) (List.mem_of_getElem? (i := 6) rfl)), (hts (.selects RX5 yX5_renew yX5_renew) (List.mem_of_getElem? (i := 8) rfl))⟩ hE hP hN rfl (by decide) 1 rfl rfl rfl hl.1 (Nat.le_of_ble_eq_true rfl) dX11_newArray_28 ⟨Nat.zero_le _, Nat.zero_le _⟩) hP hN hS rfl rfl rfl rfl rfl (by decide) (fun H locs hP hS => ?_)
        refine lv_iconst (v := 1) hx hb dX11_newArray_31 (by decide) ?_
        have hf := Option.some.inj hf
        rewrite [← hQ, ← hf]
        exact x_iret hx hb hr hlocks hP hS dX11_newArray_32
      · have hf := it_neg c_16 hf
        refine lv_bipush (v := -14) hx hb dX11_newArray_19 (by decide) ?_
        have hf := Option.some.inj hf
        rewrite [← hQ, ← hf]
        exact x_iret hx hb hr hlocks hP hS dX11_newArray_21
    · have hf := it_neg c_10 hf
      refine lv_iconst (v := -1) hx hb dX11_newArray_13 (by decide) ?_
      have hf := Option.some.inj hf
      rewrite [← hQ, ← hf]
      exact x_iret hx hb hr hlocks hP hS dX11_newArray_14

set_option maxRecDepth 20000 in
theorem u_X3_normalForms_X3 : ∀ w ∈ wsX30, w ∈ wsX3_normalForms := xx_pl _ [4, 5, 6, 7, 8, 9] (by decide +kernel)
def f_X3_normalForms_L11 (steps : Int32) (sources : (Nat → Int32)) (rec_11 : Int32 → Int32 → Option (Int32)) (v1 : Int32) (v2 : Int32) : Option (Int32) :=
  if steps ≤ v2 then (some v1) else (ck v2 32 (lt (v1 &&& ((1 <<< ((sources v2.toNatClampNeg) &&& 31)) ^^^ (-1))) (fun v1_31 => lt (v2 + 1) (fun v2_32 => rec_11 v1_31 v2_32))))
def f_X3_normalForms (fu : Nat) (objects : Int32) (steps : Int32) (sources : (Nat → Int32)) : Option (Int32) :=
  lt ((1 <<< (objects &&& 31)) - 1) (fun v1_8 => lt (0 : Int32) (fun v2_10 => lp (τ := Int32 → Int32 → Option (Int32)) (fun _ _ => none) (f_X3_normalForms_L11 steps sources) fu v1_8 v2_10))
set_option maxHeartbeats 4000000 in
set_option maxRecDepth 100000 in
theorem k_X3_normalForms (l : Launch) (D : va_G) (G : Nat → ClassId) (fu : Nat) (h : Nat) (a_words : Nat) (a_sources : Nat) (a_targets : Nat) (a_labels : Nat) (objects : Int32) (steps : Int32) (sources : (Nat → Int32))   (out : Int32) (hf : f_X3_normalForms fu objects steps sources = some out) : xMet l yX3_normalForms wsX3_normalForms (rM 0 0) D G [.ref h] [[(h, .inr (3, [.int objects, .ref a_words, .int steps, .ref a_sources, .ref a_targets, .ref a_labels]))], [(a_sources, .inl (G 0, 32, .inl sources))]] (xQi D [[(h, .inr (3, [.int objects, .ref a_words, .int steps, .ref a_sources, .ref a_targets, .ref a_labels]))], [(a_sources, .inl (G 0, 32, .inl sources))]] out) := by
  refine x_ent (cc := cX3_normalForms) (maxL := 3) (by decide) rfl (Nat.le_of_ble_eq_true rfl) ?_
  intro p e s m blw meth c aa ls args Q H locs hQ hx hb hr hml hown hts hlocks hE hN hl hP hS
  have hown : s.vm.findClass RX3 = some m.cls := hown
  have hl : lv_has ls 3 [(0, .ref h)] := hl
  have L11 : ∀ (n_11 : Nat) (v1 : Int32) (v2 : Int32) (H : Heap) (locs : List Loc) (ls : Array Slot), xW D aa [[(h, .inr (3, [.int objects, .ref a_words, .int steps, .ref a_sources, .ref a_targets, .ref a_labels]))], [(a_sources, .inl (G 0, 32, .inl sources))]] H → va_S (xA aa) s.heap H locs → lv_has ls 3 [(0, .ref h), (1, .int v1), (2, .int v2)] → lp (τ := Int32 → Int32 → Option (Int32)) (fun _ _ => none) (f_X3_normalForms_L11 steps sources) n_11 v1 v2 = some out → W p l e (rM 0 0) s m args blw meth c H locs 0 0 Q (F0 m 11 ls []) := by
    intro    n_11
    induction n_11 with
    | zero =>
      intro v1 v2 H locs ls hP hS hl hf
      exact no_some hf
    | succ n_11 ih_11 =>
      intro v1 v2 H locs ls hP hS hl hf
      have hf : f_X3_normalForms_L11 steps sources (lp (τ := Int32 → Int32 → Option (Int32)) (fun _ _ => none) (f_X3_normalForms_L11 steps sources) n_11) v1 v2 = some out := hf
      refine lv_iload_n hx hb dX3_normalForms_11 rfl (lv_at hl 2 rfl) ?_
      refine lv_aload_n hx hb dX3_normalForms_12 rfl (lv_at hl 0 rfl) ?_
      refine x_get hx hb hts u_X3_normalForms_X3 hown hE hP 0 rfl rfl 2 (by decide) (hts (.fieldLink RX3 19 "DecreasingDiagrams$LabelledSystem" "steps" "I") (List.mem_of_getElem? (i := 2) rfl)) rfl dX3_normalForms_13 ?_
      refine lv_icmp_ge (tgt := 38) hx hb dX3_normalForms_16 (by decide) (fun c_16 => ?_) (fun c_16 => ?_)
      · have hf := it_pos c_16 hf
        refine lv_iload_n hx hb dX3_normalForms_38 rfl (lv_at hl 1 rfl) ?_
        have hf := Option.some.inj hf
        rewrite [← hQ, ← hf]
        exact x_iret hx hb hr hlocks hP hS dX3_normalForms_39
      · have hf := it_neg c_16 hf
        refine lv_iload_n hx hb dX3_normalForms_19 rfl (lv_at hl 1 rfl) ?_
        refine lv_iconst (v := 1) hx hb dX3_normalForms_20 (by decide) ?_
        refine lv_aload_n hx hb dX3_normalForms_21 rfl (lv_at hl 0 rfl) ?_
        refine x_get hx hb hts u_X3_normalForms_X3 hown hE hP 0 rfl rfl 3 (by decide) (hts (.fieldLink RX3 22 "DecreasingDiagrams$LabelledSystem" "sources" "[I") (List.mem_of_getElem? (i := 3) rfl)) rfl dX3_normalForms_22 ?_
        refine lv_iload_n hx hb dX3_normalForms_25 rfl (lv_at hl 2 rfl) ?_
        obtain ⟨hi, hf⟩ := ck_some hf
        refine x_iald hx hb hE hP 1 rfl hi dX3_normalForms_26 ?_
        refine lv_ishl hx hb dX3_normalForms_27 ?_
        refine lv_iconst (v := -1) hx hb dX3_normalForms_28 (by decide) ?_
        refine lv_ixor hx hb dX3_normalForms_29 ?_
        refine lv_iand hx hb dX3_normalForms_30 ?_
        obtain ⟨v1_31, e_v1_31, hf⟩ := lt_some hf
        refine x_istore_n (v := v1_31) (lv' := [(1, .int v1_31), (0, .ref h), (2, .int v2)]) hx hb dX3_normalForms_31 e_v1_31 rfl hl (by decide) rfl (fun ls hl => ?_)
        obtain ⟨v2_32, e_v2_32, hf⟩ := lt_some hf
        refine lv_iinc (v := v2_32) (lv' := [(2, .int v2_32), (1, .int v1_31), (0, .ref h)]) hx hb dX3_normalForms_32 hl (k := 2) rfl (by rw [e_v2_32]; rfl) (by decide) rfl (fun ls hl => ?_)
        refine lv_goto (tgt := 11) hx hb dX3_normalForms_35 (by decide) ?_
        exact ih_11 v1_31 v2_32 H locs ls hP hS (lv_sub hl [2, 1, 0] rfl) hf
  refine lv_iconst (v := 1) hx hb dX3_normalForms_0 (by decide) ?_
  refine lv_aload_n hx hb dX3_normalForms_1 rfl (lv_at hl 0 rfl) ?_
  refine x_get hx hb hts u_X3_normalForms_X3 hown hE hP 0 rfl rfl 0 (by decide) (hts (.fieldLink RX3 9 "DecreasingDiagrams$LabelledSystem" "objects" "I") (List.mem_of_getElem? (i := 1) rfl)) rfl dX3_normalForms_2 ?_
  refine lv_ishl hx hb dX3_normalForms_5 ?_
  refine lv_iconst (v := 1) hx hb dX3_normalForms_6 (by decide) ?_
  refine lv_isub hx hb dX3_normalForms_7 ?_
  obtain ⟨v1_8, e_v1_8, hf⟩ := lt_some hf
  refine x_istore_n (v := v1_8) (lv' := [(1, .int v1_8), (0, .ref h)]) hx hb dX3_normalForms_8 e_v1_8 rfl hl (by decide) rfl (fun ls hl => ?_)
  refine lv_iconst (v := 0) hx hb dX3_normalForms_9 (by decide) ?_
  obtain ⟨v2_10, e_v2_10, hf⟩ := lt_some hf
  refine x_istore_n (v := v2_10) (lv' := [(2, .int v2_10), (1, .int v1_8), (0, .ref h)]) hx hb dX3_normalForms_10 e_v2_10 rfl hl (by decide) rfl (fun ls hl => ?_)
  exact L11    fu v1_8 v2_10 H locs ls hP hS (lv_sub hl [2, 1, 0] rfl) hf

set_option maxRecDepth 20000 in
theorem u_X11_normalForm_X11 : ∀ w ∈ wsX110, w ∈ wsX11_normalForm := xx_pl _ [32, 33, 34, 35, 36, 37, 38, 39, 40, 41, 42, 43, 44, 45, 46, 47] (by decide +kernel)
def f_X11_normalForm (fu : Nat) (system_objects : Int32) (system_steps : Int32) (system_labels : (Nat → Int32)) (system_sources : (Nat → Int32)) (system_targets : (Nat → Int32)) (v1 : Int32) : Option (Int32) :=
  (f_X3_hasObject system_objects v1).bind (fun r_5 => if ¬ r_5 = 0 then ((f_X3_closure fu system_objects system_steps system_labels system_sources system_targets (1 <<< (v1 &&& 31)) 255).bind (fun r_23 => (f_X3_normalForms fu system_objects system_steps system_sources).bind (fun r_30 => lt (r_23 &&& r_30) (fun v2_34 => if ¬ v2_34 = 0 then ((f_J6_bitCount_0f7a4 v2_34).bind (fun r_43 => if r_43 ≤ 1 then ((f_X11_lowestMember v2_34).bind (fun r_56 => some r_56)) else (some (-7)))) else (some (-2)))))) else (some (-1)))
set_option maxHeartbeats 4000000 in
set_option maxRecDepth 100000 in
theorem k_X11_normalForm (l : Launch) (D : va_G) (G : Nat → ClassId) (fu : Nat) (h : Nat) (h_order : Nat) (h_system : Nat) (h_rules : Nat) (h_savedOrder : Nat) (h_savedSystem : Nat) (h_savedRules : Nat) (h_peaks : Nat) (h_leftPaths : Nat) (h_rightPaths : Nat) (h_text : Nat) (h_labellings : Nat) (h_input : Nat) (h_explorer : Nat) (h_arrays : Nat) (a_reach : Nat) (a_system_words : Nat) (a_system_sources : Nat) (a_system_targets : Nat) (a_system_labels : Nat) (snapshotSaved : Int32) (system_objects : Int32) (system_steps : Int32) (system_labels : (Nat → Int32)) (system_sources : (Nat → Int32)) (system_targets : (Nat → Int32))  (v1 : Int32) (out : Int32) (hf : f_X11_normalForm fu system_objects system_steps system_labels system_sources system_targets v1 = some out) : xMet l yX11_normalForm wsX11_normalForm (rM 2 49) D G [.ref h, .int v1] [[(h, .inr (10, [.ref h_order, .ref h_system, .ref h_rules, .ref h_savedOrder, .ref h_savedSystem, .ref h_savedRules, .int snapshotSaved, .ref h_peaks, .ref h_leftPaths, .ref h_rightPaths, .ref h_text, .ref h_labellings, .ref h_input, .ref h_explorer, .ref h_arrays, .ref a_reach]))], [(h_system, .inr (3, [.int system_objects, .ref a_system_words, .int system_steps, .ref a_system_sources, .ref a_system_targets, .ref a_system_labels]))], [(a_system_labels, .inl (G 0, 32, .inl system_labels))], [(a_system_sources, .inl (G 0, 32, .inl system_sources))], [(a_system_targets, .inl (G 0, 32, .inl system_targets))]] (xQi D [[(h, .inr (10, [.ref h_order, .ref h_system, .ref h_rules, .ref h_savedOrder, .ref h_savedSystem, .ref h_savedRules, .int snapshotSaved, .ref h_peaks, .ref h_leftPaths, .ref h_rightPaths, .ref h_text, .ref h_labellings, .ref h_input, .ref h_explorer, .ref h_arrays, .ref a_reach]))], [(h_system, .inr (3, [.int system_objects, .ref a_system_words, .int system_steps, .ref a_system_sources, .ref a_system_targets, .ref a_system_labels]))], [(a_system_labels, .inl (G 0, 32, .inl system_labels))], [(a_system_sources, .inl (G 0, 32, .inl system_sources))], [(a_system_targets, .inl (G 0, 32, .inl system_targets))]] out) := by
  refine x_ent (cc := cX11_normalForm) (maxL := 3) (by decide) rfl (Nat.le_of_ble_eq_true rfl) ?_
  intro p e s m blw meth c aa ls args Q H locs hQ hx hb hr hml hown hts hlocks hE hN hl hP hS
  have hown : s.vm.findClass RX11 = some m.cls := hown
  have hl : lv_has ls 3 [(0, .ref h), (1, .int v1)] := hl
  refine lv_aload_n hx hb dX11_normalForm_0 rfl (lv_at hl 0 rfl) ?_
  refine x_get hx hb hts u_X11_normalForm_X11 hown hE hP 0 rfl rfl 1 (by decide) (hts (.fieldLink RX11 19 "DecreasingDiagrams" "system" "LDecreasingDiagrams$LabelledSystem;") (List.mem_of_getElem? (i := 1) rfl)) rfl dX11_normalForm_1 ?_
  refine lv_iload_n hx hb dX11_normalForm_4 rfl (lv_at hl 1 rfl) ?_
  obtain ⟨r_5, hr_5, hf⟩ := bd_some hf
  refine x_goi0 (ps := [1]) (x_runVN (As := [.int v1]) (rest := []) (ps := [1]) ⟨hx, hb, hml, hown, hts⟩ (k_X3_hasObject l D G fu h_system a_system_words a_system_sources a_system_targets a_system_labels system_objects system_steps v1 r_5 hr_5) ⟨va_cnB 1 hts gX11_normalForm_X3_hasObject_n128 rfl rfl rfl (hE.2 (.methodLinkNest RX11 128 yX3_hasObject RX11) (List.mem_of_getElem? (i := 61) rfl)) (hts (.initialized RX3) (List.mem_of_getElem? (i := 3) rfl)) (by decide +kernel) ⟨Nat.le_of_ble_eq_true rfl, Nat.le_of_ble_eq_true rfl⟩, (hts (.instanceMethod yX3_hasObject) (List.mem_of_getElem? (i := 2) rfl)), (hts (.selects RX3 yX3_hasObject yX3_hasObject) (List.mem_of_getElem? (i := 4) rfl))⟩ hE hP hN rfl (by decide) 1 rfl rfl rfl hl.1 (Nat.le_of_ble_eq_true rfl) dX11_normalForm_5 ⟨Nat.zero_le _, Nat.zero_le _⟩) hP hN hS rfl (fun H locs hP hS => ?_)
  refine lv_if_ne (tgt := 13) hx hb dX11_normalForm_8 (by decide) (fun c_8 => ?_) (fun c_8 => ?_)
  · have hf := it_pos c_8 hf
    refine lv_aload_n hx hb dX11_normalForm_13 rfl (lv_at hl 0 rfl) ?_
    refine x_get hx hb hts u_X11_normalForm_X11 hown hE hP 0 rfl rfl 1 (by decide) (hts (.fieldLink RX11 19 "DecreasingDiagrams" "system" "LDecreasingDiagrams$LabelledSystem;") (List.mem_of_getElem? (i := 1) rfl)) rfl dX11_normalForm_14 ?_
    refine lv_iconst (v := 1) hx hb dX11_normalForm_17 (by decide) ?_
    refine lv_iload_n hx hb dX11_normalForm_18 rfl (lv_at hl 1 rfl) ?_
    refine lv_ishl hx hb dX11_normalForm_19 ?_
    refine lv_sipush (v := 255) hx hb dX11_normalForm_20 (by decide) ?_
    obtain ⟨r_23, hr_23, hf⟩ := bd_some hf
    refine x_goi0 (ps := [1, 2, 3, 4]) (x_runVN (As := [.int (1 <<< (v1 &&& 31)), .int 255]) (rest := []) (ps := [1, 2, 3, 4]) ⟨hx, hb, hml, hown, hts⟩ (k_X3_closure l D G fu h_system a_system_words a_system_sources a_system_targets a_system_labels system_objects system_steps system_labels system_sources system_targets (1 <<< (v1 &&& 31)) 255 r_23 hr_23) ⟨va_cnB 2 hts gX11_normalForm_X3_closure_n168 rfl rfl rfl (hE.2 (.methodLinkNest RX11 168 yX3_closure RX11) (List.mem_of_getElem? (i := 67) rfl)) (hts (.initialized RX3) (List.mem_of_getElem? (i := 3) rfl)) (by decide +kernel) ⟨Nat.le_of_ble_eq_true rfl, Nat.le_of_ble_eq_true rfl⟩, (hts (.instanceMethod yX3_closure) (List.mem_of_getElem? (i := 7) rfl)), (hts (.selects RX3 yX3_closure yX3_closure) (List.mem_of_getElem? (i := 8) rfl))⟩ hE hP hN rfl (by decide) 1 rfl rfl rfl hl.1 (Nat.le_of_ble_eq_true rfl) dX11_normalForm_23 ⟨Nat.zero_le _, Nat.zero_le _⟩) hP hN hS rfl (fun H locs hP hS => ?_)
    refine lv_aload_n hx hb dX11_normalForm_26 rfl (lv_at hl 0 rfl) ?_
    refine x_get hx hb hts u_X11_normalForm_X11 hown hE hP 0 rfl rfl 1 (by decide) (hts (.fieldLink RX11 19 "DecreasingDiagrams" "system" "LDecreasingDiagrams$LabelledSystem;") (List.mem_of_getElem? (i := 1) rfl)) rfl dX11_normalForm_27 ?_
    obtain ⟨r_30, hr_30, hf⟩ := bd_some hf
    refine x_goi0 (ps := [1, 3]) (x_runVN (As := []) (rest := [.int r_23]) (ps := [1, 3]) ⟨hx, hb, hml, hown, hts⟩ (k_X3_normalForms l D G fu h_system a_system_words a_system_sources a_system_targets a_system_labels system_objects system_steps system_sources r_30 hr_30) ⟨va_cnB 0 hts gX11_normalForm_X3_normalForms_n171 rfl rfl rfl (hE.2 (.methodLinkNest RX11 171 yX3_normalForms RX11) (List.mem_of_getElem? (i := 68) rfl)) (hts (.initialized RX3) (List.mem_of_getElem? (i := 3) rfl)) (by decide +kernel) ⟨Nat.le_of_ble_eq_true rfl, Nat.le_of_ble_eq_true rfl⟩, (hts (.instanceMethod yX3_normalForms) (List.mem_of_getElem? (i := 18) rfl)), (hts (.selects RX3 yX3_normalForms yX3_normalForms) (List.mem_of_getElem? (i := 19) rfl))⟩ hE hP hN rfl (by decide) 1 rfl rfl rfl hl.1 (Nat.le_of_ble_eq_true rfl) dX11_normalForm_30 ⟨Nat.zero_le _, Nat.zero_le _⟩) hP hN hS rfl (fun H locs hP hS => ?_)
    refine lv_iand hx hb dX11_normalForm_33 ?_
    obtain ⟨v2_34, e_v2_34, hf⟩ := lt_some hf
    refine x_istore_n (v := v2_34) (lv' := [(2, .int v2_34), (0, .ref h), (1, .int v1)]) hx hb dX11_normalForm_34 e_v2_34 rfl hl (by decide) rfl (fun ls hl => ?_)
    refine lv_iload_n hx hb dX11_normalForm_35 rfl (lv_at hl 0 rfl) ?_
    refine lv_if_ne (tgt := 42) hx hb dX11_normalForm_36 (by decide) (fun c_36 => ?_) (fun c_36 => ?_)
    · have hf := it_pos c_36 hf
      refine lv_iload_n hx hb dX11_normalForm_42 rfl (lv_at hl 0 rfl) ?_
      obtain ⟨r_43, hr_43, hf⟩ := bd_some hf
      refine x_goi0 (ps := []) (x_runS (As := [.int v2_34]) (rest := []) (ps := []) ⟨hx, hb, hml, hown, hts⟩ (k_J6_bitCount_0f7a4 l D G fu v2_34 r_43 hr_43) (va_cwS 1 hts gX11_normalForm_J6_bitCount_0f7a4 rfl rfl rfl (by decide +kernel) ⟨Nat.le_of_ble_eq_true rfl, Nat.le_of_ble_eq_true rfl⟩) hE hP hN rfl (by decide) rfl hl.1 (Nat.le_of_ble_eq_true rfl) dX11_normalForm_43 ⟨Nat.zero_le _, Nat.zero_le _⟩) hP hN hS rfl (fun H locs hP hS => ?_)
      refine lv_iconst (v := 1) hx hb dX11_normalForm_46 (by decide) ?_
      refine lv_icmp_le (tgt := 55) hx hb dX11_normalForm_47 (by decide) (fun c_47 => ?_) (fun c_47 => ?_)
      · have hf := it_pos c_47 hf
        refine lv_iload_n hx hb dX11_normalForm_55 rfl (lv_at hl 0 rfl) ?_
        obtain ⟨r_56, hr_56, hf⟩ := bd_some hf
        refine x_goi0 (ps := []) (x_runS (As := [.int v2_34]) (rest := []) (ps := []) ⟨hx, hb, hml, hown, hts⟩ (k_X11_lowestMember l D G fu v2_34 r_56 hr_56) (va_cwS 1 hts gX11_normalForm_X11_lowestMember rfl rfl rfl (by decide +kernel) ⟨Nat.le_of_ble_eq_true rfl, Nat.le_of_ble_eq_true rfl⟩) hE hP hN rfl (by decide) rfl hl.1 (Nat.le_of_ble_eq_true rfl) dX11_normalForm_56 ⟨Nat.zero_le _, Nat.zero_le _⟩) hP hN hS rfl (fun H locs hP hS => ?_)
        have hf := Option.some.inj hf
        rewrite [← hQ, ← hf]
        exact x_iret hx hb hr hlocks hP hS dX11_normalForm_59
      · have hf := it_neg c_47 hf
        refine lv_bipush (v := -7) hx hb dX11_normalForm_50 (by decide) ?_
        refine lv_goto (tgt := 59) hx hb dX11_normalForm_52 (by decide) ?_
        have hf := Option.some.inj hf
        rewrite [← hQ, ← hf]
        exact x_iret hx hb hr hlocks hP hS dX11_normalForm_59
    · have hf := it_neg (fun h => h c_36) hf
      refine lv_bipush (v := -2) hx hb dX11_normalForm_39 (by decide) ?_
      have hf := Option.some.inj hf
      rewrite [← hQ, ← hf]
      exact x_iret hx hb hr hlocks hP hS dX11_normalForm_41
  · have hf := it_neg (fun h => h c_8) hf
    refine lv_iconst (v := -1) hx hb dX11_normalForm_11 (by decide) ?_
    have hf := Option.some.inj hf
    rewrite [← hQ, ← hf]
    exact x_iret hx hb hr hlocks hP hS dX11_normalForm_12

set_option maxRecDepth 20000 in
theorem u_X11_objectCount_X11 : ∀ w ∈ wsX110, w ∈ wsX11_objectCount := xx_pl _ [2, 3, 4, 5, 6, 7, 8, 9, 10, 11, 12, 13, 14, 15, 16, 17] (by decide +kernel)
set_option maxRecDepth 20000 in
theorem u_X11_objectCount_X3 : ∀ w ∈ wsX30, w ∈ wsX11_objectCount := xx_pl _ [18, 19, 20, 21, 22, 23] (by decide +kernel)
def f_X11_objectCount (system_objects : Int32) : Option (Int32) :=
  some system_objects
set_option maxHeartbeats 4000000 in
set_option maxRecDepth 100000 in
theorem k_X11_objectCount (l : Launch) (D : va_G) (G : Nat → ClassId) (fu : Nat) (h : Nat) (h_order : Nat) (h_system : Nat) (h_rules : Nat) (h_savedOrder : Nat) (h_savedSystem : Nat) (h_savedRules : Nat) (h_peaks : Nat) (h_leftPaths : Nat) (h_rightPaths : Nat) (h_text : Nat) (h_labellings : Nat) (h_input : Nat) (h_explorer : Nat) (h_arrays : Nat) (a_reach : Nat) (a_system_words : Nat) (a_system_sources : Nat) (a_system_targets : Nat) (a_system_labels : Nat) (snapshotSaved : Int32) (system_objects : Int32) (system_steps : Int32)   (out : Int32) (hf : f_X11_objectCount system_objects = some out) : xMet l yX11_objectCount wsX11_objectCount (rM 0 0) D G [.ref h] [[(h, .inr (10, [.ref h_order, .ref h_system, .ref h_rules, .ref h_savedOrder, .ref h_savedSystem, .ref h_savedRules, .int snapshotSaved, .ref h_peaks, .ref h_leftPaths, .ref h_rightPaths, .ref h_text, .ref h_labellings, .ref h_input, .ref h_explorer, .ref h_arrays, .ref a_reach]))], [(h_system, .inr (3, [.int system_objects, .ref a_system_words, .int system_steps, .ref a_system_sources, .ref a_system_targets, .ref a_system_labels]))]] (xQi D [[(h, .inr (10, [.ref h_order, .ref h_system, .ref h_rules, .ref h_savedOrder, .ref h_savedSystem, .ref h_savedRules, .int snapshotSaved, .ref h_peaks, .ref h_leftPaths, .ref h_rightPaths, .ref h_text, .ref h_labellings, .ref h_input, .ref h_explorer, .ref h_arrays, .ref a_reach]))], [(h_system, .inr (3, [.int system_objects, .ref a_system_words, .int system_steps, .ref a_system_sources, .ref a_system_targets, .ref a_system_labels]))]] out) := by
  refine x_ent (cc := cX11_objectCount) (maxL := 1) (by decide) rfl (Nat.le_of_ble_eq_true rfl) ?_
  intro p e s m blw meth c aa ls args Q H locs hQ hx hb hr hml hown hts hlocks hE hN hl hP hS
  have hown : s.vm.findClass RX11 = some m.cls := hown
  have hl : lv_has ls 1 [(0, .ref h)] := hl
  refine lv_aload_n hx hb dX11_objectCount_0 rfl (lv_at hl 0 rfl) ?_
  refine x_get hx hb hts u_X11_objectCount_X11 hown hE hP 0 rfl rfl 1 (by decide) (hts (.fieldLink RX11 19 "DecreasingDiagrams" "system" "LDecreasingDiagrams$LabelledSystem;") (List.mem_of_getElem? (i := 1) rfl)) rfl dX11_objectCount_1 ?_
  refine x_getN hx hb hts u_X11_objectCount_X3 hown hE hP 1 rfl rfl 0 (by decide) (hE.2 (.fieldLinkNest RX11 149 "DecreasingDiagrams$LabelledSystem" "objects" "I" RX11) (List.mem_of_getElem? (i := 5) rfl)) rfl dX11_objectCount_4 ?_
  have hf := Option.some.inj hf
  rewrite [← hQ, ← hf]
  exact x_iret hx hb hr hlocks hP hS dX11_objectCount_7

set_option maxRecDepth 20000 in
theorem u_X11_output_X11 : ∀ w ∈ wsX110, w ∈ wsX11_output := xx_pl _ [2, 3, 4, 5, 6, 7, 8, 9, 10, 11, 12, 13, 14, 15, 16, 17] (by decide +kernel)
set_option maxRecDepth 20000 in
theorem u_X11_output_X6 : ∀ w ∈ wsX60, w ∈ wsX11_output := xx_pl _ [18, 19] (by decide +kernel)
def f_X11_output (text_length : Int32) (text_signs : (Nat → Int32)) (v1 : Int32) : Option (Int32) :=
  if v1 < 0 then (some (-2)) else (if text_length ≤ v1 then (some (-2)) else (ck v1 202 (some (text_signs v1.toNatClampNeg))))
set_option maxHeartbeats 4000000 in
set_option maxRecDepth 100000 in
theorem k_X11_output (l : Launch) (D : va_G) (G : Nat → ClassId) (fu : Nat) (h : Nat) (h_order : Nat) (h_system : Nat) (h_rules : Nat) (h_savedOrder : Nat) (h_savedSystem : Nat) (h_savedRules : Nat) (h_peaks : Nat) (h_leftPaths : Nat) (h_rightPaths : Nat) (h_text : Nat) (h_labellings : Nat) (h_input : Nat) (h_explorer : Nat) (h_arrays : Nat) (a_reach : Nat) (a_text_signs : Nat) (snapshotSaved : Int32) (text_length : Int32) (text_signs : (Nat → Int32))  (v1 : Int32) (out : Int32) (hf : f_X11_output text_length text_signs v1 = some out) : xMet l yX11_output wsX11_output (rM 0 0) D G [.ref h, .int v1] [[(h, .inr (10, [.ref h_order, .ref h_system, .ref h_rules, .ref h_savedOrder, .ref h_savedSystem, .ref h_savedRules, .int snapshotSaved, .ref h_peaks, .ref h_leftPaths, .ref h_rightPaths, .ref h_text, .ref h_labellings, .ref h_input, .ref h_explorer, .ref h_arrays, .ref a_reach]))], [(h_text, .inr (6, [.int text_length, .ref a_text_signs]))], [(a_text_signs, .inl (G 3, 202, .inl text_signs))]] (xQi D [[(h, .inr (10, [.ref h_order, .ref h_system, .ref h_rules, .ref h_savedOrder, .ref h_savedSystem, .ref h_savedRules, .int snapshotSaved, .ref h_peaks, .ref h_leftPaths, .ref h_rightPaths, .ref h_text, .ref h_labellings, .ref h_input, .ref h_explorer, .ref h_arrays, .ref a_reach]))], [(h_text, .inr (6, [.int text_length, .ref a_text_signs]))], [(a_text_signs, .inl (G 3, 202, .inl text_signs))]] out) := by
  refine x_ent (cc := cX11_output) (maxL := 2) (by decide) rfl (Nat.le_of_ble_eq_true rfl) ?_
  intro p e s m blw meth c aa ls args Q H locs hQ hx hb hr hml hown hts hlocks hE hN hl hP hS
  have hown : s.vm.findClass RX11 = some m.cls := hown
  have hl : lv_has ls 2 [(0, .ref h), (1, .int v1)] := hl
  refine lv_iload_n hx hb dX11_output_0 rfl (lv_at hl 1 rfl) ?_
  refine lv_if_lt (tgt := 27) hx hb dX11_output_1 (by decide) (fun c_1 => ?_) (fun c_1 => ?_)
  · have hf := it_pos c_1 hf
    refine lv_bipush (v := -2) hx hb dX11_output_27 (by decide) ?_
    have hf := Option.some.inj hf
    rewrite [← hQ, ← hf]
    exact x_iret hx hb hr hlocks hP hS dX11_output_29
  · have hf := it_neg c_1 hf
    refine lv_iload_n hx hb dX11_output_4 rfl (lv_at hl 1 rfl) ?_
    refine lv_aload_n hx hb dX11_output_5 rfl (lv_at hl 0 rfl) ?_
    refine x_get hx hb hts u_X11_output_X11 hown hE hP 0 rfl rfl 10 (by decide) (hts (.fieldLink RX11 63 "DecreasingDiagrams" "text" "LDecreasingDiagrams$OutputText;") (List.mem_of_getElem? (i := 1) rfl)) rfl dX11_output_6 ?_
    refine x_getN hx hb hts u_X11_output_X6 hown hE hP 1 rfl rfl 0 (by decide) (hE.2 (.fieldLinkNest RX11 247 "DecreasingDiagrams$OutputText" "length" "I" RX11) (List.mem_of_getElem? (i := 33) rfl)) rfl dX11_output_9 ?_
    refine lv_icmp_ge (tgt := 27) hx hb dX11_output_12 (by decide) (fun c_12 => ?_) (fun c_12 => ?_)
    · have hf := it_pos c_12 hf
      refine lv_bipush (v := -2) hx hb dX11_output_27 (by decide) ?_
      have hf := Option.some.inj hf
      rewrite [← hQ, ← hf]
      exact x_iret hx hb hr hlocks hP hS dX11_output_29
    · have hf := it_neg c_12 hf
      refine lv_aload_n hx hb dX11_output_15 rfl (lv_at hl 0 rfl) ?_
      refine x_get hx hb hts u_X11_output_X11 hown hE hP 0 rfl rfl 10 (by decide) (hts (.fieldLink RX11 63 "DecreasingDiagrams" "text" "LDecreasingDiagrams$OutputText;") (List.mem_of_getElem? (i := 1) rfl)) rfl dX11_output_16 ?_
      refine x_getN hx hb hts u_X11_output_X6 hown hE hP 1 rfl rfl 1 (by decide) (hE.2 (.fieldLinkNest RX11 250 "DecreasingDiagrams$OutputText" "signs" "[C" RX11) (List.mem_of_getElem? (i := 34) rfl)) rfl dX11_output_19 ?_
      refine lv_iload_n hx hb dX11_output_22 rfl (lv_at hl 1 rfl) ?_
      obtain ⟨hi, hf⟩ := ck_some hf
      refine x_cald hx hb hE hP 2 rfl hi dX11_output_23 ?_
      refine lv_goto (tgt := 29) hx hb dX11_output_24 (by decide) ?_
      have hf := Option.some.inj hf
      rewrite [← hQ, ← hf]
      exact x_iret hx hb hr hlocks hP hS dX11_output_29

set_option maxRecDepth 20000 in
theorem u_X11_peakCount_X11 : ∀ w ∈ wsX110, w ∈ wsX11_peakCount := xx_pl _ [10, 11, 12, 13, 14, 15, 16, 17, 18, 19, 20, 21, 22, 23, 24, 25] (by decide +kernel)
set_option maxRecDepth 20000 in
theorem u_X11_peakCount_X7 : ∀ w ∈ wsX70, w ∈ wsX11_peakCount := xx_pl _ [26, 27, 28] (by decide +kernel)
def f_X11_peakCount (fu : Nat) (system_steps : Int32) (peaks_firsts : (Nat → Int32)) (peaks_seconds : (Nat → Int32)) (system_sources : (Nat → Int32)) : Option (Int32 × Int32 × (Nat → Int32) × (Nat → Int32)) :=
  (f_X7_collect fu system_steps system_sources peaks_firsts peaks_seconds).bind (fun r_8 => some (r_8.1, r_8.1, r_8.2.1, r_8.2.2))
set_option maxHeartbeats 4000000 in
set_option maxRecDepth 100000 in
theorem k_X11_peakCount (l : Launch) (D : va_G) (G : Nat → ClassId) (fu : Nat) (h : Nat) (h_order : Nat) (h_system : Nat) (h_rules : Nat) (h_savedOrder : Nat) (h_savedSystem : Nat) (h_savedRules : Nat) (h_peaks : Nat) (h_leftPaths : Nat) (h_rightPaths : Nat) (h_text : Nat) (h_labellings : Nat) (h_input : Nat) (h_explorer : Nat) (h_arrays : Nat) (a_reach : Nat) (a_peaks_firsts : Nat) (a_peaks_seconds : Nat) (a_system_words : Nat) (a_system_sources : Nat) (a_system_targets : Nat) (a_system_labels : Nat) (snapshotSaved : Int32) (peaks_count : Int32) (system_objects : Int32) (system_steps : Int32) (peaks_firsts : (Nat → Int32)) (peaks_seconds : (Nat → Int32)) (system_sources : (Nat → Int32))   (out : Int32 × Int32 × (Nat → Int32) × (Nat → Int32)) (hf : f_X11_peakCount fu system_steps peaks_firsts peaks_seconds system_sources = some out) : xMet l yX11_peakCount wsX11_peakCount (rM 1 23) D G [.ref h] [[(h, .inr (10, [.ref h_order, .ref h_system, .ref h_rules, .ref h_savedOrder, .ref h_savedSystem, .ref h_savedRules, .int snapshotSaved, .ref h_peaks, .ref h_leftPaths, .ref h_rightPaths, .ref h_text, .ref h_labellings, .ref h_input, .ref h_explorer, .ref h_arrays, .ref a_reach]))], [(h_peaks, .inr (7, [.int peaks_count, .ref a_peaks_firsts, .ref a_peaks_seconds]))], [(a_peaks_firsts, .inl (G 0, 496, .inl peaks_firsts))], [(a_peaks_seconds, .inl (G 0, 496, .inl peaks_seconds))], [(h_system, .inr (3, [.int system_objects, .ref a_system_words, .int system_steps, .ref a_system_sources, .ref a_system_targets, .ref a_system_labels]))], [(a_system_sources, .inl (G 0, 32, .inl system_sources))]] (xQi D [[(h, .inr (10, [.ref h_order, .ref h_system, .ref h_rules, .ref h_savedOrder, .ref h_savedSystem, .ref h_savedRules, .int snapshotSaved, .ref h_peaks, .ref h_leftPaths, .ref h_rightPaths, .ref h_text, .ref h_labellings, .ref h_input, .ref h_explorer, .ref h_arrays, .ref a_reach]))], [(h_peaks, .inr (7, [.int out.2.1, .ref a_peaks_firsts, .ref a_peaks_seconds]))], [(a_peaks_firsts, .inl (G 0, 496, .inl out.2.2.1))], [(a_peaks_seconds, .inl (G 0, 496, .inl out.2.2.2))], [(h_system, .inr (3, [.int system_objects, .ref a_system_words, .int system_steps, .ref a_system_sources, .ref a_system_targets, .ref a_system_labels]))], [(a_system_sources, .inl (G 0, 32, .inl system_sources))]] out.1) := by
  refine x_ent (cc := cX11_peakCount) (maxL := 1) (by decide) rfl (Nat.le_of_ble_eq_true rfl) ?_
  intro p e s m blw meth c aa ls args Q H locs hQ hx hb hr hml hown hts hlocks hE hN hl hP hS
  have hown : s.vm.findClass RX11 = some m.cls := hown
  have hl : lv_has ls 1 [(0, .ref h)] := hl
  refine lv_aload_n hx hb dX11_peakCount_0 rfl (lv_at hl 0 rfl) ?_
  refine x_get hx hb hts u_X11_peakCount_X11 hown hE hP 0 rfl rfl 7 (by decide) (hts (.fieldLink RX11 46 "DecreasingDiagrams" "peaks" "LDecreasingDiagrams$Peaks;") (List.mem_of_getElem? (i := 1) rfl)) rfl dX11_peakCount_1 ?_
  refine lv_aload_n hx hb dX11_peakCount_4 rfl (lv_at hl 0 rfl) ?_
  refine x_get hx hb hts u_X11_peakCount_X11 hown hE hP 0 rfl rfl 1 (by decide) (hts (.fieldLink RX11 19 "DecreasingDiagrams" "system" "LDecreasingDiagrams$LabelledSystem;") (List.mem_of_getElem? (i := 2) rfl)) rfl dX11_peakCount_5 ?_
  obtain ⟨r_8, hr_8, hf⟩ := bd_some hf
  refine x_gov (ps := [4, 5, 1, 2, 3]) (qs := [0]) (n := 6) (I' := [[(h, .inr (10, [.ref h_order, .ref h_system, .ref h_rules, .ref h_savedOrder, .ref h_savedSystem, .ref h_savedRules, .int snapshotSaved, .ref h_peaks, .ref h_leftPaths, .ref h_rightPaths, .ref h_text, .ref h_labellings, .ref h_input, .ref h_explorer, .ref h_arrays, .ref a_reach]))], [(h_peaks, .inr (7, [.int r_8.1, .ref a_peaks_firsts, .ref a_peaks_seconds]))], [(a_peaks_firsts, .inl (G 0, 496, .inl r_8.2.1))], [(a_peaks_seconds, .inl (G 0, 496, .inl r_8.2.2))], [(h_system, .inr (3, [.int system_objects, .ref a_system_words, .int system_steps, .ref a_system_sources, .ref a_system_targets, .ref a_system_labels]))], [(a_system_sources, .inl (G 0, 32, .inl system_sources))]]) (x_runVN (As := [.ref h_system]) (rest := []) (ps := [4, 5, 1, 2, 3]) ⟨hx, hb, hml, hown, hts⟩ (k_X7_collect l D G fu h_peaks h_system a_system_words a_system_sources a_system_targets a_system_labels a_peaks_firsts a_peaks_seconds system_objects system_steps peaks_count system_sources peaks_firsts peaks_seconds r_8 hr_8) ⟨va_cnB 1 hts gX11_peakCount_X7_collect_n195 rfl rfl rfl (hE.2 (.methodLinkNest RX11 195 yX7_collect RX11) (List.mem_of_getElem? (i := 73) rfl)) (hts (.initialized RX7) (List.mem_of_getElem? (i := 4) rfl)) (by decide +kernel) ⟨Nat.le_of_ble_eq_true rfl, Nat.le_of_ble_eq_true rfl⟩, (hts (.instanceMethod yX7_collect) (List.mem_of_getElem? (i := 3) rfl)), (hts (.selects RX7 yX7_collect yX7_collect) (List.mem_of_getElem? (i := 5) rfl))⟩ hE hP hN rfl (by decide) 1 rfl rfl rfl hl.1 (Nat.le_of_ble_eq_true rfl) dX11_peakCount_8 ⟨Nat.zero_le _, Nat.zero_le _⟩) hP hN hS rfl rfl rfl rfl rfl (by decide) (fun H locs hP hS => ?_)
  refine lv_aload_n hx hb dX11_peakCount_11 rfl (lv_at hl 0 rfl) ?_
  refine x_get hx hb hts u_X11_peakCount_X11 hown hE hP 0 rfl rfl 7 (by decide) (hts (.fieldLink RX11 46 "DecreasingDiagrams" "peaks" "LDecreasingDiagrams$Peaks;") (List.mem_of_getElem? (i := 1) rfl)) rfl dX11_peakCount_12 ?_
  refine x_getN hx hb hts u_X11_peakCount_X7 hown hE hP 1 rfl rfl 0 (by decide) (hE.2 (.fieldLinkNest RX11 199 "DecreasingDiagrams$Peaks" "count" "I" RX11) (List.mem_of_getElem? (i := 28) rfl)) rfl dX11_peakCount_15 ?_
  have hf := Option.some.inj hf
  rewrite [← hQ, ← hf]
  exact x_iret hx hb hr hlocks hP hS dX11_peakCount_18

set_option maxRecDepth 20000 in
theorem u_X11_peakStep_X11 : ∀ w ∈ wsX110, w ∈ wsX11_peakStep := xx_pl _ [17, 18, 19, 20, 21, 22, 23, 24, 25, 26, 27, 28, 29, 30, 31, 32] (by decide +kernel)
set_option maxRecDepth 20000 in
theorem u_X11_peakStep_X7 : ∀ w ∈ wsX70, w ∈ wsX11_peakStep := xx_pl _ [33, 34, 35] (by decide +kernel)
def f_X11_peakStep (fu : Nat) (system_steps : Int32) (peaks_firsts : (Nat → Int32)) (peaks_seconds : (Nat → Int32)) (system_sources : (Nat → Int32)) (v1 : Int32) (v2 : Int32) : Option (Int32 × Int32 × (Nat → Int32) × (Nat → Int32)) :=
  (f_X7_collect fu system_steps system_sources peaks_firsts peaks_seconds).bind (fun r_8 => (f_X7_has r_8.1 v1).bind (fun r_16 => if r_16 = 0 then (some ((-1), r_8.1, r_8.2.1, r_8.2.2)) else ((f_X11_isSide v2).bind (fun r_23 => if ¬ r_23 = 0 then (if ¬ v2 = 0 then (ck v1 496 (some (r_8.2.2 v1.toNatClampNeg, r_8.1, r_8.2.1, r_8.2.2))) else (ck v1 496 (some (r_8.2.1 v1.toNatClampNeg, r_8.1, r_8.2.1, r_8.2.2)))) else (some ((-1), r_8.1, r_8.2.1, r_8.2.2))))))
set_option maxHeartbeats 4000000 in
set_option maxRecDepth 100000 in
theorem k_X11_peakStep (l : Launch) (D : va_G) (G : Nat → ClassId) (fu : Nat) (h : Nat) (h_order : Nat) (h_system : Nat) (h_rules : Nat) (h_savedOrder : Nat) (h_savedSystem : Nat) (h_savedRules : Nat) (h_peaks : Nat) (h_leftPaths : Nat) (h_rightPaths : Nat) (h_text : Nat) (h_labellings : Nat) (h_input : Nat) (h_explorer : Nat) (h_arrays : Nat) (a_reach : Nat) (a_peaks_firsts : Nat) (a_peaks_seconds : Nat) (a_system_words : Nat) (a_system_sources : Nat) (a_system_targets : Nat) (a_system_labels : Nat) (snapshotSaved : Int32) (peaks_count : Int32) (system_objects : Int32) (system_steps : Int32) (peaks_firsts : (Nat → Int32)) (peaks_seconds : (Nat → Int32)) (system_sources : (Nat → Int32))  (v1 : Int32) (v2 : Int32) (out : Int32 × Int32 × (Nat → Int32) × (Nat → Int32)) (hf : f_X11_peakStep fu system_steps peaks_firsts peaks_seconds system_sources v1 v2 = some out) : xMet l yX11_peakStep wsX11_peakStep (rM 1 23) D G [.ref h, .int v1, .int v2] [[(h, .inr (10, [.ref h_order, .ref h_system, .ref h_rules, .ref h_savedOrder, .ref h_savedSystem, .ref h_savedRules, .int snapshotSaved, .ref h_peaks, .ref h_leftPaths, .ref h_rightPaths, .ref h_text, .ref h_labellings, .ref h_input, .ref h_explorer, .ref h_arrays, .ref a_reach]))], [(h_peaks, .inr (7, [.int peaks_count, .ref a_peaks_firsts, .ref a_peaks_seconds]))], [(a_peaks_firsts, .inl (G 0, 496, .inl peaks_firsts))], [(a_peaks_seconds, .inl (G 0, 496, .inl peaks_seconds))], [(h_system, .inr (3, [.int system_objects, .ref a_system_words, .int system_steps, .ref a_system_sources, .ref a_system_targets, .ref a_system_labels]))], [(a_system_sources, .inl (G 0, 32, .inl system_sources))]] (xQi D [[(h, .inr (10, [.ref h_order, .ref h_system, .ref h_rules, .ref h_savedOrder, .ref h_savedSystem, .ref h_savedRules, .int snapshotSaved, .ref h_peaks, .ref h_leftPaths, .ref h_rightPaths, .ref h_text, .ref h_labellings, .ref h_input, .ref h_explorer, .ref h_arrays, .ref a_reach]))], [(h_peaks, .inr (7, [.int out.2.1, .ref a_peaks_firsts, .ref a_peaks_seconds]))], [(a_peaks_firsts, .inl (G 0, 496, .inl out.2.2.1))], [(a_peaks_seconds, .inl (G 0, 496, .inl out.2.2.2))], [(h_system, .inr (3, [.int system_objects, .ref a_system_words, .int system_steps, .ref a_system_sources, .ref a_system_targets, .ref a_system_labels]))], [(a_system_sources, .inl (G 0, 32, .inl system_sources))]] out.1) := by
  refine x_ent (cc := cX11_peakStep) (maxL := 3) (by decide) rfl (Nat.le_of_ble_eq_true rfl) ?_
  intro p e s m blw meth c aa ls args Q H locs hQ hx hb hr hml hown hts hlocks hE hN hl hP hS
  have hown : s.vm.findClass RX11 = some m.cls := hown
  have hl : lv_has ls 3 [(0, .ref h), (1, .int v1), (2, .int v2)] := hl
  refine lv_aload_n hx hb dX11_peakStep_0 rfl (lv_at hl 0 rfl) ?_
  refine x_get hx hb hts u_X11_peakStep_X11 hown hE hP 0 rfl rfl 7 (by decide) (hts (.fieldLink RX11 46 "DecreasingDiagrams" "peaks" "LDecreasingDiagrams$Peaks;") (List.mem_of_getElem? (i := 1) rfl)) rfl dX11_peakStep_1 ?_
  refine lv_aload_n hx hb dX11_peakStep_4 rfl (lv_at hl 0 rfl) ?_
  refine x_get hx hb hts u_X11_peakStep_X11 hown hE hP 0 rfl rfl 1 (by decide) (hts (.fieldLink RX11 19 "DecreasingDiagrams" "system" "LDecreasingDiagrams$LabelledSystem;") (List.mem_of_getElem? (i := 2) rfl)) rfl dX11_peakStep_5 ?_
  obtain ⟨r_8, hr_8, hf⟩ := bd_some hf
  refine x_gov (ps := [4, 5, 1, 2, 3]) (qs := [0]) (n := 6) (I' := [[(h, .inr (10, [.ref h_order, .ref h_system, .ref h_rules, .ref h_savedOrder, .ref h_savedSystem, .ref h_savedRules, .int snapshotSaved, .ref h_peaks, .ref h_leftPaths, .ref h_rightPaths, .ref h_text, .ref h_labellings, .ref h_input, .ref h_explorer, .ref h_arrays, .ref a_reach]))], [(h_peaks, .inr (7, [.int r_8.1, .ref a_peaks_firsts, .ref a_peaks_seconds]))], [(a_peaks_firsts, .inl (G 0, 496, .inl r_8.2.1))], [(a_peaks_seconds, .inl (G 0, 496, .inl r_8.2.2))], [(h_system, .inr (3, [.int system_objects, .ref a_system_words, .int system_steps, .ref a_system_sources, .ref a_system_targets, .ref a_system_labels]))], [(a_system_sources, .inl (G 0, 32, .inl system_sources))]]) (x_runVN (As := [.ref h_system]) (rest := []) (ps := [4, 5, 1, 2, 3]) ⟨hx, hb, hml, hown, hts⟩ (k_X7_collect l D G fu h_peaks h_system a_system_words a_system_sources a_system_targets a_system_labels a_peaks_firsts a_peaks_seconds system_objects system_steps peaks_count system_sources peaks_firsts peaks_seconds r_8 hr_8) ⟨va_cnB 1 hts gX11_peakStep_X7_collect_n195 rfl rfl rfl (hE.2 (.methodLinkNest RX11 195 yX7_collect RX11) (List.mem_of_getElem? (i := 73) rfl)) (hts (.initialized RX7) (List.mem_of_getElem? (i := 4) rfl)) (by decide +kernel) ⟨Nat.le_of_ble_eq_true rfl, Nat.le_of_ble_eq_true rfl⟩, (hts (.instanceMethod yX7_collect) (List.mem_of_getElem? (i := 3) rfl)), (hts (.selects RX7 yX7_collect yX7_collect) (List.mem_of_getElem? (i := 5) rfl))⟩ hE hP hN rfl (by decide) 1 rfl rfl rfl hl.1 (Nat.le_of_ble_eq_true rfl) dX11_peakStep_8 ⟨Nat.zero_le _, Nat.zero_le _⟩) hP hN hS rfl rfl rfl rfl rfl (by decide) (fun H locs hP hS => ?_)
  refine lv_aload_n hx hb dX11_peakStep_11 rfl (lv_at hl 0 rfl) ?_
  refine x_get hx hb hts u_X11_peakStep_X11 hown hE hP 0 rfl rfl 7 (by decide) (hts (.fieldLink RX11 46 "DecreasingDiagrams" "peaks" "LDecreasingDiagrams$Peaks;") (List.mem_of_getElem? (i := 1) rfl)) rfl dX11_peakStep_12 ?_
  refine lv_iload_n hx hb dX11_peakStep_15 rfl (lv_at hl 1 rfl) ?_
  obtain ⟨r_16, hr_16, hf⟩ := bd_some hf
  refine x_goi0 (ps := [1]) (x_runVN (As := [.int v1]) (rest := []) (ps := [1]) ⟨hx, hb, hml, hown, hts⟩ (k_X7_has l D G fu h_peaks a_peaks_firsts a_peaks_seconds r_8.1 v1 r_16 hr_16) ⟨va_cnB 1 hts gX11_peakStep_X7_has_n208 rfl rfl rfl (hE.2 (.methodLinkNest RX11 208 yX7_has RX11) (List.mem_of_getElem? (i := 74) rfl)) (hts (.initialized RX7) (List.mem_of_getElem? (i := 4) rfl)) (by decide +kernel) ⟨Nat.le_of_ble_eq_true rfl, Nat.le_of_ble_eq_true rfl⟩, (hts (.instanceMethod yX7_has) (List.mem_of_getElem? (i := 10) rfl)), (hts (.selects RX7 yX7_has yX7_has) (List.mem_of_getElem? (i := 11) rfl))⟩ hE hP hN rfl (by decide) 1 rfl rfl rfl hl.1 (Nat.le_of_ble_eq_true rfl) dX11_peakStep_16 ⟨Nat.zero_le _, Nat.zero_le _⟩) hP hN hS rfl (fun H locs hP hS => ?_)
  refine lv_if_eq (tgt := 29) hx hb dX11_peakStep_19 (by decide) (fun c_19 => ?_) (fun c_19 => ?_)
  · have hf := it_pos c_19 hf
    refine lv_iconst (v := -1) hx hb dX11_peakStep_29 (by decide) ?_
    have hf := Option.some.inj hf
    rewrite [← hQ, ← hf]
    exact x_iret hx hb hr hlocks hP hS dX11_peakStep_30
  · have hf := it_neg c_19 hf
    refine lv_iload_n hx hb dX11_peakStep_22 rfl (lv_at hl 2 rfl) ?_
    obtain ⟨r_23, hr_23, hf⟩ := bd_some hf
    refine x_goi0 (ps := []) (x_runS (As := [.int v2]) (rest := []) (ps := []) ⟨hx, hb, hml, hown, hts⟩ (k_X11_isSide l D G fu v2 r_23 hr_23) (va_cwS 1 hts gX11_peakStep_X11_isSide rfl rfl rfl (by decide +kernel) ⟨Nat.le_of_ble_eq_true rfl, Nat.le_of_ble_eq_true rfl⟩) hE hP hN rfl (by decide) rfl hl.1 (Nat.le_of_ble_eq_true rfl) dX11_peakStep_23 ⟨Nat.zero_le _, Nat.zero_le _⟩) hP hN hS rfl (fun H locs hP hS => ?_)
    refine lv_if_ne (tgt := 31) hx hb dX11_peakStep_26 (by decide) (fun c_26 => ?_) (fun c_26 => ?_)
    · have hf := it_pos c_26 hf
      refine lv_iload_n hx hb dX11_peakStep_31 rfl (lv_at hl 2 rfl) ?_
      refine lv_if_ne (tgt := 47) hx hb dX11_peakStep_32 (by decide) (fun c_32 => ?_) (fun c_32 => ?_)
      · have hf := it_pos c_32 hf
        refine lv_aload_n hx hb dX11_peakStep_47 rfl (lv_at hl 0 rfl) ?_
        refine x_get hx hb hts u_X11_peakStep_X11 hown hE hP 0 rfl rfl 7 (by decide) (hts (.fieldLink RX11 46 "DecreasingDiagrams" "peaks" "LDecreasingDiagrams$Peaks;") (List.mem_of_getElem? (i := 1) rfl)) rfl dX11_peakStep_48 ?_
        refine x_getN hx hb hts u_X11_peakStep_X7 hown hE hP 1 rfl rfl 2 (by decide) (hE.2 (.fieldLinkNest RX11 205 "DecreasingDiagrams$Peaks" "seconds" "[I" RX11) (List.mem_of_getElem? (i := 30) rfl)) rfl dX11_peakStep_51 ?_
        refine lv_iload_n hx hb dX11_peakStep_54 rfl (lv_at hl 1 rfl) ?_
        obtain ⟨hi, hf⟩ := ck_some hf
        refine x_iald hx hb hE hP 3 rfl hi dX11_peakStep_55 ?_
        have hf := Option.some.inj hf
        rewrite [← hQ, ← hf]
        exact x_iret hx hb hr hlocks hP hS dX11_peakStep_56
      · have hf := it_neg (fun h => h c_32) hf
        refine lv_aload_n hx hb dX11_peakStep_35 rfl (lv_at hl 0 rfl) ?_
        refine x_get hx hb hts u_X11_peakStep_X11 hown hE hP 0 rfl rfl 7 (by decide) (hts (.fieldLink RX11 46 "DecreasingDiagrams" "peaks" "LDecreasingDiagrams$Peaks;") (List.mem_of_getElem? (i := 1) rfl)) rfl dX11_peakStep_36 ?_
        refine x_getN hx hb hts u_X11_peakStep_X7 hown hE hP 1 rfl rfl 1 (by decide) (hE.2 (.fieldLinkNest RX11 202 "DecreasingDiagrams$Peaks" "firsts" "[I" RX11) (List.mem_of_getElem? (i := 29) rfl)) rfl dX11_peakStep_39 ?_
        refine lv_iload_n hx hb dX11_peakStep_42 rfl (lv_at hl 1 rfl) ?_
        obtain ⟨hi, hf⟩ := ck_some hf
        refine x_iald hx hb hE hP 2 rfl hi dX11_peakStep_43 ?_
        refine lv_goto (tgt := 56) hx hb dX11_peakStep_44 (by decide) ?_
        have hf := Option.some.inj hf
        rewrite [← hQ, ← hf]
        exact x_iret hx hb hr hlocks hP hS dX11_peakStep_56
    · have hf := it_neg (fun h => h c_26) hf
      refine lv_iconst (v := -1) hx hb dX11_peakStep_29 (by decide) ?_
      have hf := Option.some.inj hf
      rewrite [← hQ, ← hf]
      exact x_iret hx hb hr hlocks hP hS dX11_peakStep_30

set_option maxRecDepth 20000 in
theorem u_X11_reachable_X11 : ∀ w ∈ wsX110, w ∈ wsX11_reachable := xx_pl _ [18, 19, 20, 21, 22, 23, 24, 25, 26, 27, 28, 29, 30, 31, 32, 33] (by decide +kernel)
def f_X11_reachable (fu : Nat) (system_objects : Int32) (system_steps : Int32) (system_labels : (Nat → Int32)) (system_sources : (Nat → Int32)) (system_targets : (Nat → Int32)) (v1 : Int32) : Option (Int32) :=
  (f_X3_hasObject system_objects v1).bind (fun r_5 => if r_5 = 0 then (some (-1)) else ((f_X3_closure fu system_objects system_steps system_labels system_sources system_targets (1 <<< (v1 &&& 31)) 255).bind (fun r_21 => some r_21)))
set_option maxHeartbeats 4000000 in
set_option maxRecDepth 100000 in
theorem k_X11_reachable (l : Launch) (D : va_G) (G : Nat → ClassId) (fu : Nat) (h : Nat) (h_order : Nat) (h_system : Nat) (h_rules : Nat) (h_savedOrder : Nat) (h_savedSystem : Nat) (h_savedRules : Nat) (h_peaks : Nat) (h_leftPaths : Nat) (h_rightPaths : Nat) (h_text : Nat) (h_labellings : Nat) (h_input : Nat) (h_explorer : Nat) (h_arrays : Nat) (a_reach : Nat) (a_system_words : Nat) (a_system_sources : Nat) (a_system_targets : Nat) (a_system_labels : Nat) (snapshotSaved : Int32) (system_objects : Int32) (system_steps : Int32) (system_labels : (Nat → Int32)) (system_sources : (Nat → Int32)) (system_targets : (Nat → Int32))  (v1 : Int32) (out : Int32) (hf : f_X11_reachable fu system_objects system_steps system_labels system_sources system_targets v1 = some out) : xMet l yX11_reachable wsX11_reachable (rM 2 49) D G [.ref h, .int v1] [[(h, .inr (10, [.ref h_order, .ref h_system, .ref h_rules, .ref h_savedOrder, .ref h_savedSystem, .ref h_savedRules, .int snapshotSaved, .ref h_peaks, .ref h_leftPaths, .ref h_rightPaths, .ref h_text, .ref h_labellings, .ref h_input, .ref h_explorer, .ref h_arrays, .ref a_reach]))], [(h_system, .inr (3, [.int system_objects, .ref a_system_words, .int system_steps, .ref a_system_sources, .ref a_system_targets, .ref a_system_labels]))], [(a_system_labels, .inl (G 0, 32, .inl system_labels))], [(a_system_sources, .inl (G 0, 32, .inl system_sources))], [(a_system_targets, .inl (G 0, 32, .inl system_targets))]] (xQi D [[(h, .inr (10, [.ref h_order, .ref h_system, .ref h_rules, .ref h_savedOrder, .ref h_savedSystem, .ref h_savedRules, .int snapshotSaved, .ref h_peaks, .ref h_leftPaths, .ref h_rightPaths, .ref h_text, .ref h_labellings, .ref h_input, .ref h_explorer, .ref h_arrays, .ref a_reach]))], [(h_system, .inr (3, [.int system_objects, .ref a_system_words, .int system_steps, .ref a_system_sources, .ref a_system_targets, .ref a_system_labels]))], [(a_system_labels, .inl (G 0, 32, .inl system_labels))], [(a_system_sources, .inl (G 0, 32, .inl system_sources))], [(a_system_targets, .inl (G 0, 32, .inl system_targets))]] out) := by
  refine x_ent (cc := cX11_reachable) (maxL := 2) (by decide) rfl (Nat.le_of_ble_eq_true rfl) ?_
  intro p e s m blw meth c aa ls args Q H locs hQ hx hb hr hml hown hts hlocks hE hN hl hP hS
  have hown : s.vm.findClass RX11 = some m.cls := hown
  have hl : lv_has ls 2 [(0, .ref h), (1, .int v1)] := hl
  refine lv_aload_n hx hb dX11_reachable_0 rfl (lv_at hl 0 rfl) ?_
  refine x_get hx hb hts u_X11_reachable_X11 hown hE hP 0 rfl rfl 1 (by decide) (hts (.fieldLink RX11 19 "DecreasingDiagrams" "system" "LDecreasingDiagrams$LabelledSystem;") (List.mem_of_getElem? (i := 1) rfl)) rfl dX11_reachable_1 ?_
  refine lv_iload_n hx hb dX11_reachable_4 rfl (lv_at hl 1 rfl) ?_
  obtain ⟨r_5, hr_5, hf⟩ := bd_some hf
  refine x_goi0 (ps := [1]) (x_runVN (As := [.int v1]) (rest := []) (ps := [1]) ⟨hx, hb, hml, hown, hts⟩ (k_X3_hasObject l D G fu h_system a_system_words a_system_sources a_system_targets a_system_labels system_objects system_steps v1 r_5 hr_5) ⟨va_cnB 1 hts gX11_reachable_X3_hasObject_n128 rfl rfl rfl (hE.2 (.methodLinkNest RX11 128 yX3_hasObject RX11) (List.mem_of_getElem? (i := 61) rfl)) (hts (.initialized RX3) (List.mem_of_getElem? (i := 3) rfl)) (by decide +kernel) ⟨Nat.le_of_ble_eq_true rfl, Nat.le_of_ble_eq_true rfl⟩, (hts (.instanceMethod yX3_hasObject) (List.mem_of_getElem? (i := 2) rfl)), (hts (.selects RX3 yX3_hasObject yX3_hasObject) (List.mem_of_getElem? (i := 4) rfl))⟩ hE hP hN rfl (by decide) 1 rfl rfl rfl hl.1 (Nat.le_of_ble_eq_true rfl) dX11_reachable_5 ⟨Nat.zero_le _, Nat.zero_le _⟩) hP hN hS rfl (fun H locs hP hS => ?_)
  refine lv_if_eq (tgt := 27) hx hb dX11_reachable_8 (by decide) (fun c_8 => ?_) (fun c_8 => ?_)
  · have hf := it_pos c_8 hf
    refine lv_iconst (v := -1) hx hb dX11_reachable_27 (by decide) ?_
    have hf := Option.some.inj hf
    rewrite [← hQ, ← hf]
    exact x_iret hx hb hr hlocks hP hS dX11_reachable_28
  · have hf := it_neg c_8 hf
    refine lv_aload_n hx hb dX11_reachable_11 rfl (lv_at hl 0 rfl) ?_
    refine x_get hx hb hts u_X11_reachable_X11 hown hE hP 0 rfl rfl 1 (by decide) (hts (.fieldLink RX11 19 "DecreasingDiagrams" "system" "LDecreasingDiagrams$LabelledSystem;") (List.mem_of_getElem? (i := 1) rfl)) rfl dX11_reachable_12 ?_
    refine lv_iconst (v := 1) hx hb dX11_reachable_15 (by decide) ?_
    refine lv_iload_n hx hb dX11_reachable_16 rfl (lv_at hl 1 rfl) ?_
    refine lv_ishl hx hb dX11_reachable_17 ?_
    refine lv_sipush (v := 255) hx hb dX11_reachable_18 (by decide) ?_
    obtain ⟨r_21, hr_21, hf⟩ := bd_some hf
    refine x_goi0 (ps := [1, 2, 3, 4]) (x_runVN (As := [.int (1 <<< (v1 &&& 31)), .int 255]) (rest := []) (ps := [1, 2, 3, 4]) ⟨hx, hb, hml, hown, hts⟩ (k_X3_closure l D G fu h_system a_system_words a_system_sources a_system_targets a_system_labels system_objects system_steps system_labels system_sources system_targets (1 <<< (v1 &&& 31)) 255 r_21 hr_21) ⟨va_cnB 2 hts gX11_reachable_X3_closure_n168 rfl rfl rfl (hE.2 (.methodLinkNest RX11 168 yX3_closure RX11) (List.mem_of_getElem? (i := 67) rfl)) (hts (.initialized RX3) (List.mem_of_getElem? (i := 3) rfl)) (by decide +kernel) ⟨Nat.le_of_ble_eq_true rfl, Nat.le_of_ble_eq_true rfl⟩, (hts (.instanceMethod yX3_closure) (List.mem_of_getElem? (i := 7) rfl)), (hts (.selects RX3 yX3_closure yX3_closure) (List.mem_of_getElem? (i := 8) rfl))⟩ hE hP hN rfl (by decide) 1 rfl rfl rfl hl.1 (Nat.le_of_ble_eq_true rfl) dX11_reachable_21 ⟨Nat.zero_le _, Nat.zero_le _⟩) hP hN hS rfl (fun H locs hP hS => ?_)
    refine lv_goto (tgt := 28) hx hb dX11_reachable_24 (by decide) ?_
    have hf := Option.some.inj hf
    rewrite [← hQ, ← hf]
    exact x_iret hx hb hr hlocks hP hS dX11_reachable_28

set_option maxRecDepth 20000 in
theorem u_X2_drop_X2 : ∀ w ∈ wsX20, w ∈ wsX2_drop := xx_pl _ [15, 16] (by decide +kernel)
def f_X2_drop (fu : Nat) (below : (Nat → Int32)) (pairs : (Nat → Int32)) (v1 : Int32) (v2 : Int32) : Option ((Nat → Int32) × (Nat → Int32)) :=
  ck v1 8 (ck v1 8 (lt (upd pairs v1.toNatClampNeg ((pairs v1.toNatClampNeg) &&& ((1 <<< (v2 &&& 31)) ^^^ (-1)))) (fun pairs_13 => (f_X2_close fu below pairs_13).bind (fun r_15 => some (r_15, pairs_13)))))
set_option maxHeartbeats 4000000 in
set_option maxRecDepth 100000 in
theorem k_X2_drop (l : Launch) (D : va_G) (G : Nat → ClassId) (fu : Nat) (h : Nat) (a_pairs : Nat) (a_below : Nat) (below : (Nat → Int32)) (pairs : (Nat → Int32))  (v1 : Int32) (v2 : Int32) (out : (Nat → Int32) × (Nat → Int32)) (hf : f_X2_drop fu below pairs v1 v2 = some out) : xMet l yX2_drop wsX2_drop (rM 2 48) D G [.ref h, .int v1, .int v2] [[(h, .inr (2, [.ref a_pairs, .ref a_below]))], [(a_below, .inl (G 0, 8, .inl below))], [(a_pairs, .inl (G 0, 8, .inl pairs))]] (xQv D [[(h, .inr (2, [.ref a_pairs, .ref a_below]))], [(a_below, .inl (G 0, 8, .inl out.1))], [(a_pairs, .inl (G 0, 8, .inl out.2))]]) := by
  refine x_ent (cc := cX2_drop) (maxL := 3) (by decide) rfl (Nat.le_of_ble_eq_true rfl) ?_
  intro p e s m blw meth c aa ls args Q H locs hQ hx hb hr hml hown hts hlocks hE hN hl hP hS
  have hown : s.vm.findClass RX2 = some m.cls := hown
  have hl : lv_has ls 3 [(0, .ref h), (1, .int v1), (2, .int v2)] := hl
  refine lv_aload_n hx hb dX2_drop_0 rfl (lv_at hl 0 rfl) ?_
  refine x_get hx hb hts u_X2_drop_X2 hown hE hP 0 rfl rfl 0 (by decide) (hts (.fieldLink RX2 9 "DecreasingDiagrams$LabelOrder" "pairs" "[I") (List.mem_of_getElem? (i := 1) rfl)) rfl dX2_drop_1 ?_
  refine lv_iload_n hx hb dX2_drop_4 rfl (lv_at hl 1 rfl) ?_
  refine lv_dup2_11 hx hb dX2_drop_5 rfl rfl ?_
  obtain ⟨hi, hf⟩ := ck_some hf
  refine x_iald hx hb hE hP 2 rfl hi dX2_drop_6 ?_
  refine lv_iconst (v := 1) hx hb dX2_drop_7 (by decide) ?_
  refine lv_iload_n hx hb dX2_drop_8 rfl (lv_at hl 2 rfl) ?_
  refine lv_ishl hx hb dX2_drop_9 ?_
  refine lv_iconst (v := -1) hx hb dX2_drop_10 (by decide) ?_
  refine lv_ixor hx hb dX2_drop_11 ?_
  refine lv_iand hx hb dX2_drop_12 ?_
  obtain ⟨hi, hf⟩ := ck_some hf
  obtain ⟨pairs_13, e_pairs_13, hf⟩ := lt_some hf
  refine x_iast (I' := [[(h, .inr (2, [.ref a_pairs, .ref a_below]))], [(a_below, .inl (G 0, 8, .inl below))], [(a_pairs, .inl (G 0, 8, .inl pairs_13))]]) hx hb hE hP hN hS 2 rfl hi e_pairs_13 rfl dX2_drop_13 (fun H locs hP hS => ?_)
  refine lv_aload_n hx hb dX2_drop_14 rfl (lv_at hl 0 rfl) ?_
  obtain ⟨r_15, hr_15, hf⟩ := bd_some hf
  refine x_gov (ps := [0, 1, 2]) (qs := []) (n := 3) (I' := [[(h, .inr (2, [.ref a_pairs, .ref a_below]))], [(a_below, .inl (G 0, 8, .inl r_15))], [(a_pairs, .inl (G 0, 8, .inl pairs_13))]]) (x_runV (As := []) (rest := []) (ps := [0, 1, 2]) ⟨hx, hb, hml, hown, hts⟩ (k_X2_close l D G fu h a_pairs a_below below pairs_13 r_15 hr_15) (cwV 0 hts gX2_drop_X2_close rfl rfl rfl (by decide +kernel) ⟨Nat.le_of_ble_eq_true rfl, Nat.le_of_ble_eq_true rfl⟩) hE hP hN rfl (by decide) 0 rfl rfl rfl hl.1 (Nat.le_of_ble_eq_true rfl) dX2_drop_15 ⟨Nat.zero_le _, Nat.zero_le _⟩) hP hN hS rfl rfl rfl rfl rfl (by decide) (fun H locs hP hS => ?_)
  have hf := Option.some.inj hf
  rewrite [← hQ, ← hf]
  exact x_vret hx hb hr hlocks hP hS dX2_drop_18

set_option maxRecDepth 20000 in
theorem u_X11_removeGreater_X11 : ∀ w ∈ wsX110, w ∈ wsX11_removeGreater := xx_pl _ [25, 26, 27, 28, 29, 30, 31, 32, 33, 34, 35, 36, 37, 38, 39, 40] (by decide +kernel)
def f_X11_removeGreater (fu : Nat) (order_below : (Nat → Int32)) (order_pairs : (Nat → Int32)) (v1 : Int32) (v2 : Int32) : Option (Int32 × (Nat → Int32) × (Nat → Int32)) :=
  (f_X11_isLabel v1).bind (fun r_1 => if r_1 = 0 then (some ((-1), order_below, order_pairs)) else ((f_X11_isLabel v2).bind (fun r_8 => if ¬ r_8 = 0 then ((f_X2_hasPair order_pairs v1 v2).bind (fun r_22 => if ¬ r_22 = 0 then ((f_X2_drop fu order_below order_pairs v1 v2).bind (fun r_36 => some (1, r_36.1, r_36.2))) else (some (0, order_below, order_pairs)))) else (some ((-1), order_below, order_pairs)))))
set_option maxHeartbeats 4000000 in
set_option maxRecDepth 100000 in
theorem k_X11_removeGreater (l : Launch) (D : va_G) (G : Nat → ClassId) (fu : Nat) (h : Nat) (h_order : Nat) (h_system : Nat) (h_rules : Nat) (h_savedOrder : Nat) (h_savedSystem : Nat) (h_savedRules : Nat) (h_peaks : Nat) (h_leftPaths : Nat) (h_rightPaths : Nat) (h_text : Nat) (h_labellings : Nat) (h_input : Nat) (h_explorer : Nat) (h_arrays : Nat) (a_reach : Nat) (a_order_pairs : Nat) (a_order_below : Nat) (snapshotSaved : Int32) (order_below : (Nat → Int32)) (order_pairs : (Nat → Int32))  (v1 : Int32) (v2 : Int32) (out : Int32 × (Nat → Int32) × (Nat → Int32)) (hf : f_X11_removeGreater fu order_below order_pairs v1 v2 = some out) : xMet l yX11_removeGreater wsX11_removeGreater (rM 3 70) D G [.ref h, .int v1, .int v2] [[(h, .inr (10, [.ref h_order, .ref h_system, .ref h_rules, .ref h_savedOrder, .ref h_savedSystem, .ref h_savedRules, .int snapshotSaved, .ref h_peaks, .ref h_leftPaths, .ref h_rightPaths, .ref h_text, .ref h_labellings, .ref h_input, .ref h_explorer, .ref h_arrays, .ref a_reach]))], [(h_order, .inr (2, [.ref a_order_pairs, .ref a_order_below]))], [(a_order_below, .inl (G 0, 8, .inl order_below))], [(a_order_pairs, .inl (G 0, 8, .inl order_pairs))]] (xQi D [[(h, .inr (10, [.ref h_order, .ref h_system, .ref h_rules, .ref h_savedOrder, .ref h_savedSystem, .ref h_savedRules, .int snapshotSaved, .ref h_peaks, .ref h_leftPaths, .ref h_rightPaths, .ref h_text, .ref h_labellings, .ref h_input, .ref h_explorer, .ref h_arrays, .ref a_reach]))], [(h_order, .inr (2, [.ref a_order_pairs, .ref a_order_below]))], [(a_order_below, .inl (G 0, 8, .inl out.2.1))], [(a_order_pairs, .inl (G 0, 8, .inl out.2.2))]] out.1) := by
  refine x_ent (cc := cX11_removeGreater) (maxL := 3) (by decide) rfl (Nat.le_of_ble_eq_true rfl) ?_
  intro p e s m blw meth c aa ls args Q H locs hQ hx hb hr hml hown hts hlocks hE hN hl hP hS
  have hown : s.vm.findClass RX11 = some m.cls := hown
  have hl : lv_has ls 3 [(0, .ref h), (1, .int v1), (2, .int v2)] := hl
  refine lv_iload_n hx hb dX11_removeGreater_0 rfl (lv_at hl 1 rfl) ?_
  obtain ⟨r_1, hr_1, hf⟩ := bd_some hf
  refine x_goi0 (ps := []) (x_runS (As := [.int v1]) (rest := []) (ps := []) ⟨hx, hb, hml, hown, hts⟩ (k_X11_isLabel l D G fu v1 r_1 hr_1) (va_cwS 1 hts gX11_removeGreater_X11_isLabel rfl rfl rfl (by decide +kernel) ⟨Nat.le_of_ble_eq_true rfl, Nat.le_of_ble_eq_true rfl⟩) hE hP hN rfl (by decide) rfl hl.1 (Nat.le_of_ble_eq_true rfl) dX11_removeGreater_1 ⟨Nat.zero_le _, Nat.zero_le _⟩) hP hN hS rfl (fun H locs hP hS => ?_)
  refine lv_if_eq (tgt := 14) hx hb dX11_removeGreater_4 (by decide) (fun c_4 => ?_) (fun c_4 => ?_)
  · have hf := it_pos c_4 hf
    refine lv_iconst (v := -1) hx hb dX11_removeGreater_14 (by decide) ?_
    have hf := Option.some.inj hf
    rewrite [← hQ, ← hf]
    exact x_iret hx hb hr hlocks hP hS dX11_removeGreater_15
  · have hf := it_neg c_4 hf
    refine lv_iload_n hx hb dX11_removeGreater_7 rfl (lv_at hl 2 rfl) ?_
    obtain ⟨r_8, hr_8, hf⟩ := bd_some hf
    refine x_goi0 (ps := []) (x_runS (As := [.int v2]) (rest := []) (ps := []) ⟨hx, hb, hml, hown, hts⟩ (k_X11_isLabel l D G fu v2 r_8 hr_8) (va_cwS 1 hts gX11_removeGreater_X11_isLabel rfl rfl rfl (by decide +kernel) ⟨Nat.le_of_ble_eq_true rfl, Nat.le_of_ble_eq_true rfl⟩) hE hP hN rfl (by decide) rfl hl.1 (Nat.le_of_ble_eq_true rfl) dX11_removeGreater_8 ⟨Nat.zero_le _, Nat.zero_le _⟩) hP hN hS rfl (fun H locs hP hS => ?_)
    refine lv_if_ne (tgt := 16) hx hb dX11_removeGreater_11 (by decide) (fun c_11 => ?_) (fun c_11 => ?_)
    · have hf := it_pos c_11 hf
      refine lv_aload_n hx hb dX11_removeGreater_16 rfl (lv_at hl 0 rfl) ?_
      refine x_get hx hb hts u_X11_removeGreater_X11 hown hE hP 0 rfl rfl 0 (by decide) (hts (.fieldLink RX11 12 "DecreasingDiagrams" "order" "LDecreasingDiagrams$LabelOrder;") (List.mem_of_getElem? (i := 1) rfl)) rfl dX11_removeGreater_17 ?_
      refine lv_iload_n hx hb dX11_removeGreater_20 rfl (lv_at hl 1 rfl) ?_
      refine lv_iload_n hx hb dX11_removeGreater_21 rfl (lv_at hl 2 rfl) ?_
      obtain ⟨r_22, hr_22, hf⟩ := bd_some hf
      refine x_goi0 (ps := [1, 3]) (x_runVN (As := [.int v1, .int v2]) (rest := []) (ps := [1, 3]) ⟨hx, hb, hml, hown, hts⟩ (k_X2_hasPair l D G fu h_order a_order_pairs a_order_below order_pairs v1 v2 r_22 hr_22) ⟨va_cnB 2 hts gX11_removeGreater_X2_hasPair_n107 rfl rfl rfl (hE.2 (.methodLinkNest RX11 107 yX2_hasPair RX11) (List.mem_of_getElem? (i := 55) rfl)) (hts (.initialized RX2) (List.mem_of_getElem? (i := 7) rfl)) (by decide +kernel) ⟨Nat.le_of_ble_eq_true rfl, Nat.le_of_ble_eq_true rfl⟩, (hts (.instanceMethod yX2_hasPair) (List.mem_of_getElem? (i := 6) rfl)), (hts (.selects RX2 yX2_hasPair yX2_hasPair) (List.mem_of_getElem? (i := 8) rfl))⟩ hE hP hN rfl (by decide) 1 rfl rfl rfl hl.1 (Nat.le_of_ble_eq_true rfl) dX11_removeGreater_22 ⟨Nat.zero_le _, Nat.zero_le _⟩) hP hN hS rfl (fun H locs hP hS => ?_)
      refine lv_if_ne (tgt := 30) hx hb dX11_removeGreater_25 (by decide) (fun c_25 => ?_) (fun c_25 => ?_)
      · have hf := it_pos c_25 hf
        refine lv_aload_n hx hb dX11_removeGreater_30 rfl (lv_at hl 0 rfl) ?_
        refine x_get hx hb hts u_X11_removeGreater_X11 hown hE hP 0 rfl rfl 0 (by decide) (hts (.fieldLink RX11 12 "DecreasingDiagrams" "order" "LDecreasingDiagrams$LabelOrder;") (List.mem_of_getElem? (i := 1) rfl)) rfl dX11_removeGreater_31 ?_
        refine lv_iload_n hx hb dX11_removeGreater_34 rfl (lv_at hl 1 rfl) ?_
        refine lv_iload_n hx hb dX11_removeGreater_35 rfl (lv_at hl 2 rfl) ?_
        obtain ⟨r_36, hr_36, hf⟩ := bd_some hf
        refine x_gov (ps := [1, 2, 3]) (qs := [0]) (n := 4) (I' := [[(h, .inr (10, [.ref h_order, .ref h_system, .ref h_rules, .ref h_savedOrder, .ref h_savedSystem, .ref h_savedRules, .int snapshotSaved, .ref h_peaks, .ref h_leftPaths, .ref h_rightPaths, .ref h_text, .ref h_labellings, .ref h_input, .ref h_explorer, .ref h_arrays, .ref a_reach]))], [(h_order, .inr (2, [.ref a_order_pairs, .ref a_order_below]))], [(a_order_below, .inl (G 0, 8, .inl r_36.1))], [(a_order_pairs, .inl (G 0, 8, .inl r_36.2))]]) (x_runVN (As := [.int v1, .int v2]) (rest := []) (ps := [1, 2, 3]) ⟨hx, hb, hml, hown, hts⟩ (k_X2_drop l D G fu h_order a_order_pairs a_order_below order_below order_pairs v1 v2 r_36 hr_36) ⟨va_cnB 2 hts gX11_removeGreater_X2_drop_n114 rfl rfl rfl (hE.2 (.methodLinkNest RX11 114 yX2_drop RX11) (List.mem_of_getElem? (i := 57) rfl)) (hts (.initialized RX2) (List.mem_of_getElem? (i := 7) rfl)) (by decide +kernel) ⟨Nat.le_of_ble_eq_true rfl, Nat.le_of_ble_eq_true rfl⟩, (hts (.instanceMethod yX2_drop) (List.mem_of_getElem? (i := 13) rfl)), (hts (.selects RX2 yX2_drop yX2_drop) (List.mem_of_getElem? (i := 14) rfl))⟩ hE hP hN rfl (by decide) 1 rfl rfl rfl hl.1 (Nat.le_of_ble_eq_true rfl) dX11_removeGreater_36 ⟨Nat.zero_le _, Nat.zero_le _⟩) hP hN hS rfl rfl rfl rfl rfl (by decide) (fun H locs hP hS => ?_)
        refine lv_iconst (v := 1) hx hb dX11_removeGreater_39 (by decide) ?_
        have hf := Option.some.inj hf
        rewrite [← hQ, ← hf]
        exact x_iret hx hb hr hlocks hP hS dX11_removeGreater_40
      · have hf := it_neg (fun h => h c_25) hf
        refine lv_iconst (v := 0) hx hb dX11_removeGreater_28 (by decide) ?_
        have hf := Option.some.inj hf
        rewrite [← hQ, ← hf]
        exact x_iret hx hb hr hlocks hP hS dX11_removeGreater_29
    · have hf := it_neg (fun h => h c_11) hf
      refine lv_iconst (v := -1) hx hb dX11_removeGreater_14 (by decide) ?_
      have hf := Option.some.inj hf
      rewrite [← hQ, ← hf]
      exact x_iret hx hb hr hlocks hP hS dX11_removeGreater_15

set_option maxRecDepth 20000 in
theorem u_X3_dropStep_X3 : ∀ w ∈ wsX30, w ∈ wsX3_dropStep := xx_pl _ [5, 6, 7, 8, 9, 10] (by decide +kernel)
def f_X3_dropStep_L12 (steps : Int32) (rec_12 : Int32 → (Nat → Int32) → (Nat → Int32) → (Nat → Int32) → Option ((Nat → Int32) × (Nat → Int32) × Int32 × (Nat → Int32))) (v2 : Int32) (labels : (Nat → Int32)) (sources : (Nat → Int32)) (targets : (Nat → Int32)) : Option ((Nat → Int32) × (Nat → Int32) × Int32 × (Nat → Int32)) :=
  if steps ≤ v2 then (some (labels, sources, steps, targets)) else (ck (v2 + 1) 32 (ck v2 32 (lt (upd sources v2.toNatClampNeg (sources (v2 + 1).toNatClampNeg)) (fun sources_33 => ck (v2 + 1) 32 (ck v2 32 (lt (upd targets v2.toNatClampNeg (targets (v2 + 1).toNatClampNeg)) (fun targets_47 => ck (v2 + 1) 32 (ck v2 32 (lt (upd labels v2.toNatClampNeg (labels (v2 + 1).toNatClampNeg)) (fun labels_61 => lt (v2 + 1) (fun v2_62 => rec_12 v2_62 labels_61 sources_33 targets_47)))))))))))
def f_X3_dropStep (fu : Nat) (steps : Int32) (labels : (Nat → Int32)) (sources : (Nat → Int32)) (targets : (Nat → Int32)) (v1 : Int32) : Option ((Nat → Int32) × (Nat → Int32) × Int32 × (Nat → Int32)) :=
  lt (steps - 1) (fun steps_7 => lt v1 (fun v2_11 => lp (τ := Int32 → (Nat → Int32) → (Nat → Int32) → (Nat → Int32) → Option ((Nat → Int32) × (Nat → Int32) × Int32 × (Nat → Int32))) (fun _ _ _ _ => none) (f_X3_dropStep_L12 steps_7) fu v2_11 labels sources targets))
set_option maxHeartbeats 4000000 in
set_option maxRecDepth 100000 in
theorem k_X3_dropStep (l : Launch) (D : va_G) (G : Nat → ClassId) (fu : Nat) (h : Nat) (a_words : Nat) (a_sources : Nat) (a_targets : Nat) (a_labels : Nat) (objects : Int32) (steps : Int32) (labels : (Nat → Int32)) (sources : (Nat → Int32)) (targets : (Nat → Int32))  (v1 : Int32) (out : (Nat → Int32) × (Nat → Int32) × Int32 × (Nat → Int32)) (hf : f_X3_dropStep fu steps labels sources targets v1 = some out) : xMet l yX3_dropStep wsX3_dropStep (rM 0 0) D G [.ref h, .int v1] [[(h, .inr (3, [.int objects, .ref a_words, .int steps, .ref a_sources, .ref a_targets, .ref a_labels]))], [(a_labels, .inl (G 0, 32, .inl labels))], [(a_sources, .inl (G 0, 32, .inl sources))], [(a_targets, .inl (G 0, 32, .inl targets))]] (xQv D [[(h, .inr (3, [.int objects, .ref a_words, .int out.2.2.1, .ref a_sources, .ref a_targets, .ref a_labels]))], [(a_labels, .inl (G 0, 32, .inl out.1))], [(a_sources, .inl (G 0, 32, .inl out.2.1))], [(a_targets, .inl (G 0, 32, .inl out.2.2.2))]]) := by
  refine x_ent (cc := cX3_dropStep) (maxL := 3) (by decide) rfl (Nat.le_of_ble_eq_true rfl) ?_
  intro p e s m blw meth c aa ls args Q H locs hQ hx hb hr hml hown hts hlocks hE hN hl hP hS
  have hown : s.vm.findClass RX3 = some m.cls := hown
  have hl : lv_has ls 3 [(0, .ref h), (1, .int v1)] := hl
  have L12 : ∀ (steps : Int32), ∀ (n_12 : Nat) (v2 : Int32) (labels : (Nat → Int32)) (sources : (Nat → Int32)) (targets : (Nat → Int32)) (H : Heap) (locs : List Loc) (ls : Array Slot), xW D aa [[(h, .inr (3, [.int objects, .ref a_words, .int steps, .ref a_sources, .ref a_targets, .ref a_labels]))], [(a_labels, .inl (G 0, 32, .inl labels))], [(a_sources, .inl (G 0, 32, .inl sources))], [(a_targets, .inl (G 0, 32, .inl targets))]] H → va_S (xA aa) s.heap H locs → lv_has ls 3 [(0, .ref h), (2, .int v2)] → lp (τ := Int32 → (Nat → Int32) → (Nat → Int32) → (Nat → Int32) → Option ((Nat → Int32) × (Nat → Int32) × Int32 × (Nat → Int32))) (fun _ _ _ _ => none) (f_X3_dropStep_L12 steps) n_12 v2 labels sources targets = some out → W p l e (rM 0 0) s m args blw meth c H locs 0 0 Q (F0 m 12 ls []) := by
    intro steps   n_12
    induction n_12 with
    | zero =>
      intro v2 labels sources targets H locs ls hP hS hl hf
      exact no_some hf
    | succ n_12 ih_12 =>
      intro v2 labels sources targets H locs ls hP hS hl hf
      have hf : f_X3_dropStep_L12 steps (lp (τ := Int32 → (Nat → Int32) → (Nat → Int32) → (Nat → Int32) → Option ((Nat → Int32) × (Nat → Int32) × Int32 × (Nat → Int32))) (fun _ _ _ _ => none) (f_X3_dropStep_L12 steps) n_12) v2 labels sources targets = some out := hf
      refine lv_iload_n hx hb dX3_dropStep_12 rfl (lv_at hl 1 rfl) ?_
      refine lv_aload_n hx hb dX3_dropStep_13 rfl (lv_at hl 0 rfl) ?_
      refine x_get hx hb hts u_X3_dropStep_X3 hown hE hP 0 rfl rfl 2 (by decide) (hts (.fieldLink RX3 19 "DecreasingDiagrams$LabelledSystem" "steps" "I") (List.mem_of_getElem? (i := 1) rfl)) rfl dX3_dropStep_14 ?_
      refine lv_icmp_ge (tgt := 68) hx hb dX3_dropStep_17 (by decide) (fun c_17 => ?_) (fun c_17 => ?_)
      · have hf := it_pos c_17 hf
        have hf := Option.some.inj hf
        rewrite [← hQ, ← hf]
        exact x_vret hx hb hr hlocks hP hS dX3_dropStep_68
      · have hf := it_neg c_17 hf
        refine lv_aload_n hx hb dX3_dropStep_20 rfl (lv_at hl 0 rfl) ?_
        refine x_get hx hb hts u_X3_dropStep_X3 hown hE hP 0 rfl rfl 3 (by decide) (hts (.fieldLink RX3 22 "DecreasingDiagrams$LabelledSystem" "sources" "[I") (List.mem_of_getElem? (i := 2) rfl)) rfl dX3_dropStep_21 ?_
        refine lv_iload_n hx hb dX3_dropStep_24 rfl (lv_at hl 1 rfl) ?_
        refine lv_aload_n hx hb dX3_dropStep_25 rfl (lv_at hl 0 rfl) ?_
        refine x_get hx hb hts u_X3_dropStep_X3 hown hE hP 0 rfl rfl 3 (by decide) (hts (.fieldLink RX3 22 "DecreasingDiagrams$LabelledSystem" "sources" "[I") (List.mem_of_getElem? (i := 2) rfl)) rfl dX3_dropStep_26 ?_
        refine lv_iload_n hx hb dX3_dropStep_29 rfl (lv_at hl 1 rfl) ?_
        refine lv_iconst (v := 1) hx hb dX3_dropStep_30 (by decide) ?_
        refine lv_iadd hx hb dX3_dropStep_31 ?_
        obtain ⟨hi, hf⟩ := ck_some hf
        refine x_iald hx hb hE hP 2 rfl hi dX3_dropStep_32 ?_
        obtain ⟨hi, hf⟩ := ck_some hf
        obtain ⟨sources_33, e_sources_33, hf⟩ := lt_some hf
        refine x_iast (I' := [[(h, .inr (3, [.int objects, .ref a_words, .int steps, .ref a_sources, .ref a_targets, .ref a_labels]))], [(a_labels, .inl (G 0, 32, .inl labels))], [(a_sources, .inl (G 0, 32, .inl sources_33))], [(a_targets, .inl (G 0, 32, .inl targets))]]) hx hb hE hP hN hS 2 rfl hi e_sources_33 rfl dX3_dropStep_33 (fun H locs hP hS => ?_)
        refine lv_aload_n hx hb dX3_dropStep_34 rfl (lv_at hl 0 rfl) ?_
        refine x_get hx hb hts u_X3_dropStep_X3 hown hE hP 0 rfl rfl 4 (by decide) (hts (.fieldLink RX3 25 "DecreasingDiagrams$LabelledSystem" "targets" "[I") (List.mem_of_getElem? (i := 3) rfl)) rfl dX3_dropStep_35 ?_
        refine lv_iload_n hx hb dX3_dropStep_38 rfl (lv_at hl 1 rfl) ?_
        refine lv_aload_n hx hb dX3_dropStep_39 rfl (lv_at hl 0 rfl) ?_
        refine x_get hx hb hts u_X3_dropStep_X3 hown hE hP 0 rfl rfl 4 (by decide) (hts (.fieldLink RX3 25 "DecreasingDiagrams$LabelledSystem" "targets" "[I") (List.mem_of_getElem? (i := 3) rfl)) rfl dX3_dropStep_40 ?_
        refine lv_iload_n hx hb dX3_dropStep_43 rfl (lv_at hl 1 rfl) ?_
        refine lv_iconst (v := 1) hx hb dX3_dropStep_44 (by decide) ?_
        refine lv_iadd hx hb dX3_dropStep_45 ?_
        obtain ⟨hi, hf⟩ := ck_some hf
        refine x_iald hx hb hE hP 3 rfl hi dX3_dropStep_46 ?_
        obtain ⟨hi, hf⟩ := ck_some hf
        obtain ⟨targets_47, e_targets_47, hf⟩ := lt_some hf
        refine x_iast (I' := [[(h, .inr (3, [.int objects, .ref a_words, .int steps, .ref a_sources, .ref a_targets, .ref a_labels]))], [(a_labels, .inl (G 0, 32, .inl labels))], [(a_sources, .inl (G 0, 32, .inl sources_33))], [(a_targets, .inl (G 0, 32, .inl targets_47))]]) hx hb hE hP hN hS 3 rfl hi e_targets_47 rfl dX3_dropStep_47 (fun H locs hP hS => ?_)
        refine lv_aload_n hx hb dX3_dropStep_48 rfl (lv_at hl 0 rfl) ?_
        refine x_get hx hb hts u_X3_dropStep_X3 hown hE hP 0 rfl rfl 5 (by decide) (hts (.fieldLink RX3 28 "DecreasingDiagrams$LabelledSystem" "labels" "[I") (List.mem_of_getElem? (i := 4) rfl)) rfl dX3_dropStep_49 ?_
        refine lv_iload_n hx hb dX3_dropStep_52 rfl (lv_at hl 1 rfl) ?_
        refine lv_aload_n hx hb dX3_dropStep_53 rfl (lv_at hl 0 rfl) ?_
        refine x_get hx hb hts u_X3_dropStep_X3 hown hE hP 0 rfl rfl 5 (by decide) (hts (.fieldLink RX3 28 "DecreasingDiagrams$LabelledSystem" "labels" "[I") (List.mem_of_getElem? (i := 4) rfl)) rfl dX3_dropStep_54 ?_
        refine lv_iload_n hx hb dX3_dropStep_57 rfl (lv_at hl 1 rfl) ?_
        refine lv_iconst (v := 1) hx hb dX3_dropStep_58 (by decide) ?_
        refine lv_iadd hx hb dX3_dropStep_59 ?_
        obtain ⟨hi, hf⟩ := ck_some hf
        refine x_iald hx hb hE hP 1 rfl hi dX3_dropStep_60 ?_
        obtain ⟨hi, hf⟩ := ck_some hf
        obtain ⟨labels_61, e_labels_61, hf⟩ := lt_some hf
        refine x_iast (I' := [[(h, .inr (3, [.int objects, .ref a_words, .int steps, .ref a_sources, .ref a_targets, .ref a_labels]))], [(a_labels, .inl (G 0, 32, .inl labels_61))], [(a_sources, .inl (G 0, 32, .inl sources_33))], [(a_targets, .inl (G 0, 32, .inl targets_47))]]) hx hb hE hP hN hS 1 rfl hi e_labels_61 rfl dX3_dropStep_61 (fun H locs hP hS => ?_)
        obtain ⟨v2_62, e_v2_62, hf⟩ := lt_some hf
        refine lv_iinc (v := v2_62) (lv' := [(2, .int v2_62), (0, .ref h)]) hx hb dX3_dropStep_62 hl (k := 1) rfl (by rw [e_v2_62]; rfl) (by decide) rfl (fun ls hl => ?_)
        refine lv_goto (tgt := 12) hx hb dX3_dropStep_65 (by decide) ?_
        exact ih_12 v2_62 labels_61 sources_33 targets_47 H locs ls hP hS (lv_sub hl [1, 0] rfl) hf
  refine lv_aload_n hx hb dX3_dropStep_0 rfl (lv_at hl 0 rfl) ?_
  refine lv_dup hx hb dX3_dropStep_1 rfl ?_
  refine x_get hx hb hts u_X3_dropStep_X3 hown hE hP 0 rfl rfl 2 (by decide) (hts (.fieldLink RX3 19 "DecreasingDiagrams$LabelledSystem" "steps" "I") (List.mem_of_getElem? (i := 1) rfl)) rfl dX3_dropStep_2 ?_
  refine lv_iconst (v := 1) hx hb dX3_dropStep_5 (by decide) ?_
  refine lv_isub hx hb dX3_dropStep_6 ?_
  obtain ⟨steps_7, e_steps_7, hf⟩ := lt_some hf
  refine x_put (w := .int steps_7) (ty := .int) (I' := [[(h, .inr (3, [.int objects, .ref a_words, .int steps_7, .ref a_sources, .ref a_targets, .ref a_labels]))], [(a_labels, .inl (G 0, 32, .inl labels))], [(a_sources, .inl (G 0, 32, .inl sources))], [(a_targets, .inl (G 0, 32, .inl targets))]]) hx hb hts u_X3_dropStep_X3 tyX3 tyX3_ok nmX3 hown hE hP hN hS 0 rfl rfl 2 (by decide) (hts (.fieldLink RX3 19 "DecreasingDiagrams$LabelledSystem" "steps" "I") (List.mem_of_getElem? (i := 1) rfl)) rfl (congrArg Value.int e_steps_7) (by decide +kernel) rfl rfl (Nat.le_of_ble_eq_true rfl) rfl dX3_dropStep_7 (fun H locs hP hS => ?_)
  refine lv_iload_n hx hb dX3_dropStep_10 rfl (lv_at hl 1 rfl) ?_
  obtain ⟨v2_11, e_v2_11, hf⟩ := lt_some hf
  refine x_istore_n (v := v2_11) (lv' := [(2, .int v2_11), (0, .ref h), (1, .int v1)]) hx hb dX3_dropStep_11 e_v2_11 rfl hl (by decide) rfl (fun ls hl => ?_)
  exact L12 steps_7   fu v2_11 labels sources targets H locs ls hP hS (lv_sub hl [1, 0] rfl) hf

set_option maxRecDepth 20000 in
theorem u_X11_removeStep_X11 : ∀ w ∈ wsX110, w ∈ wsX11_removeStep := xx_pl _ [13, 14, 15, 16, 17, 18, 19, 20, 21, 22, 23, 24, 25, 26, 27, 28] (by decide +kernel)
set_option maxRecDepth 20000 in
theorem u_X11_removeStep_X3 : ∀ w ∈ wsX30, w ∈ wsX11_removeStep := xx_pl _ [29, 30, 31, 32, 33, 34] (by decide +kernel)
def f_X11_removeStep (fu : Nat) (system_steps : Int32) (system_labels : (Nat → Int32)) (system_sources : (Nat → Int32)) (system_targets : (Nat → Int32)) (v1 : Int32) : Option (Int32 × (Nat → Int32) × (Nat → Int32) × Int32 × (Nat → Int32)) :=
  (f_X3_hasStep system_steps v1).bind (fun r_5 => if ¬ r_5 = 0 then ((f_X3_dropStep fu system_steps system_labels system_sources system_targets v1).bind (fun r_18 => some (r_18.2.2.1, r_18.1, r_18.2.1, r_18.2.2.1, r_18.2.2.2))) else (some ((-1), system_labels, system_sources, system_steps, system_targets)))
set_option maxHeartbeats 4000000 in
set_option maxRecDepth 100000 in
theorem k_X11_removeStep (l : Launch) (D : va_G) (G : Nat → ClassId) (fu : Nat) (h : Nat) (h_order : Nat) (h_system : Nat) (h_rules : Nat) (h_savedOrder : Nat) (h_savedSystem : Nat) (h_savedRules : Nat) (h_peaks : Nat) (h_leftPaths : Nat) (h_rightPaths : Nat) (h_text : Nat) (h_labellings : Nat) (h_input : Nat) (h_explorer : Nat) (h_arrays : Nat) (a_reach : Nat) (a_system_words : Nat) (a_system_sources : Nat) (a_system_targets : Nat) (a_system_labels : Nat) (snapshotSaved : Int32) (system_objects : Int32) (system_steps : Int32) (system_labels : (Nat → Int32)) (system_sources : (Nat → Int32)) (system_targets : (Nat → Int32))  (v1 : Int32) (out : Int32 × (Nat → Int32) × (Nat → Int32) × Int32 × (Nat → Int32)) (hf : f_X11_removeStep fu system_steps system_labels system_sources system_targets v1 = some out) : xMet l yX11_removeStep wsX11_removeStep (rM 1 22) D G [.ref h, .int v1] [[(h, .inr (10, [.ref h_order, .ref h_system, .ref h_rules, .ref h_savedOrder, .ref h_savedSystem, .ref h_savedRules, .int snapshotSaved, .ref h_peaks, .ref h_leftPaths, .ref h_rightPaths, .ref h_text, .ref h_labellings, .ref h_input, .ref h_explorer, .ref h_arrays, .ref a_reach]))], [(h_system, .inr (3, [.int system_objects, .ref a_system_words, .int system_steps, .ref a_system_sources, .ref a_system_targets, .ref a_system_labels]))], [(a_system_labels, .inl (G 0, 32, .inl system_labels))], [(a_system_sources, .inl (G 0, 32, .inl system_sources))], [(a_system_targets, .inl (G 0, 32, .inl system_targets))]] (xQi D [[(h, .inr (10, [.ref h_order, .ref h_system, .ref h_rules, .ref h_savedOrder, .ref h_savedSystem, .ref h_savedRules, .int snapshotSaved, .ref h_peaks, .ref h_leftPaths, .ref h_rightPaths, .ref h_text, .ref h_labellings, .ref h_input, .ref h_explorer, .ref h_arrays, .ref a_reach]))], [(h_system, .inr (3, [.int system_objects, .ref a_system_words, .int out.2.2.2.1, .ref a_system_sources, .ref a_system_targets, .ref a_system_labels]))], [(a_system_labels, .inl (G 0, 32, .inl out.2.1))], [(a_system_sources, .inl (G 0, 32, .inl out.2.2.1))], [(a_system_targets, .inl (G 0, 32, .inl out.2.2.2.2))]] out.1) := by
  refine x_ent (cc := cX11_removeStep) (maxL := 2) (by decide) rfl (Nat.le_of_ble_eq_true rfl) ?_
  intro p e s m blw meth c aa ls args Q H locs hQ hx hb hr hml hown hts hlocks hE hN hl hP hS
  have hown : s.vm.findClass RX11 = some m.cls := hown
  have hl : lv_has ls 2 [(0, .ref h), (1, .int v1)] := hl
  refine lv_aload_n hx hb dX11_removeStep_0 rfl (lv_at hl 0 rfl) ?_
  refine x_get hx hb hts u_X11_removeStep_X11 hown hE hP 0 rfl rfl 1 (by decide) (hts (.fieldLink RX11 19 "DecreasingDiagrams" "system" "LDecreasingDiagrams$LabelledSystem;") (List.mem_of_getElem? (i := 1) rfl)) rfl dX11_removeStep_1 ?_
  refine lv_iload_n hx hb dX11_removeStep_4 rfl (lv_at hl 1 rfl) ?_
  obtain ⟨r_5, hr_5, hf⟩ := bd_some hf
  refine x_goi0 (ps := [1]) (x_runVN (As := [.int v1]) (rest := []) (ps := [1]) ⟨hx, hb, hml, hown, hts⟩ (k_X3_hasStep l D G fu h_system a_system_words a_system_sources a_system_targets a_system_labels system_objects system_steps v1 r_5 hr_5) ⟨va_cnB 1 hts gX11_removeStep_X3_hasStep_n135 rfl rfl rfl (hE.2 (.methodLinkNest RX11 135 yX3_hasStep RX11) (List.mem_of_getElem? (i := 63) rfl)) (hts (.initialized RX3) (List.mem_of_getElem? (i := 3) rfl)) (by decide +kernel) ⟨Nat.le_of_ble_eq_true rfl, Nat.le_of_ble_eq_true rfl⟩, (hts (.instanceMethod yX3_hasStep) (List.mem_of_getElem? (i := 2) rfl)), (hts (.selects RX3 yX3_hasStep yX3_hasStep) (List.mem_of_getElem? (i := 4) rfl))⟩ hE hP hN rfl (by decide) 1 rfl rfl rfl hl.1 (Nat.le_of_ble_eq_true rfl) dX11_removeStep_5 ⟨Nat.zero_le _, Nat.zero_le _⟩) hP hN hS rfl (fun H locs hP hS => ?_)
  refine lv_if_ne (tgt := 13) hx hb dX11_removeStep_8 (by decide) (fun c_8 => ?_) (fun c_8 => ?_)
  · have hf := it_pos c_8 hf
    refine lv_aload_n hx hb dX11_removeStep_13 rfl (lv_at hl 0 rfl) ?_
    refine x_get hx hb hts u_X11_removeStep_X11 hown hE hP 0 rfl rfl 1 (by decide) (hts (.fieldLink RX11 19 "DecreasingDiagrams" "system" "LDecreasingDiagrams$LabelledSystem;") (List.mem_of_getElem? (i := 1) rfl)) rfl dX11_removeStep_14 ?_
    refine lv_iload_n hx hb dX11_removeStep_17 rfl (lv_at hl 1 rfl) ?_
    obtain ⟨r_18, hr_18, hf⟩ := bd_some hf
    refine x_gov (ps := [1, 2, 3, 4]) (qs := [0]) (n := 5) (I' := [[(h, .inr (10, [.ref h_order, .ref h_system, .ref h_rules, .ref h_savedOrder, .ref h_savedSystem, .ref h_savedRules, .int snapshotSaved, .ref h_peaks, .ref h_leftPaths, .ref h_rightPaths, .ref h_text, .ref h_labellings, .ref h_input, .ref h_explorer, .ref h_arrays, .ref a_reach]))], [(h_system, .inr (3, [.int system_objects, .ref a_system_words, .int r_18.2.2.1, .ref a_system_sources, .ref a_system_targets, .ref a_system_labels]))], [(a_system_labels, .inl (G 0, 32, .inl r_18.1))], [(a_system_sources, .inl (G 0, 32, .inl r_18.2.1))], [(a_system_targets, .inl (G 0, 32, .inl r_18.2.2.2))]]) (x_runVN (As := [.int v1]) (rest := []) (ps := [1, 2, 3, 4]) ⟨hx, hb, hml, hown, hts⟩ (k_X3_dropStep l D G fu h_system a_system_words a_system_sources a_system_targets a_system_labels system_objects system_steps system_labels system_sources system_targets v1 r_18 hr_18) ⟨va_cnB 1 hts gX11_removeStep_X3_dropStep_n138 rfl rfl rfl (hE.2 (.methodLinkNest RX11 138 yX3_dropStep RX11) (List.mem_of_getElem? (i := 64) rfl)) (hts (.initialized RX3) (List.mem_of_getElem? (i := 3) rfl)) (by decide +kernel) ⟨Nat.le_of_ble_eq_true rfl, Nat.le_of_ble_eq_true rfl⟩, (hts (.instanceMethod yX3_dropStep) (List.mem_of_getElem? (i := 7) rfl)), (hts (.selects RX3 yX3_dropStep yX3_dropStep) (List.mem_of_getElem? (i := 8) rfl))⟩ hE hP hN rfl (by decide) 1 rfl rfl rfl hl.1 (Nat.le_of_ble_eq_true rfl) dX11_removeStep_18 ⟨Nat.zero_le _, Nat.zero_le _⟩) hP hN hS rfl rfl rfl rfl rfl (by decide) (fun H locs hP hS => ?_)
    refine lv_aload_n hx hb dX11_removeStep_21 rfl (lv_at hl 0 rfl) ?_
    refine x_get hx hb hts u_X11_removeStep_X11 hown hE hP 0 rfl rfl 1 (by decide) (hts (.fieldLink RX11 19 "DecreasingDiagrams" "system" "LDecreasingDiagrams$LabelledSystem;") (List.mem_of_getElem? (i := 1) rfl)) rfl dX11_removeStep_22 ?_
    refine x_getN hx hb hts u_X11_removeStep_X3 hown hE hP 1 rfl rfl 2 (by decide) (hE.2 (.fieldLinkNest RX11 142 "DecreasingDiagrams$LabelledSystem" "steps" "I" RX11) (List.mem_of_getElem? (i := 11) rfl)) rfl dX11_removeStep_25 ?_
    have hf := Option.some.inj hf
    rewrite [← hQ, ← hf]
    exact x_iret hx hb hr hlocks hP hS dX11_removeStep_28
  · have hf := it_neg (fun h => h c_8) hf
    refine lv_iconst (v := -1) hx hb dX11_removeStep_11 (by decide) ?_
    have hf := Option.some.inj hf
    rewrite [← hQ, ← hf]
    exact x_iret hx hb hr hlocks hP hS dX11_removeStep_12

set_option maxRecDepth 20000 in
theorem u_X2_copyFrom_X2 : ∀ w ∈ wsX20, w ∈ wsX2_copyFrom := xx_pl _ [7, 8] (by decide +kernel)
def f_X2_copyFrom (p1_below : (Nat → Int32)) (p1_pairs : (Nat → Int32)) (below : (Nat → Int32)) (pairs : (Nat → Int32)) : Option ((Nat → Int32) × (Nat → Int32)) :=
  lt (va_cpy p1_pairs pairs 0 0 8) (fun pairs_12 => lt (va_cpy p1_below below 0 0 8) (fun below_27 => some (below_27, pairs_12)))
set_option maxHeartbeats 4000000 in
set_option maxRecDepth 100000 in
theorem k_X2_copyFrom (l : Launch) (D : va_G) (G : Nat → ClassId) (fu : Nat) (h : Nat) (h_p1 : Nat) (a_p1_pairs : Nat) (a_p1_below : Nat) (a_pairs : Nat) (a_below : Nat) (p1_below : (Nat → Int32)) (p1_pairs : (Nat → Int32)) (below : (Nat → Int32)) (pairs : (Nat → Int32))   (out : (Nat → Int32) × (Nat → Int32)) (hf : f_X2_copyFrom p1_below p1_pairs below pairs = some out) : xMet l yX2_copyFrom wsX2_copyFrom (rM 1 26) D G [.ref h, .ref h_p1] [[(h_p1, .inr (2, [.ref a_p1_pairs, .ref a_p1_below]))], [(a_p1_below, .inl (G 0, 8, .inl p1_below))], [(a_p1_pairs, .inl (G 0, 8, .inl p1_pairs))], [(h, .inr (2, [.ref a_pairs, .ref a_below]))], [(a_below, .inl (G 0, 8, .inl below))], [(a_pairs, .inl (G 0, 8, .inl pairs))]] (xQv D [[(h_p1, .inr (2, [.ref a_p1_pairs, .ref a_p1_below]))], [(a_p1_below, .inl (G 0, 8, .inl p1_below))], [(a_p1_pairs, .inl (G 0, 8, .inl p1_pairs))], [(h, .inr (2, [.ref a_pairs, .ref a_below]))], [(a_below, .inl (G 0, 8, .inl out.1))], [(a_pairs, .inl (G 0, 8, .inl out.2))]]) := by
  refine x_ent (cc := cX2_copyFrom) (maxL := 2) (by decide) rfl (Nat.le_of_ble_eq_true rfl) ?_
  intro p e s m blw meth c aa ls args Q H locs hQ hx hb hr hml hown hts hlocks hE hN hl hP hS
  have hown : s.vm.findClass RX2 = some m.cls := hown
  have hl : lv_has ls 2 [(0, .ref h), (1, .ref h_p1)] := hl
  refine lv_aload_n hx hb dX2_copyFrom_0 rfl (lv_at hl 1 rfl) ?_
  refine x_get hx hb hts u_X2_copyFrom_X2 hown hE hP 0 rfl rfl 0 (by decide) (hts (.fieldLink RX2 9 "DecreasingDiagrams$LabelOrder" "pairs" "[I") (List.mem_of_getElem? (i := 1) rfl)) rfl dX2_copyFrom_1 ?_
  refine lv_iconst (v := 0) hx hb dX2_copyFrom_4 (by decide) ?_
  refine lv_aload_n hx hb dX2_copyFrom_5 rfl (lv_at hl 0 rfl) ?_
  refine x_get hx hb hts u_X2_copyFrom_X2 hown hE hP 3 rfl rfl 0 (by decide) (hts (.fieldLink RX2 9 "DecreasingDiagrams$LabelOrder" "pairs" "[I") (List.mem_of_getElem? (i := 1) rfl)) rfl dX2_copyFrom_6 ?_
  refine lv_iconst (v := 0) hx hb dX2_copyFrom_9 (by decide) ?_
  refine lv_bipush (v := 8) hx hb dX2_copyFrom_10 (by decide) ?_
  obtain ⟨pairs_12, e_pairs_12, hf⟩ := lt_some hf
  refine x_copyi (I' := [[(h_p1, .inr (2, [.ref a_p1_pairs, .ref a_p1_below]))], [(a_p1_below, .inl (G 0, 8, .inl p1_below))], [(a_p1_pairs, .inl (G 0, 8, .inl p1_pairs))], [(h, .inr (2, [.ref a_pairs, .ref a_below]))], [(a_below, .inl (G 0, 8, .inl below))], [(a_pairs, .inl (G 0, 8, .inl pairs_12))]]) hx hb (hml.trans hl.1.symm) hown (hts (.methodLink RX2 31 arraycopyName) (List.mem_of_getElem? (i := 2) rfl)) (hts (.native arraycopyName) (List.mem_of_getElem? (i := 3) rfl)) (hts (.static arraycopyName) (List.mem_of_getElem? (i := 4) rfl)) (hts (.initialized RJ10) (List.mem_of_getElem? (i := 5) rfl)) hE hP hN hS 2 5 rfl rfl (by decide) (by decide) (by decide) (by decide) (by decide) (by decide) (by decide) (by rw [e_pairs_12]; rfl) rfl dX2_copyFrom_12 (fun H locs hP hS => ?_)
  refine lv_aload_n hx hb dX2_copyFrom_15 rfl (lv_at hl 1 rfl) ?_
  refine x_get hx hb hts u_X2_copyFrom_X2 hown hE hP 0 rfl rfl 1 (by decide) (hts (.fieldLink RX2 15 "DecreasingDiagrams$LabelOrder" "below" "[I") (List.mem_of_getElem? (i := 6) rfl)) rfl dX2_copyFrom_16 ?_
  refine lv_iconst (v := 0) hx hb dX2_copyFrom_19 (by decide) ?_
  refine lv_aload_n hx hb dX2_copyFrom_20 rfl (lv_at hl 0 rfl) ?_
  refine x_get hx hb hts u_X2_copyFrom_X2 hown hE hP 3 rfl rfl 1 (by decide) (hts (.fieldLink RX2 15 "DecreasingDiagrams$LabelOrder" "below" "[I") (List.mem_of_getElem? (i := 6) rfl)) rfl dX2_copyFrom_21 ?_
  refine lv_iconst (v := 0) hx hb dX2_copyFrom_24 (by decide) ?_
  refine lv_bipush (v := 8) hx hb dX2_copyFrom_25 (by decide) ?_
  obtain ⟨below_27, e_below_27, hf⟩ := lt_some hf
  refine x_copyi (I' := [[(h_p1, .inr (2, [.ref a_p1_pairs, .ref a_p1_below]))], [(a_p1_below, .inl (G 0, 8, .inl p1_below))], [(a_p1_pairs, .inl (G 0, 8, .inl p1_pairs))], [(h, .inr (2, [.ref a_pairs, .ref a_below]))], [(a_below, .inl (G 0, 8, .inl below_27))], [(a_pairs, .inl (G 0, 8, .inl pairs_12))]]) hx hb (hml.trans hl.1.symm) hown (hts (.methodLink RX2 31 arraycopyName) (List.mem_of_getElem? (i := 2) rfl)) (hts (.native arraycopyName) (List.mem_of_getElem? (i := 3) rfl)) (hts (.static arraycopyName) (List.mem_of_getElem? (i := 4) rfl)) (hts (.initialized RJ10) (List.mem_of_getElem? (i := 5) rfl)) hE hP hN hS 1 4 rfl rfl (by decide) (by decide) (by decide) (by decide) (by decide) (by decide) (by decide) (by rw [e_below_27]; rfl) rfl dX2_copyFrom_27 (fun H locs hP hS => ?_)
  have hf := Option.some.inj hf
  rewrite [← hQ, ← hf]
  exact x_vret hx hb hr hlocks hP hS dX2_copyFrom_30

set_option maxRecDepth 20000 in
theorem u_X8_copyFrom_X8 : ∀ w ∈ wsX80, w ∈ wsX8_copyFrom := xx_pl _ [8, 9, 10] (by decide +kernel)
def f_X8_copyFrom (p1_count : Int32) (p1_lefts : (Nat → Int32)) (p1_rights : (Nat → Int32)) (lefts : (Nat → Int32)) (rights : (Nat → Int32)) : Option (Int32 × (Nat → Int32) × (Nat → Int32)) :=
  lt p1_count (fun count_5 => lt (va_cpy p1_lefts lefts 0 0 6) (fun lefts_20 => lt (va_cpy p1_rights rights 0 0 6) (fun rights_35 => some (count_5, lefts_20, rights_35))))
set_option maxHeartbeats 4000000 in
set_option maxRecDepth 100000 in
theorem k_X8_copyFrom (l : Launch) (D : va_G) (G : Nat → ClassId) (fu : Nat) (h : Nat) (h_p1 : Nat) (a_p1_lefts : Nat) (a_p1_rights : Nat) (a_lefts : Nat) (a_rights : Nat) (p1_count : Int32) (count : Int32) (p1_lefts : (Nat → Int32)) (p1_rights : (Nat → Int32)) (lefts : (Nat → Int32)) (rights : (Nat → Int32))   (out : Int32 × (Nat → Int32) × (Nat → Int32)) (hf : f_X8_copyFrom p1_count p1_lefts p1_rights lefts rights = some out) : xMet l yX8_copyFrom wsX8_copyFrom (rM 1 26) D G [.ref h, .ref h_p1] [[(h_p1, .inr (8, [.int p1_count, .ref a_p1_lefts, .ref a_p1_rights]))], [(a_p1_lefts, .inl (G 0, 6, .inl p1_lefts))], [(a_p1_rights, .inl (G 0, 6, .inl p1_rights))], [(h, .inr (8, [.int count, .ref a_lefts, .ref a_rights]))], [(a_lefts, .inl (G 0, 6, .inl lefts))], [(a_rights, .inl (G 0, 6, .inl rights))]] (xQv D [[(h_p1, .inr (8, [.int p1_count, .ref a_p1_lefts, .ref a_p1_rights]))], [(a_p1_lefts, .inl (G 0, 6, .inl p1_lefts))], [(a_p1_rights, .inl (G 0, 6, .inl p1_rights))], [(h, .inr (8, [.int out.1, .ref a_lefts, .ref a_rights]))], [(a_lefts, .inl (G 0, 6, .inl out.2.1))], [(a_rights, .inl (G 0, 6, .inl out.2.2))]]) := by
  refine x_ent (cc := cX8_copyFrom) (maxL := 2) (by decide) rfl (Nat.le_of_ble_eq_true rfl) ?_
  intro p e s m blw meth c aa ls args Q H locs hQ hx hb hr hml hown hts hlocks hE hN hl hP hS
  have hown : s.vm.findClass RX8 = some m.cls := hown
  have hl : lv_has ls 2 [(0, .ref h), (1, .ref h_p1)] := hl
  refine lv_aload_n hx hb dX8_copyFrom_0 rfl (lv_at hl 0 rfl) ?_
  refine lv_aload_n hx hb dX8_copyFrom_1 rfl (lv_at hl 1 rfl) ?_
  refine x_get hx hb hts u_X8_copyFrom_X8 hown hE hP 0 rfl rfl 0 (by decide) (hts (.fieldLink RX8 9 "DecreasingDiagrams$RuleSet" "count" "I") (List.mem_of_getElem? (i := 1) rfl)) rfl dX8_copyFrom_2 ?_
  obtain ⟨count_5, e_count_5, hf⟩ := lt_some hf
  refine x_put (w := .int count_5) (ty := .int) (I' := [[(h_p1, .inr (8, [.int p1_count, .ref a_p1_lefts, .ref a_p1_rights]))], [(a_p1_lefts, .inl (G 0, 6, .inl p1_lefts))], [(a_p1_rights, .inl (G 0, 6, .inl p1_rights))], [(h, .inr (8, [.int count_5, .ref a_lefts, .ref a_rights]))], [(a_lefts, .inl (G 0, 6, .inl lefts))], [(a_rights, .inl (G 0, 6, .inl rights))]]) hx hb hts u_X8_copyFrom_X8 tyX8 tyX8_ok nmX8 hown hE hP hN hS 3 rfl rfl 0 (by decide) (hts (.fieldLink RX8 9 "DecreasingDiagrams$RuleSet" "count" "I") (List.mem_of_getElem? (i := 1) rfl)) rfl (congrArg Value.int e_count_5) (by decide +kernel) rfl rfl (Nat.le_of_ble_eq_true rfl) rfl dX8_copyFrom_5 (fun H locs hP hS => ?_)
  refine lv_aload_n hx hb dX8_copyFrom_8 rfl (lv_at hl 1 rfl) ?_
  refine x_get hx hb hts u_X8_copyFrom_X8 hown hE hP 0 rfl rfl 1 (by decide) (hts (.fieldLink RX8 15 "DecreasingDiagrams$RuleSet" "lefts" "[I") (List.mem_of_getElem? (i := 2) rfl)) rfl dX8_copyFrom_9 ?_
  refine lv_iconst (v := 0) hx hb dX8_copyFrom_12 (by decide) ?_
  refine lv_aload_n hx hb dX8_copyFrom_13 rfl (lv_at hl 0 rfl) ?_
  refine x_get hx hb hts u_X8_copyFrom_X8 hown hE hP 3 rfl rfl 1 (by decide) (hts (.fieldLink RX8 15 "DecreasingDiagrams$RuleSet" "lefts" "[I") (List.mem_of_getElem? (i := 2) rfl)) rfl dX8_copyFrom_14 ?_
  refine lv_iconst (v := 0) hx hb dX8_copyFrom_17 (by decide) ?_
  refine lv_bipush (v := 6) hx hb dX8_copyFrom_18 (by decide) ?_
  obtain ⟨lefts_20, e_lefts_20, hf⟩ := lt_some hf
  refine x_copyi (I' := [[(h_p1, .inr (8, [.int p1_count, .ref a_p1_lefts, .ref a_p1_rights]))], [(a_p1_lefts, .inl (G 0, 6, .inl p1_lefts))], [(a_p1_rights, .inl (G 0, 6, .inl p1_rights))], [(h, .inr (8, [.int count_5, .ref a_lefts, .ref a_rights]))], [(a_lefts, .inl (G 0, 6, .inl lefts_20))], [(a_rights, .inl (G 0, 6, .inl rights))]]) hx hb (hml.trans hl.1.symm) hown (hts (.methodLink RX8 22 arraycopyName) (List.mem_of_getElem? (i := 3) rfl)) (hts (.native arraycopyName) (List.mem_of_getElem? (i := 4) rfl)) (hts (.static arraycopyName) (List.mem_of_getElem? (i := 5) rfl)) (hts (.initialized RJ10) (List.mem_of_getElem? (i := 6) rfl)) hE hP hN hS 1 4 rfl rfl (by decide) (by decide) (by decide) (by decide) (by decide) (by decide) (by decide) (by rw [e_lefts_20]; rfl) rfl dX8_copyFrom_20 (fun H locs hP hS => ?_)
  refine lv_aload_n hx hb dX8_copyFrom_23 rfl (lv_at hl 1 rfl) ?_
  refine x_get hx hb hts u_X8_copyFrom_X8 hown hE hP 0 rfl rfl 2 (by decide) (hts (.fieldLink RX8 19 "DecreasingDiagrams$RuleSet" "rights" "[I") (List.mem_of_getElem? (i := 7) rfl)) rfl dX8_copyFrom_24 ?_
  refine lv_iconst (v := 0) hx hb dX8_copyFrom_27 (by decide) ?_
  refine lv_aload_n hx hb dX8_copyFrom_28 rfl (lv_at hl 0 rfl) ?_
  refine x_get hx hb hts u_X8_copyFrom_X8 hown hE hP 3 rfl rfl 2 (by decide) (hts (.fieldLink RX8 19 "DecreasingDiagrams$RuleSet" "rights" "[I") (List.mem_of_getElem? (i := 7) rfl)) rfl dX8_copyFrom_29 ?_
  refine lv_iconst (v := 0) hx hb dX8_copyFrom_32 (by decide) ?_
  refine lv_bipush (v := 6) hx hb dX8_copyFrom_33 (by decide) ?_
  obtain ⟨rights_35, e_rights_35, hf⟩ := lt_some hf
  refine x_copyi (I' := [[(h_p1, .inr (8, [.int p1_count, .ref a_p1_lefts, .ref a_p1_rights]))], [(a_p1_lefts, .inl (G 0, 6, .inl p1_lefts))], [(a_p1_rights, .inl (G 0, 6, .inl p1_rights))], [(h, .inr (8, [.int count_5, .ref a_lefts, .ref a_rights]))], [(a_lefts, .inl (G 0, 6, .inl lefts_20))], [(a_rights, .inl (G 0, 6, .inl rights_35))]]) hx hb (hml.trans hl.1.symm) hown (hts (.methodLink RX8 22 arraycopyName) (List.mem_of_getElem? (i := 3) rfl)) (hts (.native arraycopyName) (List.mem_of_getElem? (i := 4) rfl)) (hts (.static arraycopyName) (List.mem_of_getElem? (i := 5) rfl)) (hts (.initialized RJ10) (List.mem_of_getElem? (i := 6) rfl)) hE hP hN hS 2 5 rfl rfl (by decide) (by decide) (by decide) (by decide) (by decide) (by decide) (by decide) (by rw [e_rights_35]; rfl) rfl dX8_copyFrom_35 (fun H locs hP hS => ?_)
  have hf := Option.some.inj hf
  rewrite [← hQ, ← hf]
  exact x_vret hx hb hr hlocks hP hS dX8_copyFrom_38

set_option maxRecDepth 20000 in
theorem u_X11_saveReachable_X11 : ∀ w ∈ wsX110, w ∈ wsX11_saveReachable := xx_pl _ [35, 36, 37, 38, 39, 40, 41, 42, 43, 44, 45, 46, 47, 48, 49, 50] (by decide +kernel)
set_option maxRecDepth 20000 in
theorem u_X11_saveReachable_X3 : ∀ w ∈ wsX30, w ∈ wsX11_saveReachable := xx_pl _ [51, 52, 53, 54, 55, 56] (by decide +kernel)
set_option maxRecDepth 20000 in
theorem u_X11_saveReachable_X5 : ∀ w ∈ wsX50, w ∈ wsX11_saveReachable := xx_pl _ [57, 58] (by decide +kernel)
def f_X11_saveReachable_L37 (system_objects : Int32) (arrays_sizes : (Nat → Int32)) (reach : (Nat → Int32)) (v1 : Int32) (rec_37 : Int32 → (Nat → Nat → Int64) → Option (Int32 × (Nat → Int32) × (Nat → Nat → Int64) × (Nat → Int32))) (v2 : Int32) (arrays_values : (Nat → Nat → Int64)) : Option (Int32 × (Nat → Int32) × (Nat → Nat → Int64) × (Nat → Int32)) :=
  if system_objects ≤ v2 then (some (system_objects, arrays_sizes, arrays_values, reach)) else (ck v1 3 (ck v2 16 (ck v2 16 (lt (up2 arrays_values v1.toNatClampNeg v2.toNatClampNeg ((reach v2.toNatClampNeg).toInt64)) (fun arrays_values_65 => lt (v2 + 1) (fun v2_66 => rec_37 v2_66 arrays_values_65))))))
def f_X11_saveReachable (fu : Nat) (system_objects : Int32) (system_steps : Int32) (arrays_sizes : (Nat → Int32)) (arrays_values : (Nat → Nat → Int64)) (reach : (Nat → Int32)) (system_labels : (Nat → Int32)) (system_sources : (Nat → Int32)) (system_targets : (Nat → Int32)) (v1 : Int32) : Option (Int32 × (Nat → Int32) × (Nat → Nat → Int64) × (Nat → Int32)) :=
  (f_X11_isArray v1).bind (fun r_1 => if ¬ r_1 = 0 then ((f_X3_fillReach fu system_objects system_steps reach system_labels system_sources system_targets 16).bind (fun r_17 => (f_X5_renew fu arrays_sizes arrays_values v1 system_objects).bind (fun r_32 => lt (0 : Int32) (fun v2_36 => lp (τ := Int32 → (Nat → Nat → Int64) → Option (Int32 × (Nat → Int32) × (Nat → Nat → Int64) × (Nat → Int32))) (fun _ _ => none) (f_X11_saveReachable_L37 system_objects r_32.1 r_17 v1) fu v2_36 r_32.2)))) else (some ((-1), arrays_sizes, arrays_values, reach)))
set_option maxHeartbeats 4000000 in
set_option maxRecDepth 100000 in
theorem k_X11_saveReachable (l : Launch) (D : va_G) (G : Nat → ClassId) (fu : Nat) (h : Nat) (h_order : Nat) (h_system : Nat) (h_rules : Nat) (h_savedOrder : Nat) (h_savedSystem : Nat) (h_savedRules : Nat) (h_peaks : Nat) (h_leftPaths : Nat) (h_rightPaths : Nat) (h_text : Nat) (h_labellings : Nat) (h_input : Nat) (h_explorer : Nat) (h_arrays : Nat) (a_reach : Nat) (a_arrays_sizes : Nat) (a_arrays_values : Nat) (r_arrays_values : Nat → Nat) (a_system_words : Nat) (a_system_sources : Nat) (a_system_targets : Nat) (a_system_labels : Nat) (snapshotSaved : Int32) (system_objects : Int32) (system_steps : Int32) (arrays_sizes : (Nat → Int32)) (arrays_values : (Nat → Nat → Int64)) (reach : (Nat → Int32)) (system_labels : (Nat → Int32)) (system_sources : (Nat → Int32)) (system_targets : (Nat → Int32))  (v1 : Int32) (out : Int32 × (Nat → Int32) × (Nat → Nat → Int64) × (Nat → Int32)) (hf : f_X11_saveReachable fu system_objects system_steps arrays_sizes arrays_values reach system_labels system_sources system_targets v1 = some out) : xMet l yX11_saveReachable wsX11_saveReachable (rM 3 71) D G [.ref h, .int v1] [[(h, .inr (10, [.ref h_order, .ref h_system, .ref h_rules, .ref h_savedOrder, .ref h_savedSystem, .ref h_savedRules, .int snapshotSaved, .ref h_peaks, .ref h_leftPaths, .ref h_rightPaths, .ref h_text, .ref h_labellings, .ref h_input, .ref h_explorer, .ref h_arrays, .ref a_reach]))], [(h_arrays, .inr (5, [.ref a_arrays_sizes, .ref a_arrays_values]))], [(a_arrays_sizes, .inl (G 0, 3, .inl arrays_sizes))], [gO (G 5) a_arrays_values r_arrays_values 3], gJ (G 1) r_arrays_values 3 16 arrays_values, [(a_reach, .inl (G 0, 16, .inl reach))], [(h_system, .inr (3, [.int system_objects, .ref a_system_words, .int system_steps, .ref a_system_sources, .ref a_system_targets, .ref a_system_labels]))], [(a_system_labels, .inl (G 0, 32, .inl system_labels))], [(a_system_sources, .inl (G 0, 32, .inl system_sources))], [(a_system_targets, .inl (G 0, 32, .inl system_targets))]] (xQi D [[(h, .inr (10, [.ref h_order, .ref h_system, .ref h_rules, .ref h_savedOrder, .ref h_savedSystem, .ref h_savedRules, .int snapshotSaved, .ref h_peaks, .ref h_leftPaths, .ref h_rightPaths, .ref h_text, .ref h_labellings, .ref h_input, .ref h_explorer, .ref h_arrays, .ref a_reach]))], [(h_arrays, .inr (5, [.ref a_arrays_sizes, .ref a_arrays_values]))], [(a_arrays_sizes, .inl (G 0, 3, .inl out.2.1))], [gO (G 5) a_arrays_values r_arrays_values 3], gJ (G 1) r_arrays_values 3 16 out.2.2.1, [(a_reach, .inl (G 0, 16, .inl out.2.2.2))], [(h_system, .inr (3, [.int system_objects, .ref a_system_words, .int system_steps, .ref a_system_sources, .ref a_system_targets, .ref a_system_labels]))], [(a_system_labels, .inl (G 0, 32, .inl system_labels))], [(a_system_sources, .inl (G 0, 32, .inl system_sources))], [(a_system_targets, .inl (G 0, 32, .inl system_targets))]] out.1) := by
  refine x_ent (cc := cX11_saveReachable) (maxL := 3) (by decide) rfl (Nat.le_of_ble_eq_true rfl) ?_
  intro p e s m blw meth c aa ls args Q H locs hQ hx hb hr hml hown hts hlocks hE hN hl hP hS
  have hown : s.vm.findClass RX11 = some m.cls := hown
  have hl : lv_has ls 3 [(0, .ref h), (1, .int v1)] := hl
  have L37 : ∀ (arrays_sizes : (Nat → Int32)) (reach : (Nat → Int32)), ∀ (n_37 : Nat) (v2 : Int32) (arrays_values : (Nat → Nat → Int64)) (H : Heap) (locs : List Loc) (ls : Array Slot), xW D aa [[(h, .inr (10, [.ref h_order, .ref h_system, .ref h_rules, .ref h_savedOrder, .ref h_savedSystem, .ref h_savedRules, .int snapshotSaved, .ref h_peaks, .ref h_leftPaths, .ref h_rightPaths, .ref h_text, .ref h_labellings, .ref h_input, .ref h_explorer, .ref h_arrays, .ref a_reach]))], [(h_arrays, .inr (5, [.ref a_arrays_sizes, .ref a_arrays_values]))], [(a_arrays_sizes, .inl (G 0, 3, .inl arrays_sizes))], [gO (G 5) a_arrays_values r_arrays_values 3], gJ (G 1) r_arrays_values 3 16 arrays_values, [(a_reach, .inl (G 0, 16, .inl reach))], [(h_system, .inr (3, [.int system_objects, .ref a_system_words, .int system_steps, .ref a_system_sources, .ref a_system_targets, .ref a_system_labels]))], [(a_system_labels, .inl (G 0, 32, .inl system_labels))], [(a_system_sources, .inl (G 0, 32, .inl system_sources))], [(a_system_targets, .inl (G 0, 32, .inl system_targets))]] H → va_S (xA aa) s.heap H locs → lv_has ls 3 [(0, .ref h), (1, .int v1), (2, .int v2)] → lp (τ := Int32 → (Nat → Nat → Int64) → Option (Int32 × (Nat → Int32) × (Nat → Nat → Int64) × (Nat → Int32))) (fun _ _ => none) (f_X11_saveReachable_L37 system_objects arrays_sizes reach v1) n_37 v2 arrays_values = some out → W p l e (rM 3 71) s m args blw meth c H locs 0 0 Q (F0 m 37 ls []) := by
    intro arrays_sizes reach   n_37
    induction n_37 with
    | zero =>
      intro v2 arrays_values H locs ls hP hS hl hf
      exact no_some hf
    | succ n_37 ih_37 =>
      intro v2 arrays_values H locs ls hP hS hl hf
      have hf : f_X11_saveReachable_L37 system_objects arrays_sizes reach v1 (lp (τ := Int32 → (Nat → Nat → Int64) → Option (Int32 × (Nat → Int32) × (Nat → Nat → Int64) × (Nat → Int32))) (fun _ _ => none) (f_X11_saveReachable_L37 system_objects arrays_sizes reach v1) n_37) v2 arrays_values = some out := hf
      refine lv_iload_n hx hb dX11_saveReachable_37 rfl (lv_at hl 2 rfl) ?_
      refine lv_aload_n hx hb dX11_saveReachable_38 rfl (lv_at hl 0 rfl) ?_
      refine x_get hx hb hts u_X11_saveReachable_X11 hown hE hP 0 rfl rfl 1 (by decide) (hts (.fieldLink RX11 19 "DecreasingDiagrams" "system" "LDecreasingDiagrams$LabelledSystem;") (List.mem_of_getElem? (i := 1) rfl)) rfl dX11_saveReachable_39 ?_
      refine x_getN hx hb hts u_X11_saveReachable_X3 hown hE hP 6 rfl rfl 0 (by decide) (hE.2 (.fieldLinkNest RX11 149 "DecreasingDiagrams$LabelledSystem" "objects" "I" RX11) (List.mem_of_getElem? (i := 5) rfl)) rfl dX11_saveReachable_42 ?_
      refine lv_icmp_ge (tgt := 72) hx hb dX11_saveReachable_45 (by decide) (fun c_45 => ?_) (fun c_45 => ?_)
      · have hf := it_pos c_45 hf
        refine lv_aload_n hx hb dX11_saveReachable_72 rfl (lv_at hl 0 rfl) ?_
        refine x_get hx hb hts u_X11_saveReachable_X11 hown hE hP 0 rfl rfl 1 (by decide) (hts (.fieldLink RX11 19 "DecreasingDiagrams" "system" "LDecreasingDiagrams$LabelledSystem;") (List.mem_of_getElem? (i := 1) rfl)) rfl dX11_saveReachable_73 ?_
        refine x_getN hx hb hts u_X11_saveReachable_X3 hown hE hP 6 rfl rfl 0 (by decide) (hE.2 (.fieldLinkNest RX11 149 "DecreasingDiagrams$LabelledSystem" "objects" "I" RX11) (List.mem_of_getElem? (i := 5) rfl)) rfl dX11_saveReachable_76 ?_
        have hf := Option.some.inj hf
        rewrite [← hQ, ← hf]
        exact x_iret hx hb hr hlocks hP hS dX11_saveReachable_79
      · have hf := it_neg c_45 hf
        refine lv_aload_n hx hb dX11_saveReachable_48 rfl (lv_at hl 0 rfl) ?_
        refine x_get hx hb hts u_X11_saveReachable_X11 hown hE hP 0 rfl rfl 14 (by decide) (hts (.fieldLink RX11 91 "DecreasingDiagrams" "arrays" "LDecreasingDiagrams$LongArrays;") (List.mem_of_getElem? (i := 3) rfl)) rfl dX11_saveReachable_49 ?_
        refine x_getN hx hb hts u_X11_saveReachable_X5 hown hE hP 1 rfl rfl 1 (by decide) (hE.2 (.fieldLinkNest RX11 327 "DecreasingDiagrams$LongArrays" "values" "[[J" RX11) (List.mem_of_getElem? (i := 52) rfl)) rfl dX11_saveReachable_52 ?_
        refine lv_iload_n hx hb dX11_saveReachable_55 rfl (lv_at hl 1 rfl) ?_
        obtain ⟨hq_56, hf⟩ := ck_some hf
        refine x_aald hx hb hE hP 3 5 rfl rfl hq_56 dX11_saveReachable_56 ?_
        refine lv_iload_n hx hb dX11_saveReachable_57 rfl (lv_at hl 2 rfl) ?_
        refine lv_aload_n hx hb dX11_saveReachable_58 rfl (lv_at hl 0 rfl) ?_
        refine x_get hx hb hts u_X11_saveReachable_X11 hown hE hP 0 rfl rfl 15 (by decide) (hts (.fieldLink RX11 95 "DecreasingDiagrams" "reach" "[I") (List.mem_of_getElem? (i := 2) rfl)) rfl dX11_saveReachable_59 ?_
        refine lv_iload_n hx hb dX11_saveReachable_62 rfl (lv_at hl 2 rfl) ?_
        obtain ⟨hi, hf⟩ := ck_some hf
        refine x_iald hx hb hE hP 5 rfl hi dX11_saveReachable_63 ?_
        refine lv_i2l hx hb dX11_saveReachable_64 rfl ?_
        obtain ⟨hi, hf⟩ := ck_some hf
        obtain ⟨arrays_values_65, e_arrays_values_65, hf⟩ := lt_some hf
        refine x_last2 (I' := [[(h, .inr (10, [.ref h_order, .ref h_system, .ref h_rules, .ref h_savedOrder, .ref h_savedSystem, .ref h_savedRules, .int snapshotSaved, .ref h_peaks, .ref h_leftPaths, .ref h_rightPaths, .ref h_text, .ref h_labellings, .ref h_input, .ref h_explorer, .ref h_arrays, .ref a_reach]))], [(h_arrays, .inr (5, [.ref a_arrays_sizes, .ref a_arrays_values]))], [(a_arrays_sizes, .inl (G 0, 3, .inl arrays_sizes))], [gO (G 5) a_arrays_values r_arrays_values 3], gJ (G 1) r_arrays_values 3 16 arrays_values_65, [(a_reach, .inl (G 0, 16, .inl reach))], [(h_system, .inr (3, [.int system_objects, .ref a_system_words, .int system_steps, .ref a_system_sources, .ref a_system_targets, .ref a_system_labels]))], [(a_system_labels, .inl (G 0, 32, .inl system_labels))], [(a_system_sources, .inl (G 0, 32, .inl system_sources))], [(a_system_targets, .inl (G 0, 32, .inl system_targets))]]) hx hb hE hP hN hS 4 rfl hq_56 hi e_arrays_values_65 rfl dX11_saveReachable_65 (fun H locs hP hS => ?_)
        obtain ⟨v2_66, e_v2_66, hf⟩ := lt_some hf
        refine lv_iinc (v := v2_66) (lv' := [(2, .int v2_66), (0, .ref h), (1, .int v1)]) hx hb dX11_saveReachable_66 hl (k := 2) rfl (by rw [e_v2_66]; rfl) (by decide) rfl (fun ls hl => ?_)
        refine lv_goto (tgt := 37) hx hb dX11_saveReachable_69 (by decide) ?_
        exact ih_37 v2_66 arrays_values_65 H locs ls hP hS (lv_sub hl [1, 2, 0] rfl) hf
  refine lv_iload_n hx hb dX11_saveReachable_0 rfl (lv_at hl 1 rfl) ?_
  obtain ⟨r_1, hr_1, hf⟩ := bd_some hf
  refine x_goi0 (ps := []) (x_runS (As := [.int v1]) (rest := []) (ps := []) ⟨hx, hb, hml, hown, hts⟩ (k_X11_isArray l D G fu v1 r_1 hr_1) (va_cwS 1 hts gX11_saveReachable_X11_isArray rfl rfl rfl (by decide +kernel) ⟨Nat.le_of_ble_eq_true rfl, Nat.le_of_ble_eq_true rfl⟩) hE hP hN rfl (by decide) rfl hl.1 (Nat.le_of_ble_eq_true rfl) dX11_saveReachable_1 ⟨Nat.zero_le _, Nat.zero_le _⟩) hP hN hS rfl (fun H locs hP hS => ?_)
  refine lv_if_ne (tgt := 9) hx hb dX11_saveReachable_4 (by decide) (fun c_4 => ?_) (fun c_4 => ?_)
  · have hf := it_pos c_4 hf
    refine lv_aload_n hx hb dX11_saveReachable_9 rfl (lv_at hl 0 rfl) ?_
    refine x_get hx hb hts u_X11_saveReachable_X11 hown hE hP 0 rfl rfl 1 (by decide) (hts (.fieldLink RX11 19 "DecreasingDiagrams" "system" "LDecreasingDiagrams$LabelledSystem;") (List.mem_of_getElem? (i := 1) rfl)) rfl dX11_saveReachable_10 ?_
    refine lv_aload_n hx hb dX11_saveReachable_13 rfl (lv_at hl 0 rfl) ?_
    refine x_get hx hb hts u_X11_saveReachable_X11 hown hE hP 0 rfl rfl 15 (by decide) (hts (.fieldLink RX11 95 "DecreasingDiagrams" "reach" "[I") (List.mem_of_getElem? (i := 2) rfl)) rfl dX11_saveReachable_14 ?_
    obtain ⟨r_17, hr_17, hf⟩ := bd_some hf
    refine x_gov (ps := [5, 6, 7, 8, 9]) (qs := [0, 1, 2, 3, 4]) (n := 10) (I' := [[(h, .inr (10, [.ref h_order, .ref h_system, .ref h_rules, .ref h_savedOrder, .ref h_savedSystem, .ref h_savedRules, .int snapshotSaved, .ref h_peaks, .ref h_leftPaths, .ref h_rightPaths, .ref h_text, .ref h_labellings, .ref h_input, .ref h_explorer, .ref h_arrays, .ref a_reach]))], [(h_arrays, .inr (5, [.ref a_arrays_sizes, .ref a_arrays_values]))], [(a_arrays_sizes, .inl (G 0, 3, .inl arrays_sizes))], [gO (G 5) a_arrays_values r_arrays_values 3], gJ (G 1) r_arrays_values 3 16 arrays_values, [(a_reach, .inl (G 0, 16, .inl r_17))], [(h_system, .inr (3, [.int system_objects, .ref a_system_words, .int system_steps, .ref a_system_sources, .ref a_system_targets, .ref a_system_labels]))], [(a_system_labels, .inl (G 0, 32, .inl system_labels))], [(a_system_sources, .inl (G 0, 32, .inl system_sources))], [(a_system_targets, .inl (G 0, 32, .inl system_targets))]]) (x_runVN (As := [.ref a_reach]) (rest := []) (ps := [5, 6, 7, 8, 9]) ⟨hx, hb, hml, hown, hts⟩ (k_X3_fillReach l D G fu h_system a_reach a_system_words a_system_sources a_system_targets a_system_labels system_objects system_steps reach system_labels system_sources system_targets 16 r_17 hr_17) ⟨va_cnB 1 hts gX11_saveReachable_X3_fillReach_n191 rfl rfl rfl (hE.2 (.methodLinkNest RX11 191 yX3_fillReach RX11) (List.mem_of_getElem? (i := 72) rfl)) (hts (.initialized RX3) (List.mem_of_getElem? (i := 9) rfl)) (by decide +kernel) ⟨Nat.le_of_ble_eq_true rfl, Nat.le_of_ble_eq_true rfl⟩, (hts (.instanceMethod yX3_fillReach) (List.mem_of_getElem? (i := 8) rfl)), (hts (.selects RX3 yX3_fillReach yX3_fillReach) (List.mem_of_getElem? (i := 10) rfl))⟩ hE hP hN rfl (by decide) 6 rfl rfl rfl hl.1 (Nat.le_of_ble_eq_true rfl) dX11_saveReachable_17 ⟨Nat.zero_le _, Nat.zero_le _⟩) hP hN hS rfl rfl rfl rfl rfl (by decide) (fun H locs hP hS => ?_)
    refine lv_aload_n hx hb dX11_saveReachable_20 rfl (lv_at hl 0 rfl) ?_
    refine x_get hx hb hts u_X11_saveReachable_X11 hown hE hP 0 rfl rfl 14 (by decide) (hts (.fieldLink RX11 91 "DecreasingDiagrams" "arrays" "LDecreasingDiagrams$LongArrays;") (List.mem_of_getElem? (i := 3) rfl)) rfl dX11_saveReachable_21 ?_
    refine lv_iload_n hx hb dX11_saveReachable_24 rfl (lv_at hl 1 rfl) ?_
    refine lv_aload_n hx hb dX11_saveReachable_25 rfl (lv_at hl 0 rfl) ?_
    refine x_get hx hb hts u_X11_saveReachable_X11 hown hE hP 0 rfl rfl 1 (by decide) (hts (.fieldLink RX11 19 "DecreasingDiagrams" "system" "LDecreasingDiagrams$LabelledSystem;") (List.mem_of_getElem? (i := 1) rfl)) rfl dX11_saveReachable_26 ?_
    refine x_getN hx hb hts u_X11_saveReachable_X3 hown hE hP 6 rfl rfl 0 (by decide) (hE.2 (.fieldLinkNest RX11 149 "DecreasingDiagrams$LabelledSystem" "objects" "I" RX11) (List.mem_of_getElem? (i := 5) rfl)) rfl dX11_saveReachable_29 ?_
    obtain ⟨r_32, hr_32, hf⟩ := bd_some hf
    refine x_gov (ps := [1, 2, 3, 4]) (qs := [0, 5, 6, 7, 8, 9]) (n := 10) (I' := [[(h, .inr (10, [.ref h_order, .ref h_system, .ref h_rules, .ref h_savedOrder, .ref h_savedSystem, .ref h_savedRules, .int snapshotSaved, .ref h_peaks, .ref h_leftPaths, .ref h_rightPaths, .ref h_text, .ref h_labellings, .ref h_input, .ref h_explorer, .ref h_arrays, .ref a_reach]))], [(h_arrays, .inr (5, [.ref a_arrays_sizes, .ref a_arrays_values]))], [(a_arrays_sizes, .inl (G 0, 3, .inl r_32.1))], [gO (G 5) a_arrays_values r_arrays_values 3], gJ (G 1) r_arrays_values 3 16 r_32.2, [(a_reach, .inl (G 0, 16, .inl r_17))], [(h_system, .inr (3, [.int system_objects, .ref a_system_words, .int system_steps, .ref a_system_sources, .ref a_system_targets, .ref a_system_labels]))], [(a_system_labels, .inl (G 0, 32, .inl system_labels))], [(a_system_sources, .inl (G 0, 32, .inl system_sources))], [(a_system_targets, .inl (G 0, 32, .inl system_targets))]]) (x_runVN (As := [.int v1, .int system_objects]) (rest := []) (ps := [1, 2, 3, 4]) ⟨hx, hb, hml, hown, hts⟩ (k_X5_renew l D G fu h_arrays a_arrays_sizes a_arrays_values r_arrays_values arrays_sizes arrays_values v1 system_objects r_32 hr_32) ⟨va_cnB 2 hts gX11_saveReachable_X5_renew_n318 rfl rfl rfl (hE.2 (.methodLinkNest RX11 318 yX5_renew RX11) (List.mem_of_getElem? (i := 110) rfl)) (hts (.initialized RX5) (List.mem_of_getElem? (i := 26) rfl)) (by decide +kernel) ⟨Nat.le_of_ble_eq_true rfl, Nat.le_of_ble_eq_true rfl⟩, (hts (.instanceMethod yX5_renew) (List.mem_of_getElem? (i := 25) rfl)), (hts (.selects RX5 yX5_renew yX5_renew) (List.mem_of_getElem? (i := 27) rfl))⟩ hE hP hN rfl (by decide) 1 rfl rfl rfl hl.1 (Nat.le_of_ble_eq_true rfl) dX11_saveReachable_32 ⟨Nat.zero_le _, Nat.zero_le _⟩) hP hN hS rfl rfl rfl rfl rfl (by decide) (fun H locs hP hS => ?_)
    refine lv_iconst (v := 0) hx hb dX11_saveReachable_35 (by decide) ?_
    obtain ⟨v2_36, e_v2_36, hf⟩ := lt_some hf
    refine x_istore_n (v := v2_36) (lv' := [(2, .int v2_36), (0, .ref h), (1, .int v1)]) hx hb dX11_saveReachable_36 e_v2_36 rfl hl (by decide) rfl (fun ls hl => ?_)
    exact L37 r_32.1 r_17   fu v2_36 r_32.2 H locs ls hP hS (lv_sub hl [1, 2, 0] rfl) hf
  · have hf := it_neg (fun h => h c_4) hf
    refine lv_iconst (v := -1) hx hb dX11_saveReachable_7 (by decide) ?_
    have hf := Option.some.inj hf
    rewrite [← hQ, ← hf]
    exact x_iret hx hb hr hlocks hP hS dX11_saveReachable_8

set_option maxRecDepth 20000 in
theorem u_X11_setElement_X11 : ∀ w ∈ wsX110, w ∈ wsX11_setElement := xx_pl _ [14, 15, 16, 17, 18, 19, 20, 21, 22, 23, 24, 25, 26, 27, 28, 29] (by decide +kernel)
set_option maxRecDepth 20000 in
theorem u_X11_setElement_X5 : ∀ w ∈ wsX50, w ∈ wsX11_setElement := xx_pl _ [30, 31] (by decide +kernel)
def f_X11_setElement (arrays_sizes : (Nat → Int32)) (arrays_values : (Nat → Nat → Int64)) (v1 : Int32) (v2 : Int32) (v3 : Int64) : Option (Int32 × (Nat → Nat → Int64)) :=
  (f_X11_isArray v1).bind (fun r_1 => if ¬ r_1 = 0 then ((f_X5_isMissing arrays_sizes v1).bind (fun r_14 => if r_14 = 0 then ((f_X5_hasElement arrays_sizes v1 v2).bind (fun r_29 => if ¬ r_29 = 0 then (ck v1 3 (ck v2 16 (lt (up2 arrays_values v1.toNatClampNeg v2.toNatClampNeg v3) (fun arrays_values_49 => some (1, arrays_values_49))))) else (some ((-13), arrays_values)))) else (some ((-11), arrays_values)))) else (some ((-1), arrays_values)))
set_option maxHeartbeats 4000000 in
set_option maxRecDepth 100000 in
theorem k_X11_setElement (l : Launch) (D : va_G) (G : Nat → ClassId) (fu : Nat) (h : Nat) (h_order : Nat) (h_system : Nat) (h_rules : Nat) (h_savedOrder : Nat) (h_savedSystem : Nat) (h_savedRules : Nat) (h_peaks : Nat) (h_leftPaths : Nat) (h_rightPaths : Nat) (h_text : Nat) (h_labellings : Nat) (h_input : Nat) (h_explorer : Nat) (h_arrays : Nat) (a_reach : Nat) (a_arrays_sizes : Nat) (a_arrays_values : Nat) (r_arrays_values : Nat → Nat) (snapshotSaved : Int32) (arrays_sizes : (Nat → Int32)) (arrays_values : (Nat → Nat → Int64))  (v1 : Int32) (v2 : Int32) (v3 : Int64) (out : Int32 × (Nat → Nat → Int64)) (hf : f_X11_setElement arrays_sizes arrays_values v1 v2 v3 = some out) : xMet l yX11_setElement wsX11_setElement (rM 1 22) D G [.ref h, .int v1, .int v2, .long v3] [[(h, .inr (10, [.ref h_order, .ref h_system, .ref h_rules, .ref h_savedOrder, .ref h_savedSystem, .ref h_savedRules, .int snapshotSaved, .ref h_peaks, .ref h_leftPaths, .ref h_rightPaths, .ref h_text, .ref h_labellings, .ref h_input, .ref h_explorer, .ref h_arrays, .ref a_reach]))], [(h_arrays, .inr (5, [.ref a_arrays_sizes, .ref a_arrays_values]))], [(a_arrays_sizes, .inl (G 0, 3, .inl arrays_sizes))], [gO (G 5) a_arrays_values r_arrays_values 3], gJ (G 1) r_arrays_values 3 16 arrays_values] (xQi D [[(h, .inr (10, [.ref h_order, .ref h_system, .ref h_rules, .ref h_savedOrder, .ref h_savedSystem, .ref h_savedRules, .int snapshotSaved, .ref h_peaks, .ref h_leftPaths, .ref h_rightPaths, .ref h_text, .ref h_labellings, .ref h_input, .ref h_explorer, .ref h_arrays, .ref a_reach]))], [(h_arrays, .inr (5, [.ref a_arrays_sizes, .ref a_arrays_values]))], [(a_arrays_sizes, .inl (G 0, 3, .inl arrays_sizes))], [gO (G 5) a_arrays_values r_arrays_values 3], gJ (G 1) r_arrays_values 3 16 out.2] out.1) := by
  refine x_ent (cc := cX11_setElement) (maxL := 5) (by decide) rfl (Nat.le_of_ble_eq_true rfl) ?_
  intro p e s m blw meth c aa ls args Q H locs hQ hx hb hr hml hown hts hlocks hE hN hl hP hS
  have hown : s.vm.findClass RX11 = some m.cls := hown
  have hl : lv_has ls 5 [(0, .ref h), (1, .int v1), (2, .int v2), (3, .long v3)] := hl
  refine lv_iload_n hx hb dX11_setElement_0 rfl (lv_at hl 1 rfl) ?_
  obtain ⟨r_1, hr_1, hf⟩ := bd_some hf
  refine x_goi0 (ps := []) (x_runS (As := [.int v1]) (rest := []) (ps := []) ⟨hx, hb, hml, hown, hts⟩ (k_X11_isArray l D G fu v1 r_1 hr_1) (va_cwS 1 hts gX11_setElement_X11_isArray rfl rfl rfl (by decide +kernel) ⟨Nat.le_of_ble_eq_true rfl, Nat.le_of_ble_eq_true rfl⟩) hE hP hN rfl (by decide) rfl hl.1 (Nat.le_of_ble_eq_true rfl) dX11_setElement_1 ⟨Nat.zero_le _, Nat.zero_le _⟩) hP hN hS rfl (fun H locs hP hS => ?_)
  refine lv_if_ne (tgt := 9) hx hb dX11_setElement_4 (by decide) (fun c_4 => ?_) (fun c_4 => ?_)
  · have hf := it_pos c_4 hf
    refine lv_aload_n hx hb dX11_setElement_9 rfl (lv_at hl 0 rfl) ?_
    refine x_get hx hb hts u_X11_setElement_X11 hown hE hP 0 rfl rfl 14 (by decide) (hts (.fieldLink RX11 91 "DecreasingDiagrams" "arrays" "LDecreasingDiagrams$LongArrays;") (List.mem_of_getElem? (i := 1) rfl)) rfl dX11_setElement_10 ?_
    refine lv_iload_n hx hb dX11_setElement_13 rfl (lv_at hl 1 rfl) ?_
    obtain ⟨r_14, hr_14, hf⟩ := bd_some hf
    refine x_goi0 (ps := [1, 2]) (x_runVN (As := [.int v1]) (rest := []) (ps := [1, 2]) ⟨hx, hb, hml, hown, hts⟩ (k_X5_isMissing l D G fu h_arrays a_arrays_sizes a_arrays_values arrays_sizes v1 r_14 hr_14) ⟨va_cnB 1 hts gX11_setElement_X5_isMissing_n321 rfl rfl rfl (hE.2 (.methodLinkNest RX11 321 yX5_isMissing RX11) (List.mem_of_getElem? (i := 111) rfl)) (hts (.initialized RX5) (List.mem_of_getElem? (i := 7) rfl)) (by decide +kernel) ⟨Nat.le_of_ble_eq_true rfl, Nat.le_of_ble_eq_true rfl⟩, (hts (.instanceMethod yX5_isMissing) (List.mem_of_getElem? (i := 6) rfl)), (hts (.selects RX5 yX5_isMissing yX5_isMissing) (List.mem_of_getElem? (i := 8) rfl))⟩ hE hP hN rfl (by decide) 1 rfl rfl rfl hl.1 (Nat.le_of_ble_eq_true rfl) dX11_setElement_14 ⟨Nat.zero_le _, Nat.zero_le _⟩) hP hN hS rfl (fun H locs hP hS => ?_)
    refine lv_if_eq (tgt := 23) hx hb dX11_setElement_17 (by decide) (fun c_17 => ?_) (fun c_17 => ?_)
    · have hf := it_pos c_17 hf
      refine lv_aload_n hx hb dX11_setElement_23 rfl (lv_at hl 0 rfl) ?_
      refine x_get hx hb hts u_X11_setElement_X11 hown hE hP 0 rfl rfl 14 (by decide) (hts (.fieldLink RX11 91 "DecreasingDiagrams" "arrays" "LDecreasingDiagrams$LongArrays;") (List.mem_of_getElem? (i := 1) rfl)) rfl dX11_setElement_24 ?_
      refine lv_iload_n hx hb dX11_setElement_27 rfl (lv_at hl 1 rfl) ?_
      refine lv_iload_n hx hb dX11_setElement_28 rfl (lv_at hl 2 rfl) ?_
      obtain ⟨r_29, hr_29, hf⟩ := bd_some hf
      refine x_goi0 (ps := [1, 2]) (x_runVN (As := [.int v1, .int v2]) (rest := []) (ps := [1, 2]) ⟨hx, hb, hml, hown, hts⟩ (k_X5_hasElement l D G fu h_arrays a_arrays_sizes a_arrays_values arrays_sizes v1 v2 r_29 hr_29) ⟨va_cnB 2 hts gX11_setElement_X5_hasElement_n324 rfl rfl rfl (hE.2 (.methodLinkNest RX11 324 yX5_hasElement RX11) (List.mem_of_getElem? (i := 112) rfl)) (hts (.initialized RX5) (List.mem_of_getElem? (i := 7) rfl)) (by decide +kernel) ⟨Nat.le_of_ble_eq_true rfl, Nat.le_of_ble_eq_true rfl⟩, (hts (.instanceMethod yX5_hasElement) (List.mem_of_getElem? (i := 11) rfl)), (hts (.selects RX5 yX5_hasElement yX5_hasElement) (List.mem_of_getElem? (i := 12) rfl))⟩ hE hP hN rfl (by decide) 1 rfl rfl rfl hl.1 (Nat.le_of_ble_eq_true rfl) dX11_setElement_29 ⟨Nat.zero_le _, Nat.zero_le _⟩) hP hN hS rfl (fun H locs hP hS => ?_)
      refine lv_if_ne (tgt := 38) hx hb dX11_setElement_32 (by decide) (fun c_32 => ?_) (fun c_32 => ?_)
      · have hf := it_pos c_32 hf
        refine lv_aload_n hx hb dX11_setElement_38 rfl (lv_at hl 0 rfl) ?_
        refine x_get hx hb hts u_X11_setElement_X11 hown hE hP 0 rfl rfl 14 (by decide) (hts (.fieldLink RX11 91 "DecreasingDiagrams" "arrays" "LDecreasingDiagrams$LongArrays;") (List.mem_of_getElem? (i := 1) rfl)) rfl dX11_setElement_39 ?_
        refine x_getN hx hb hts u_X11_setElement_X5 hown hE hP 1 rfl rfl 1 (by decide) (hE.2 (.fieldLinkNest RX11 327 "DecreasingDiagrams$LongArrays" "values" "[[J" RX11) (List.mem_of_getElem? (i := 52) rfl)) rfl dX11_setElement_42 ?_
        refine lv_iload_n hx hb dX11_setElement_45 rfl (lv_at hl 1 rfl) ?_
        obtain ⟨hq_46, hf⟩ := ck_some hf
        refine x_aald hx hb hE hP 3 5 rfl rfl hq_46 dX11_setElement_46 ?_
        refine lv_iload_n hx hb dX11_setElement_47 rfl (lv_at hl 2 rfl) ?_
        refine lv_lload_n hx hb dX11_setElement_48 rfl (lv_at hl 3 rfl) ?_
        obtain ⟨hi, hf⟩ := ck_some hf
        obtain ⟨arrays_values_49, e_arrays_values_49, hf⟩ := lt_some hf
        refine x_last2 (I' := [[(h, .inr (10, [.ref h_order, .ref h_system, .ref h_rules, .ref h_savedOrder, .ref h_savedSystem, .ref h_savedRules, .int snapshotSaved, .ref h_peaks, .ref h_leftPaths, .ref h_rightPaths, .ref h_text, .ref h_labellings, .ref h_input, .ref h_explorer, .ref h_arrays, .ref a_reach]))], [(h_arrays, .inr (5, [.ref a_arrays_sizes, .ref a_arrays_values]))], [(a_arrays_sizes, .inl (G 0, 3, .inl arrays_sizes))], [gO (G 5) a_arrays_values r_arrays_values 3], gJ (G 1) r_arrays_values 3 16 arrays_values_49]) hx hb hE hP hN hS 4 rfl hq_46 hi e_arrays_values_49 rfl dX11_setElement_49 (fun H locs hP hS => ?_)
        refine lv_iconst (v := 1) hx hb dX11_setElement_50 (by decide) ?_
        have hf := Option.some.inj hf
        rewrite [← hQ, ← hf]
        exact x_iret hx hb hr hlocks hP hS dX11_setElement_51
      · have hf := it_neg (fun h => h c_32) hf
        refine lv_bipush (v := -13) hx hb dX11_setElement_35 (by decide) ?_
        have hf := Option.some.inj hf
        rewrite [← hQ, ← hf]
        exact x_iret hx hb hr hlocks hP hS dX11_setElement_37
    · have hf := it_neg c_17 hf
      refine lv_bipush (v := -11) hx hb dX11_setElement_20 (by decide) ?_
      have hf := Option.some.inj hf
      rewrite [← hQ, ← hf]
      exact x_iret hx hb hr hlocks hP hS dX11_setElement_22
  · have hf := it_neg (fun h => h c_4) hf
    refine lv_iconst (v := -1) hx hb dX11_setElement_7 (by decide) ?_
    have hf := Option.some.inj hf
    rewrite [← hQ, ← hf]
    exact x_iret hx hb hr hlocks hP hS dX11_setElement_8

set_option maxRecDepth 20000 in
theorem u_X11_setLabel_X11 : ∀ w ∈ wsX110, w ∈ wsX11_setLabel := xx_pl _ [11, 12, 13, 14, 15, 16, 17, 18, 19, 20, 21, 22, 23, 24, 25, 26] (by decide +kernel)
set_option maxRecDepth 20000 in
theorem u_X11_setLabel_X3 : ∀ w ∈ wsX30, w ∈ wsX11_setLabel := xx_pl _ [27, 28, 29, 30, 31, 32] (by decide +kernel)
def f_X11_setLabel (system_steps : Int32) (system_labels : (Nat → Int32)) (v1 : Int32) (v2 : Int32) : Option (Int32 × (Nat → Int32)) :=
  (f_X3_hasStep system_steps v1).bind (fun r_5 => if r_5 = 0 then (some ((-1), system_labels)) else ((f_X11_isLabel v2).bind (fun r_12 => if ¬ r_12 = 0 then (ck v1 32 (lt (system_labels v1.toNatClampNeg) (fun v3_29 => ck v1 32 (lt (upd system_labels v1.toNatClampNeg v2) (fun system_labels_39 => some (v3_29, system_labels_39)))))) else (some ((-1), system_labels)))))
set_option maxHeartbeats 4000000 in
set_option maxRecDepth 100000 in
theorem k_X11_setLabel (l : Launch) (D : va_G) (G : Nat → ClassId) (fu : Nat) (h : Nat) (h_order : Nat) (h_system : Nat) (h_rules : Nat) (h_savedOrder : Nat) (h_savedSystem : Nat) (h_savedRules : Nat) (h_peaks : Nat) (h_leftPaths : Nat) (h_rightPaths : Nat) (h_text : Nat) (h_labellings : Nat) (h_input : Nat) (h_explorer : Nat) (h_arrays : Nat) (a_reach : Nat) (a_system_words : Nat) (a_system_sources : Nat) (a_system_targets : Nat) (a_system_labels : Nat) (snapshotSaved : Int32) (system_objects : Int32) (system_steps : Int32) (system_labels : (Nat → Int32))  (v1 : Int32) (v2 : Int32) (out : Int32 × (Nat → Int32)) (hf : f_X11_setLabel system_steps system_labels v1 v2 = some out) : xMet l yX11_setLabel wsX11_setLabel (rM 1 21) D G [.ref h, .int v1, .int v2] [[(h, .inr (10, [.ref h_order, .ref h_system, .ref h_rules, .ref h_savedOrder, .ref h_savedSystem, .ref h_savedRules, .int snapshotSaved, .ref h_peaks, .ref h_leftPaths, .ref h_rightPaths, .ref h_text, .ref h_labellings, .ref h_input, .ref h_explorer, .ref h_arrays, .ref a_reach]))], [(h_system, .inr (3, [.int system_objects, .ref a_system_words, .int system_steps, .ref a_system_sources, .ref a_system_targets, .ref a_system_labels]))], [(a_system_labels, .inl (G 0, 32, .inl system_labels))]] (xQi D [[(h, .inr (10, [.ref h_order, .ref h_system, .ref h_rules, .ref h_savedOrder, .ref h_savedSystem, .ref h_savedRules, .int snapshotSaved, .ref h_peaks, .ref h_leftPaths, .ref h_rightPaths, .ref h_text, .ref h_labellings, .ref h_input, .ref h_explorer, .ref h_arrays, .ref a_reach]))], [(h_system, .inr (3, [.int system_objects, .ref a_system_words, .int system_steps, .ref a_system_sources, .ref a_system_targets, .ref a_system_labels]))], [(a_system_labels, .inl (G 0, 32, .inl out.2))]] out.1) := by
  refine x_ent (cc := cX11_setLabel) (maxL := 4) (by decide) rfl (Nat.le_of_ble_eq_true rfl) ?_
  intro p e s m blw meth c aa ls args Q H locs hQ hx hb hr hml hown hts hlocks hE hN hl hP hS
  have hown : s.vm.findClass RX11 = some m.cls := hown
  have hl : lv_has ls 4 [(0, .ref h), (1, .int v1), (2, .int v2)] := hl
  refine lv_aload_n hx hb dX11_setLabel_0 rfl (lv_at hl 0 rfl) ?_
  refine x_get hx hb hts u_X11_setLabel_X11 hown hE hP 0 rfl rfl 1 (by decide) (hts (.fieldLink RX11 19 "DecreasingDiagrams" "system" "LDecreasingDiagrams$LabelledSystem;") (List.mem_of_getElem? (i := 1) rfl)) rfl dX11_setLabel_1 ?_
  refine lv_iload_n hx hb dX11_setLabel_4 rfl (lv_at hl 1 rfl) ?_
  obtain ⟨r_5, hr_5, hf⟩ := bd_some hf
  refine x_goi0 (ps := [1]) (x_runVN (As := [.int v1]) (rest := []) (ps := [1]) ⟨hx, hb, hml, hown, hts⟩ (k_X3_hasStep l D G fu h_system a_system_words a_system_sources a_system_targets a_system_labels system_objects system_steps v1 r_5 hr_5) ⟨va_cnB 1 hts gX11_setLabel_X3_hasStep_n135 rfl rfl rfl (hE.2 (.methodLinkNest RX11 135 yX3_hasStep RX11) (List.mem_of_getElem? (i := 63) rfl)) (hts (.initialized RX3) (List.mem_of_getElem? (i := 3) rfl)) (by decide +kernel) ⟨Nat.le_of_ble_eq_true rfl, Nat.le_of_ble_eq_true rfl⟩, (hts (.instanceMethod yX3_hasStep) (List.mem_of_getElem? (i := 2) rfl)), (hts (.selects RX3 yX3_hasStep yX3_hasStep) (List.mem_of_getElem? (i := 4) rfl))⟩ hE hP hN rfl (by decide) 1 rfl rfl rfl hl.1 (Nat.le_of_ble_eq_true rfl) dX11_setLabel_5 ⟨Nat.zero_le _, Nat.zero_le _⟩) hP hN hS rfl (fun H locs hP hS => ?_)
  refine lv_if_eq (tgt := 18) hx hb dX11_setLabel_8 (by decide) (fun c_8 => ?_) (fun c_8 => ?_)
  · have hf := it_pos c_8 hf
    refine lv_iconst (v := -1) hx hb dX11_setLabel_18 (by decide) ?_
    have hf := Option.some.inj hf
    rewrite [← hQ, ← hf]
    exact x_iret hx hb hr hlocks hP hS dX11_setLabel_19
  · have hf := it_neg c_8 hf
    refine lv_iload_n hx hb dX11_setLabel_11 rfl (lv_at hl 2 rfl) ?_
    obtain ⟨r_12, hr_12, hf⟩ := bd_some hf
    refine x_goi0 (ps := []) (x_runS (As := [.int v2]) (rest := []) (ps := []) ⟨hx, hb, hml, hown, hts⟩ (k_X11_isLabel l D G fu v2 r_12 hr_12) (va_cwS 1 hts gX11_setLabel_X11_isLabel rfl rfl rfl (by decide +kernel) ⟨Nat.le_of_ble_eq_true rfl, Nat.le_of_ble_eq_true rfl⟩) hE hP hN rfl (by decide) rfl hl.1 (Nat.le_of_ble_eq_true rfl) dX11_setLabel_12 ⟨Nat.zero_le _, Nat.zero_le _⟩) hP hN hS rfl (fun H locs hP hS => ?_)
    refine lv_if_ne (tgt := 20) hx hb dX11_setLabel_15 (by decide) (fun c_15 => ?_) (fun c_15 => ?_)
    · have hf := it_pos c_15 hf
      refine lv_aload_n hx hb dX11_setLabel_20 rfl (lv_at hl 0 rfl) ?_
      refine x_get hx hb hts u_X11_setLabel_X11 hown hE hP 0 rfl rfl 1 (by decide) (hts (.fieldLink RX11 19 "DecreasingDiagrams" "system" "LDecreasingDiagrams$LabelledSystem;") (List.mem_of_getElem? (i := 1) rfl)) rfl dX11_setLabel_21 ?_
      refine x_getN hx hb hts u_X11_setLabel_X3 hown hE hP 1 rfl rfl 5 (by decide) (hE.2 (.fieldLinkNest RX11 146 "DecreasingDiagrams$LabelledSystem" "labels" "[I" RX11) (List.mem_of_getElem? (i := 21) rfl)) rfl dX11_setLabel_24 ?_
      refine lv_iload_n hx hb dX11_setLabel_27 rfl (lv_at hl 1 rfl) ?_
      obtain ⟨hi, hf⟩ := ck_some hf
      refine x_iald hx hb hE hP 2 rfl hi dX11_setLabel_28 ?_
      obtain ⟨v3_29, e_v3_29, hf⟩ := lt_some hf
      refine x_istore_n (v := v3_29) (lv' := [(3, .int v3_29), (0, .ref h), (1, .int v1), (2, .int v2)]) hx hb dX11_setLabel_29 e_v3_29 rfl hl (by decide) rfl (fun ls hl => ?_)
      refine lv_aload_n hx hb dX11_setLabel_30 rfl (lv_at hl 1 rfl) ?_
      refine x_get hx hb hts u_X11_setLabel_X11 hown hE hP 0 rfl rfl 1 (by decide) (hts (.fieldLink RX11 19 "DecreasingDiagrams" "system" "LDecreasingDiagrams$LabelledSystem;") (List.mem_of_getElem? (i := 1) rfl)) rfl dX11_setLabel_31 ?_
      refine x_getN hx hb hts u_X11_setLabel_X3 hown hE hP 1 rfl rfl 5 (by decide) (hE.2 (.fieldLinkNest RX11 146 "DecreasingDiagrams$LabelledSystem" "labels" "[I" RX11) (List.mem_of_getElem? (i := 21) rfl)) rfl dX11_setLabel_34 ?_
      refine lv_iload_n hx hb dX11_setLabel_37 rfl (lv_at hl 2 rfl) ?_
      refine lv_iload_n hx hb dX11_setLabel_38 rfl (lv_at hl 3 rfl) ?_
      obtain ⟨hi, hf⟩ := ck_some hf
      obtain ⟨system_labels_39, e_system_labels_39, hf⟩ := lt_some hf
      refine x_iast (I' := [[(h, .inr (10, [.ref h_order, .ref h_system, .ref h_rules, .ref h_savedOrder, .ref h_savedSystem, .ref h_savedRules, .int snapshotSaved, .ref h_peaks, .ref h_leftPaths, .ref h_rightPaths, .ref h_text, .ref h_labellings, .ref h_input, .ref h_explorer, .ref h_arrays, .ref a_reach]))], [(h_system, .inr (3, [.int system_objects, .ref a_system_words, .int system_steps, .ref a_system_sources, .ref a_system_targets, .ref a_system_labels]))], [(a_system_labels, .inl (G 0, 32, .inl system_labels_39))]]) hx hb hE hP hN hS 2 rfl hi e_system_labels_39 rfl dX11_setLabel_39 (fun H locs hP hS => ?_)
      refine lv_iload_n hx hb dX11_setLabel_40 rfl (lv_at hl 0 rfl) ?_
      have hf := Option.some.inj hf
      rewrite [← hQ, ← hf]
      exact x_iret hx hb hr hlocks hP hS dX11_setLabel_41
    · have hf := it_neg (fun h => h c_15) hf
      refine lv_iconst (v := -1) hx hb dX11_setLabel_18 (by decide) ?_
      have hf := Option.some.inj hf
      rewrite [← hQ, ← hf]
      exact x_iret hx hb hr hlocks hP hS dX11_setLabel_19
