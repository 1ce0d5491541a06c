set_option maxRecDepth 20000 in
theorem u_X11_source_X11 : ∀ w ∈ wsX110, w ∈ wsX11_source := xx_pl _ [7, 8, 9, 10, 11, 12, 13, 14, 15, 16, 17, 18, 19, 20, 21, 22] (by decide +kernel)
set_option maxRecDepth 20000 in
theorem u_X11_source_X3 : ∀ w ∈ wsX30, w ∈ wsX11_source := xx_pl _ [23, 24, 25, 26, 27, 28] (by decide +kernel)
def f_X11_source (system_steps : Int32) (system_sources : (Nat → Int32)) (v1 : Int32) : Option (Int32) :=
  (f_X3_hasStep system_steps v1).bind (fun r_5 => if r_5 = 0 then (some (-1)) else (ck v1 32 (some (system_sources v1.toNatClampNeg))))
set_option maxHeartbeats 4000000 in
set_option maxRecDepth 100000 in
theorem k_X11_source (l : Launch) (D : va_G) (G : Nat → ClassId) (fu : Nat) (h : Nat) (h_order : Nat) (h_system : Nat) (h_rules : Nat) (h_savedOrder : Nat) (h_savedSystem : Nat) (h_savedRules : Nat) (h_peaks : Nat) (h_leftPaths : Nat) (h_rightPaths : Nat) (h_text : Nat) (h_labellings : Nat) (h_input : Nat) (h_explorer : Nat) (h_arrays : Nat) (a_reach : Nat) (a_system_words : Nat) (a_system_sources : Nat) (a_system_targets : Nat) (a_system_labels : Nat) (snapshotSaved : Int32) (system_objects : Int32) (system_steps : Int32) (system_sources : (Nat → Int32))  (v1 : Int32) (out : Int32) (hf : f_X11_source system_steps system_sources v1 = some out) : xMet l yX11_source wsX11_source (rM 1 21) D G [.ref h, .int v1] [[(h, .inr (10, [.ref h_order, .ref h_system, .ref h_rules, .ref h_savedOrder, .ref h_savedSystem, .ref h_savedRules, .int snapshotSaved, .ref h_peaks, .ref h_leftPaths, .ref h_rightPaths, .ref h_text, .ref h_labellings, .ref h_input, .ref h_explorer, .ref h_arrays, .ref a_reach]))], [(h_system, .inr (3, [.int system_objects, .ref a_system_words, .int system_steps, .ref a_system_sources, .ref a_system_targets, .ref a_system_labels]))], [(a_system_sources, .inl (G 0, 32, .inl system_sources))]] (xQi D [[(h, .inr (10, [.ref h_order, .ref h_system, .ref h_rules, .ref h_savedOrder, .ref h_savedSystem, .ref h_savedRules, .int snapshotSaved, .ref h_peaks, .ref h_leftPaths, .ref h_rightPaths, .ref h_text, .ref h_labellings, .ref h_input, .ref h_explorer, .ref h_arrays, .ref a_reach]))], [(h_system, .inr (3, [.int system_objects, .ref a_system_words, .int system_steps, .ref a_system_sources, .ref a_system_targets, .ref a_system_labels]))], [(a_system_sources, .inl (G 0, 32, .inl system_sources))]] out) := by
  refine x_ent (cc := cX11_source) (maxL := 2) (by decide) rfl (Nat.le_of_ble_eq_true rfl) ?_
  intro p e s m blw meth c aa ls args Q H locs hQ hx hb hr hml hown hts hlocks hE hN hl hP hS
  have hown : s.vm.findClass RX11 = some m.cls := hown
  have hl : lv_has ls 2 [(0, .ref h), (1, .int v1)] := hl
  refine lv_aload_n hx hb dX11_source_0 rfl (lv_at hl 0 rfl) ?_
  refine x_get hx hb hts u_X11_source_X11 hown hE hP 0 rfl rfl 1 (by decide) (hts (.fieldLink RX11 19 "DecreasingDiagrams" "system" "LDecreasingDiagrams$LabelledSystem;") (List.mem_of_getElem? (i := 1) rfl)) rfl dX11_source_1 ?_
  refine lv_iload_n hx hb dX11_source_4 rfl (lv_at hl 1 rfl) ?_
  obtain ⟨r_5, hr_5, hf⟩ := bd_some hf
  refine x_goi0 (ps := [1]) (x_runVN (As := [.int v1]) (rest := []) (ps := [1]) ⟨hx, hb, hml, hown, hts⟩ (k_X3_hasStep l D G fu h_system a_system_words a_system_sources a_system_targets a_system_labels system_objects system_steps v1 r_5 hr_5) ⟨va_cnB 1 hts gX11_source_X3_hasStep_n135 rfl rfl rfl (hE.2 (.methodLinkNest RX11 135 yX3_hasStep RX11) (List.mem_of_getElem? (i := 63) rfl)) (hts (.initialized RX3) (List.mem_of_getElem? (i := 3) rfl)) (by decide +kernel) ⟨Nat.le_of_ble_eq_true rfl, Nat.le_of_ble_eq_true rfl⟩, (hts (.instanceMethod yX3_hasStep) (List.mem_of_getElem? (i := 2) rfl)), (hts (.selects RX3 yX3_hasStep yX3_hasStep) (List.mem_of_getElem? (i := 4) rfl))⟩ hE hP hN rfl (by decide) 1 rfl rfl rfl hl.1 (Nat.le_of_ble_eq_true rfl) dX11_source_5 ⟨Nat.zero_le _, Nat.zero_le _⟩) hP hN hS rfl (fun H locs hP hS => ?_)
  refine lv_if_eq (tgt := 23) hx hb dX11_source_8 (by decide) (fun c_8 => ?_) (fun c_8 => ?_)
  · have hf := it_pos c_8 hf
    refine lv_iconst (v := -1) hx hb dX11_source_23 (by decide) ?_
    have hf := Option.some.inj hf
    rewrite [← hQ, ← hf]
    exact x_iret hx hb hr hlocks hP hS dX11_source_24
  · have hf := it_neg c_8 hf
    refine lv_aload_n hx hb dX11_source_11 rfl (lv_at hl 0 rfl) ?_
    refine x_get hx hb hts u_X11_source_X11 hown hE hP 0 rfl rfl 1 (by decide) (hts (.fieldLink RX11 19 "DecreasingDiagrams" "system" "LDecreasingDiagrams$LabelledSystem;") (List.mem_of_getElem? (i := 1) rfl)) rfl dX11_source_12 ?_
    refine x_getN hx hb hts u_X11_source_X3 hown hE hP 1 rfl rfl 3 (by decide) (hE.2 (.fieldLinkNest RX11 155 "DecreasingDiagrams$LabelledSystem" "sources" "[I" RX11) (List.mem_of_getElem? (i := 14) rfl)) rfl dX11_source_15 ?_
    refine lv_iload_n hx hb dX11_source_18 rfl (lv_at hl 1 rfl) ?_
    obtain ⟨hi, hf⟩ := ck_some hf
    refine x_iald hx hb hE hP 2 rfl hi dX11_source_19 ?_
    refine lv_goto (tgt := 24) hx hb dX11_source_20 (by decide) ?_
    have hf := Option.some.inj hf
    rewrite [← hQ, ← hf]
    exact x_iret hx hb hr hlocks hP hS dX11_source_24

set_option maxRecDepth 20000 in
theorem u_X11_stepCount_X11 : ∀ w ∈ wsX110, w ∈ wsX11_stepCount := xx_pl _ [2, 3, 4, 5, 6, 7, 8, 9, 10, 11, 12, 13, 14, 15, 16, 17] (by decide +kernel)
set_option maxRecDepth 20000 in
theorem u_X11_stepCount_X3 : ∀ w ∈ wsX30, w ∈ wsX11_stepCount := xx_pl _ [18, 19, 20, 21, 22, 23] (by decide +kernel)
def f_X11_stepCount (system_steps : Int32) : Option (Int32) :=
  some system_steps
set_option maxHeartbeats 4000000 in
set_option maxRecDepth 100000 in
theorem k_X11_stepCount (l : Launch) (D : va_G) (G : Nat → ClassId) (fu : Nat) (h : Nat) (h_order : Nat) (h_system : Nat) (h_rules : Nat) (h_savedOrder : Nat) (h_savedSystem : Nat) (h_savedRules : Nat) (h_peaks : Nat) (h_leftPaths : Nat) (h_rightPaths : Nat) (h_text : Nat) (h_labellings : Nat) (h_input : Nat) (h_explorer : Nat) (h_arrays : Nat) (a_reach : Nat) (a_system_words : Nat) (a_system_sources : Nat) (a_system_targets : Nat) (a_system_labels : Nat) (snapshotSaved : Int32) (system_objects : Int32) (system_steps : Int32)   (out : Int32) (hf : f_X11_stepCount system_steps = some out) : xMet l yX11_stepCount wsX11_stepCount (rM 0 0) D G [.ref h] [[(h, .inr (10, [.ref h_order, .ref h_system, .ref h_rules, .ref h_savedOrder, .ref h_savedSystem, .ref h_savedRules, .int snapshotSaved, .ref h_peaks, .ref h_leftPaths, .ref h_rightPaths, .ref h_text, .ref h_labellings, .ref h_input, .ref h_explorer, .ref h_arrays, .ref a_reach]))], [(h_system, .inr (3, [.int system_objects, .ref a_system_words, .int system_steps, .ref a_system_sources, .ref a_system_targets, .ref a_system_labels]))]] (xQi D [[(h, .inr (10, [.ref h_order, .ref h_system, .ref h_rules, .ref h_savedOrder, .ref h_savedSystem, .ref h_savedRules, .int snapshotSaved, .ref h_peaks, .ref h_leftPaths, .ref h_rightPaths, .ref h_text, .ref h_labellings, .ref h_input, .ref h_explorer, .ref h_arrays, .ref a_reach]))], [(h_system, .inr (3, [.int system_objects, .ref a_system_words, .int system_steps, .ref a_system_sources, .ref a_system_targets, .ref a_system_labels]))]] out) := by
  refine x_ent (cc := cX11_stepCount) (maxL := 1) (by decide) rfl (Nat.le_of_ble_eq_true rfl) ?_
  intro p e s m blw meth c aa ls args Q H locs hQ hx hb hr hml hown hts hlocks hE hN hl hP hS
  have hown : s.vm.findClass RX11 = some m.cls := hown
  have hl : lv_has ls 1 [(0, .ref h)] := hl
  refine lv_aload_n hx hb dX11_stepCount_0 rfl (lv_at hl 0 rfl) ?_
  refine x_get hx hb hts u_X11_stepCount_X11 hown hE hP 0 rfl rfl 1 (by decide) (hts (.fieldLink RX11 19 "DecreasingDiagrams" "system" "LDecreasingDiagrams$LabelledSystem;") (List.mem_of_getElem? (i := 1) rfl)) rfl dX11_stepCount_1 ?_
  refine x_getN hx hb hts u_X11_stepCount_X3 hown hE hP 1 rfl rfl 2 (by decide) (hE.2 (.fieldLinkNest RX11 142 "DecreasingDiagrams$LabelledSystem" "steps" "I" RX11) (List.mem_of_getElem? (i := 11) rfl)) rfl dX11_stepCount_4 ?_
  have hf := Option.some.inj hf
  rewrite [← hQ, ← hf]
  exact x_iret hx hb hr hlocks hP hS dX11_stepCount_7

set_option maxRecDepth 20000 in
theorem u_X11_target_X11 : ∀ w ∈ wsX110, w ∈ wsX11_target := xx_pl _ [7, 8, 9, 10, 11, 12, 13, 14, 15, 16, 17, 18, 19, 20, 21, 22] (by decide +kernel)
set_option maxRecDepth 20000 in
theorem u_X11_target_X3 : ∀ w ∈ wsX30, w ∈ wsX11_target := xx_pl _ [23, 24, 25, 26, 27, 28] (by decide +kernel)
def f_X11_target (system_steps : Int32) (system_targets : (Nat → Int32)) (v1 : Int32) : Option (Int32) :=
  (f_X3_hasStep system_steps v1).bind (fun r_5 => if r_5 = 0 then (some (-1)) else (ck v1 32 (some (system_targets v1.toNatClampNeg))))
set_option maxHeartbeats 4000000 in
set_option maxRecDepth 100000 in
theorem k_X11_target (l : Launch) (D : va_G) (G : Nat → ClassId) (fu : Nat) (h : Nat) (h_order : Nat) (h_system : Nat) (h_rules : Nat) (h_savedOrder : Nat) (h_savedSystem : Nat) (h_savedRules : Nat) (h_peaks : Nat) (h_leftPaths : Nat) (h_rightPaths : Nat) (h_text : Nat) (h_labellings : Nat) (h_input : Nat) (h_explorer : Nat) (h_arrays : Nat) (a_reach : Nat) (a_system_words : Nat) (a_system_sources : Nat) (a_system_targets : Nat) (a_system_labels : Nat) (snapshotSaved : Int32) (system_objects : Int32) (system_steps : Int32) (system_targets : (Nat → Int32))  (v1 : Int32) (out : Int32) (hf : f_X11_target system_steps system_targets v1 = some out) : xMet l yX11_target wsX11_target (rM 1 21) D G [.ref h, .int v1] [[(h, .inr (10, [.ref h_order, .ref h_system, .ref h_rules, .ref h_savedOrder, .ref h_savedSystem, .ref h_savedRules, .int snapshotSaved, .ref h_peaks, .ref h_leftPaths, .ref h_rightPaths, .ref h_text, .ref h_labellings, .ref h_input, .ref h_explorer, .ref h_arrays, .ref a_reach]))], [(h_system, .inr (3, [.int system_objects, .ref a_system_words, .int system_steps, .ref a_system_sources, .ref a_system_targets, .ref a_system_labels]))], [(a_system_targets, .inl (G 0, 32, .inl system_targets))]] (xQi D [[(h, .inr (10, [.ref h_order, .ref h_system, .ref h_rules, .ref h_savedOrder, .ref h_savedSystem, .ref h_savedRules, .int snapshotSaved, .ref h_peaks, .ref h_leftPaths, .ref h_rightPaths, .ref h_text, .ref h_labellings, .ref h_input, .ref h_explorer, .ref h_arrays, .ref a_reach]))], [(h_system, .inr (3, [.int system_objects, .ref a_system_words, .int system_steps, .ref a_system_sources, .ref a_system_targets, .ref a_system_labels]))], [(a_system_targets, .inl (G 0, 32, .inl system_targets))]] out) := by
  refine x_ent (cc := cX11_target) (maxL := 2) (by decide) rfl (Nat.le_of_ble_eq_true rfl) ?_
  intro p e s m blw meth c aa ls args Q H locs hQ hx hb hr hml hown hts hlocks hE hN hl hP hS
  have hown : s.vm.findClass RX11 = some m.cls := hown
  have hl : lv_has ls 2 [(0, .ref h), (1, .int v1)] := hl
  refine lv_aload_n hx hb dX11_target_0 rfl (lv_at hl 0 rfl) ?_
  refine x_get hx hb hts u_X11_target_X11 hown hE hP 0 rfl rfl 1 (by decide) (hts (.fieldLink RX11 19 "DecreasingDiagrams" "system" "LDecreasingDiagrams$LabelledSystem;") (List.mem_of_getElem? (i := 1) rfl)) rfl dX11_target_1 ?_
  refine lv_iload_n hx hb dX11_target_4 rfl (lv_at hl 1 rfl) ?_
  obtain ⟨r_5, hr_5, hf⟩ := bd_some hf
  refine x_goi0 (ps := [1]) (x_runVN (As := [.int v1]) (rest := []) (ps := [1]) ⟨hx, hb, hml, hown, hts⟩ (k_X3_hasStep l D G fu h_system a_system_words a_system_sources a_system_targets a_system_labels system_objects system_steps v1 r_5 hr_5) ⟨va_cnB 1 hts gX11_target_X3_hasStep_n135 rfl rfl rfl (hE.2 (.methodLinkNest RX11 135 yX3_hasStep RX11) (List.mem_of_getElem? (i := 63) rfl)) (hts (.initialized RX3) (List.mem_of_getElem? (i := 3) rfl)) (by decide +kernel) ⟨Nat.le_of_ble_eq_true rfl, Nat.le_of_ble_eq_true rfl⟩, (hts (.instanceMethod yX3_hasStep) (List.mem_of_getElem? (i := 2) rfl)), (hts (.selects RX3 yX3_hasStep yX3_hasStep) (List.mem_of_getElem? (i := 4) rfl))⟩ hE hP hN rfl (by decide) 1 rfl rfl rfl hl.1 (Nat.le_of_ble_eq_true rfl) dX11_target_5 ⟨Nat.zero_le _, Nat.zero_le _⟩) hP hN hS rfl (fun H locs hP hS => ?_)
  refine lv_if_eq (tgt := 23) hx hb dX11_target_8 (by decide) (fun c_8 => ?_) (fun c_8 => ?_)
  · have hf := it_pos c_8 hf
    refine lv_iconst (v := -1) hx hb dX11_target_23 (by decide) ?_
    have hf := Option.some.inj hf
    rewrite [← hQ, ← hf]
    exact x_iret hx hb hr hlocks hP hS dX11_target_24
  · have hf := it_neg c_8 hf
    refine lv_aload_n hx hb dX11_target_11 rfl (lv_at hl 0 rfl) ?_
    refine x_get hx hb hts u_X11_target_X11 hown hE hP 0 rfl rfl 1 (by decide) (hts (.fieldLink RX11 19 "DecreasingDiagrams" "system" "LDecreasingDiagrams$LabelledSystem;") (List.mem_of_getElem? (i := 1) rfl)) rfl dX11_target_12 ?_
    refine x_getN hx hb hts u_X11_target_X3 hown hE hP 1 rfl rfl 4 (by decide) (hE.2 (.fieldLinkNest RX11 158 "DecreasingDiagrams$LabelledSystem" "targets" "[I" RX11) (List.mem_of_getElem? (i := 17) rfl)) rfl dX11_target_15 ?_
    refine lv_iload_n hx hb dX11_target_18 rfl (lv_at hl 1 rfl) ?_
    obtain ⟨hi, hf⟩ := ck_some hf
    refine x_iald hx hb hE hP 2 rfl hi dX11_target_19 ?_
    refine lv_goto (tgt := 24) hx hb dX11_target_20 (by decide) ?_
    have hf := Option.some.inj hf
    rewrite [← hQ, ← hf]
    exact x_iret hx hb hr hlocks hP hS dX11_target_24

set_option maxRecDepth 20000 in
theorem u_X2_size_X2 : ∀ w ∈ wsX20, w ∈ wsX2_size := xx_pl _ [9, 10] (by decide +kernel)
def f_X2_size_L4 (pairs : (Nat → Int32)) (rec_4 : Int32 → Int32 → Option (Int32)) (v1 : Int32) (v2 : Int32) : Option (Int32) :=
  if 8 ≤ v2 then (some v1) else (ck v2 8 ((f_J6_bitCount_0f7a4 (pairs v2.toNatClampNeg)).bind (fun r_17 => lt (v1 + r_17) (fun v1_21 => lt (v2 + 1) (fun v2_22 => rec_4 v1_21 v2_22)))))
def f_X2_size (fu : Nat) (pairs : (Nat → Int32)) : Option (Int32) :=
  lt (0 : Int32) (fun v1_1 => lt (0 : Int32) (fun v2_3 => lp (τ := Int32 → Int32 → Option (Int32)) (fun _ _ => none) (f_X2_size_L4 pairs) fu v1_1 v2_3))
set_option maxHeartbeats 4000000 in
set_option maxRecDepth 100000 in
theorem k_X2_size (l : Launch) (D : va_G) (G : Nat → ClassId) (fu : Nat) (h : Nat) (a_pairs : Nat) (a_below : Nat) (pairs : (Nat → Int32))   (out : Int32) (hf : f_X2_size fu pairs = some out) : xMet l yX2_size wsX2_size (rM 1 20) D G [.ref h] [[(h, .inr (2, [.ref a_pairs, .ref a_below]))], [(a_pairs, .inl (G 0, 8, .inl pairs))]] (xQi D [[(h, .inr (2, [.ref a_pairs, .ref a_below]))], [(a_pairs, .inl (G 0, 8, .inl pairs))]] out) := by
  refine x_ent (cc := cX2_size) (maxL := 3) (by decide) rfl (Nat.le_of_ble_eq_true rfl) ?_
  intro p e s m blw meth c aa ls args Q H locs hQ hx hb hr hml hown hts hlocks hE hN hl hP hS
  have hown : s.vm.findClass RX2 = some m.cls := hown
  have hl : lv_has ls 3 [(0, .ref h)] := hl
  have L4 : ∀ (n_4 : Nat) (v1 : Int32) (v2 : Int32) (H : Heap) (locs : List Loc) (ls : Array Slot), xW D aa [[(h, .inr (2, [.ref a_pairs, .ref a_below]))], [(a_pairs, .inl (G 0, 8, .inl pairs))]] H → va_S (xA aa) s.heap H locs → lv_has ls 3 [(0, .ref h), (1, .int v1), (2, .int v2)] → lp (τ := Int32 → Int32 → Option (Int32)) (fun _ _ => none) (f_X2_size_L4 pairs) n_4 v1 v2 = some out → W p l e (rM 1 20) s m args blw meth c H locs 0 0 Q (F0 m 4 ls []) := by
    intro    n_4
    induction n_4 with
    | zero =>
      intro v1 v2 H locs ls hP hS hl hf
      exact no_some hf
    | succ n_4 ih_4 =>
      intro v1 v2 H locs ls hP hS hl hf
      have hf : f_X2_size_L4 pairs (lp (τ := Int32 → Int32 → Option (Int32)) (fun _ _ => none) (f_X2_size_L4 pairs) n_4) v1 v2 = some out := hf
      refine lv_iload_n hx hb dX2_size_4 rfl (lv_at hl 2 rfl) ?_
      refine lv_bipush (v := 8) hx hb dX2_size_5 (by decide) ?_
      refine lv_icmp_ge (tgt := 28) hx hb dX2_size_7 (by decide) (fun c_7 => ?_) (fun c_7 => ?_)
      · have hf := it_pos c_7 hf
        refine lv_iload_n hx hb dX2_size_28 rfl (lv_at hl 1 rfl) ?_
        have hf := Option.some.inj hf
        rewrite [← hQ, ← hf]
        exact x_iret hx hb hr hlocks hP hS dX2_size_29
      · have hf := it_neg c_7 hf
        refine lv_iload_n hx hb dX2_size_10 rfl (lv_at hl 1 rfl) ?_
        refine lv_aload_n hx hb dX2_size_11 rfl (lv_at hl 0 rfl) ?_
        refine x_get hx hb hts u_X2_size_X2 hown hE hP 0 rfl rfl 0 (by decide) (hts (.fieldLink RX2 9 "DecreasingDiagrams$LabelOrder" "pairs" "[I") (List.mem_of_getElem? (i := 1) rfl)) rfl dX2_size_12 ?_
        refine lv_iload_n hx hb dX2_size_15 rfl (lv_at hl 2 rfl) ?_
        obtain ⟨hi, hf⟩ := ck_some hf
        refine x_iald hx hb hE hP 1 rfl hi dX2_size_16 ?_
        obtain ⟨r_17, hr_17, hf⟩ := bd_some hf
        refine x_goi0 (ps := []) (x_runS (As := [.int (pairs v2.toNatClampNeg)]) (rest := [.int v1]) (ps := []) ⟨hx, hb, hml, hown, hts⟩ (k_J6_bitCount_0f7a4 l D G fu (pairs v2.toNatClampNeg) r_17 hr_17) (va_cwS 1 hts gX2_size_J6_bitCount_0f7a4 rfl rfl rfl (by decide +kernel) ⟨Nat.le_of_ble_eq_true rfl, Nat.le_of_ble_eq_true rfl⟩) hE hP hN rfl (by decide) rfl hl.1 (Nat.le_of_ble_eq_true rfl) dX2_size_17 ⟨Nat.zero_le _, Nat.zero_le _⟩) hP hN hS rfl (fun H locs hP hS => ?_)
        refine lv_iadd hx hb dX2_size_20 ?_
        obtain ⟨v1_21, e_v1_21, hf⟩ := lt_some hf
        refine x_istore_n (v := v1_21) (lv' := [(1, .int v1_21), (0, .ref h), (2, .int v2)]) hx hb dX2_size_21 e_v1_21 rfl hl (by decide) rfl (fun ls hl => ?_)
        obtain ⟨v2_22, e_v2_22, hf⟩ := lt_some hf
        refine lv_iinc (v := v2_22) (lv' := [(2, .int v2_22), (1, .int v1_21), (0, .ref h)]) hx hb dX2_size_22 hl (k := 2) rfl (by rw [e_v2_22]; rfl) (by decide) rfl (fun ls hl => ?_)
        refine lv_goto (tgt := 4) hx hb dX2_size_25 (by decide) ?_
        exact ih_4 v1_21 v2_22 H locs ls hP hS (lv_sub hl [2, 1, 0] rfl) hf
  refine lv_iconst (v := 0) hx hb dX2_size_0 (by decide) ?_
  obtain ⟨v1_1, e_v1_1, hf⟩ := lt_some hf
  refine x_istore_n (v := v1_1) (lv' := [(1, .int v1_1), (0, .ref h)]) hx hb dX2_size_1 e_v1_1 rfl hl (by decide) rfl (fun ls hl => ?_)
  refine lv_iconst (v := 0) hx hb dX2_size_2 (by decide) ?_
  obtain ⟨v2_3, e_v2_3, hf⟩ := lt_some hf
  refine x_istore_n (v := v2_3) (lv' := [(2, .int v2_3), (1, .int v1_1), (0, .ref h)]) hx hb dX2_size_3 e_v2_3 rfl hl (by decide) rfl (fun ls hl => ?_)
  exact L4    fu v1_1 v2_3 H locs ls hP hS (lv_sub hl [2, 1, 0] rfl) hf

set_option maxRecDepth 20000 in
theorem u_X11_useNaturalOrder_X11 : ∀ w ∈ wsX110, w ∈ wsX11_useNaturalOrder := xx_pl _ [18, 19, 20, 21, 22, 23, 24, 25, 26, 27, 28, 29, 30, 31, 32, 33] (by decide +kernel)
def f_X11_useNaturalOrder (fu : Nat) (order_below : (Nat → Int32)) (order_pairs : (Nat → Int32)) : Option (Int32 × (Nat → Int32) × (Nat → Int32)) :=
  (f_X2_size fu order_pairs).bind (fun r_4 => lt r_4 (fun v1_7 => (f_X2_makeNatural fu order_below order_pairs).bind (fun r_12 => some (v1_7, r_12.1, r_12.2))))
set_option maxHeartbeats 4000000 in
set_option maxRecDepth 100000 in
theorem k_X11_useNaturalOrder (l : Launch) (D : va_G) (G : Nat → ClassId) (fu : Nat) (h : Nat) (h_order : Nat) (h_system : Nat) (h_rules : Nat) (h_savedOrder : Nat) (h_savedSystem : Nat) (h_savedRules : Nat) (h_peaks : Nat) (h_leftPaths : Nat) (h_rightPaths : Nat) (h_text : Nat) (h_labellings : Nat) (h_input : Nat) (h_explorer : Nat) (h_arrays : Nat) (a_reach : Nat) (a_order_pairs : Nat) (a_order_below : Nat) (snapshotSaved : Int32) (order_below : (Nat → Int32)) (order_pairs : (Nat → Int32))   (out : Int32 × (Nat → Int32) × (Nat → Int32)) (hf : f_X11_useNaturalOrder fu order_below order_pairs = some out) : xMet l yX11_useNaturalOrder wsX11_useNaturalOrder (rM 2 42) D G [.ref h] [[(h, .inr (10, [.ref h_order, .ref h_system, .ref h_rules, .ref h_savedOrder, .ref h_savedSystem, .ref h_savedRules, .int snapshotSaved, .ref h_peaks, .ref h_leftPaths, .ref h_rightPaths, .ref h_text, .ref h_labellings, .ref h_input, .ref h_explorer, .ref h_arrays, .ref a_reach]))], [(h_order, .inr (2, [.ref a_order_pairs, .ref a_order_below]))], [(a_order_below, .inl (G 0, 8, .inl order_below))], [(a_order_pairs, .inl (G 0, 8, .inl order_pairs))]] (xQi D [[(h, .inr (10, [.ref h_order, .ref h_system, .ref h_rules, .ref h_savedOrder, .ref h_savedSystem, .ref h_savedRules, .int snapshotSaved, .ref h_peaks, .ref h_leftPaths, .ref h_rightPaths, .ref h_text, .ref h_labellings, .ref h_input, .ref h_explorer, .ref h_arrays, .ref a_reach]))], [(h_order, .inr (2, [.ref a_order_pairs, .ref a_order_below]))], [(a_order_below, .inl (G 0, 8, .inl out.2.1))], [(a_order_pairs, .inl (G 0, 8, .inl out.2.2))]] out.1) := by
  refine x_ent (cc := cX11_useNaturalOrder) (maxL := 2) (by decide) rfl (Nat.le_of_ble_eq_true rfl) ?_
  intro p e s m blw meth c aa ls args Q H locs hQ hx hb hr hml hown hts hlocks hE hN hl hP hS
  have hown : s.vm.findClass RX11 = some m.cls := hown
  have hl : lv_has ls 2 [(0, .ref h)] := hl
  refine lv_aload_n hx hb dX11_useNaturalOrder_0 rfl (lv_at hl 0 rfl) ?_
  refine x_get hx hb hts u_X11_useNaturalOrder_X11 hown hE hP 0 rfl rfl 0 (by decide) (hts (.fieldLink RX11 12 "DecreasingDiagrams" "order" "LDecreasingDiagrams$LabelOrder;") (List.mem_of_getElem? (i := 1) rfl)) rfl dX11_useNaturalOrder_1 ?_
  obtain ⟨r_4, hr_4, hf⟩ := bd_some hf
  refine x_goi0 (ps := [1, 3]) (x_runVN (As := []) (rest := []) (ps := [1, 3]) ⟨hx, hb, hml, hown, hts⟩ (k_X2_size l D G fu h_order a_order_pairs a_order_below order_pairs r_4 hr_4) ⟨va_cnB 0 hts gX11_useNaturalOrder_X2_size_n117 rfl rfl rfl (hE.2 (.methodLinkNest RX11 117 yX2_size RX11) (List.mem_of_getElem? (i := 58) rfl)) (hts (.initialized RX2) (List.mem_of_getElem? (i := 3) rfl)) (by decide +kernel) ⟨Nat.le_of_ble_eq_true rfl, Nat.le_of_ble_eq_true rfl⟩, (hts (.instanceMethod yX2_size) (List.mem_of_getElem? (i := 2) rfl)), (hts (.selects RX2 yX2_size yX2_size) (List.mem_of_getElem? (i := 4) rfl))⟩ hE hP hN rfl (by decide) 1 rfl rfl rfl hl.1 (Nat.le_of_ble_eq_true rfl) dX11_useNaturalOrder_4 ⟨Nat.zero_le _, Nat.zero_le _⟩) hP hN hS rfl (fun H locs hP hS => ?_)
  obtain ⟨v1_7, e_v1_7, hf⟩ := lt_some hf
  refine x_istore_n (v := v1_7) (lv' := [(1, .int v1_7), (0, .ref h)]) hx hb dX11_useNaturalOrder_7 e_v1_7 rfl hl (by decide) rfl (fun ls hl => ?_)
  refine lv_aload_n hx hb dX11_useNaturalOrder_8 rfl (lv_at hl 1 rfl) ?_
  refine x_get hx hb hts u_X11_useNaturalOrder_X11 hown hE hP 0 rfl rfl 0 (by decide) (hts (.fieldLink RX11 12 "DecreasingDiagrams" "order" "LDecreasingDiagrams$LabelOrder;") (List.mem_of_getElem? (i := 1) rfl)) rfl dX11_useNaturalOrder_9 ?_
  obtain ⟨r_12, hr_12, hf⟩ := bd_some hf
  refine x_gov (ps := [1, 2, 3]) (qs := [0]) (n := 4) (I' := [[(h, .inr (10, [.ref h_order, .ref h_system, .ref h_rules, .ref h_savedOrder, .ref h_savedSystem, .ref h_savedRules, .int snapshotSaved, .ref h_peaks, .ref h_leftPaths, .ref h_rightPaths, .ref h_text, .ref h_labellings, .ref h_input, .ref h_explorer, .ref h_arrays, .ref a_reach]))], [(h_order, .inr (2, [.ref a_order_pairs, .ref a_order_below]))], [(a_order_below, .inl (G 0, 8, .inl r_12.1))], [(a_order_pairs, .inl (G 0, 8, .inl r_12.2))]]) (x_runVN (As := []) (rest := []) (ps := [1, 2, 3]) ⟨hx, hb, hml, hown, hts⟩ (k_X2_makeNatural l D G fu h_order a_order_pairs a_order_below order_below order_pairs r_12 hr_12) ⟨va_cnB 0 hts gX11_useNaturalOrder_X2_makeNatural_n121 rfl rfl rfl (hE.2 (.methodLinkNest RX11 121 yX2_makeNatural RX11) (List.mem_of_getElem? (i := 59) rfl)) (hts (.initialized RX2) (List.mem_of_getElem? (i := 3) rfl)) (by decide +kernel) ⟨Nat.le_of_ble_eq_true rfl, Nat.le_of_ble_eq_true rfl⟩, (hts (.instanceMethod yX2_makeNatural) (List.mem_of_getElem? (i := 14) rfl)), (hts (.selects RX2 yX2_makeNatural yX2_makeNatural) (List.mem_of_getElem? (i := 15) rfl))⟩ hE hP hN rfl (by decide) 1 rfl rfl rfl hl.1 (Nat.le_of_ble_eq_true rfl) dX11_useNaturalOrder_12 ⟨Nat.zero_le _, Nat.zero_le _⟩) hP hN hS rfl rfl rfl rfl rfl (by decide) (fun H locs hP hS => ?_)
  refine lv_iload_n hx hb dX11_useNaturalOrder_15 rfl (lv_at hl 0 rfl) ?_
  have hf := Option.some.inj hf
  rewrite [← hQ, ← hf]
  exact x_iret hx hb hr hlocks hP hS dX11_useNaturalOrder_16

set_option maxRecDepth 20000 in
theorem u_X11_wordLength_X11 : ∀ w ∈ wsX110, w ∈ wsX11_wordLength := xx_pl _ [10, 11, 12, 13, 14, 15, 16, 17, 18, 19, 20, 21, 22, 23, 24, 25] (by decide +kernel)
set_option maxRecDepth 20000 in
theorem u_X11_wordLength_X3 : ∀ w ∈ wsX30, w ∈ wsX11_wordLength := xx_pl _ [26, 27, 28, 29, 30, 31] (by decide +kernel)
def f_X11_wordLength (fu : Nat) (system_objects : Int32) (system_words : (Nat → Int32)) (v1 : Int32) : Option (Int32) :=
  (f_X3_hasObject system_objects v1).bind (fun r_5 => if ¬ r_5 = 0 then (ck v1 16 (lt (system_words v1.toNatClampNeg) (fun v2_22 => if ¬ v2_22 = (-2) then ((f_X10_lengthOf fu v2_22).bind (fun r_35 => some r_35)) else (some (-2))))) else (some (-1)))
set_option maxHeartbeats 4000000 in
set_option maxRecDepth 100000 in
theorem k_X11_wordLength (l : Launch) (D : va_G) (G : Nat → ClassId) (fu : Nat) (h : Nat) (h_order : Nat) (h_system : Nat) (h_rules : Nat) (h_savedOrder : Nat) (h_savedSystem : Nat) (h_savedRules : Nat) (h_peaks : Nat) (h_leftPaths : Nat) (h_rightPaths : Nat) (h_text : Nat) (h_labellings : Nat) (h_input : Nat) (h_explorer : Nat) (h_arrays : Nat) (a_reach : Nat) (a_system_words : Nat) (a_system_sources : Nat) (a_system_targets : Nat) (a_system_labels : Nat) (snapshotSaved : Int32) (system_objects : Int32) (system_steps : Int32) (system_words : (Nat → Int32))  (v1 : Int32) (out : Int32) (hf : f_X11_wordLength fu system_objects system_words v1 = some out) : xMet l yX11_wordLength wsX11_wordLength (rM 1 21) D G [.ref h, .int v1] [[(h, .inr (10, [.ref h_order, .ref h_system, .ref h_rules, .ref h_savedOrder, .ref h_savedSystem, .ref h_savedRules, .int snapshotSaved, .ref h_peaks, .ref h_leftPaths, .ref h_rightPaths, .ref h_text, .ref h_labellings, .ref h_input, .ref h_explorer, .ref h_arrays, .ref a_reach]))], [(h_system, .inr (3, [.int system_objects, .ref a_system_words, .int system_steps, .ref a_system_sources, .ref a_system_targets, .ref a_system_labels]))], [(a_system_words, .inl (G 0, 16, .inl system_words))]] (xQi D [[(h, .inr (10, [.ref h_order, .ref h_system, .ref h_rules, .ref h_savedOrder, .ref h_savedSystem, .ref h_savedRules, .int snapshotSaved, .ref h_peaks, .ref h_leftPaths, .ref h_rightPaths, .ref h_text, .ref h_labellings, .ref h_input, .ref h_explorer, .ref h_arrays, .ref a_reach]))], [(h_system, .inr (3, [.int system_objects, .ref a_system_words, .int system_steps, .ref a_system_sources, .ref a_system_targets, .ref a_system_labels]))], [(a_system_words, .inl (G 0, 16, .inl system_words))]] out) := by
  refine x_ent (cc := cX11_wordLength) (maxL := 3) (by decide) rfl (Nat.le_of_ble_eq_true rfl) ?_
  intro p e s m blw meth c aa ls args Q H locs hQ hx hb hr hml hown hts hlocks hE hN hl hP hS
  have hown : s.vm.findClass RX11 = some m.cls := hown
  have hl : lv_has ls 3 [(0, .ref h), (1, .int v1)] := hl
  refine lv_aload_n hx hb dX11_wordLength_0 rfl (lv_at hl 0 rfl) ?_
  refine x_get hx hb hts u_X11_wordLength_X11 hown hE hP 0 rfl rfl 1 (by decide) (hts (.fieldLink RX11 19 "DecreasingDiagrams" "system" "LDecreasingDiagrams$LabelledSystem;") (List.mem_of_getElem? (i := 1) rfl)) rfl dX11_wordLength_1 ?_
  refine lv_iload_n hx hb dX11_wordLength_4 rfl (lv_at hl 1 rfl) ?_
  obtain ⟨r_5, hr_5, hf⟩ := bd_some hf
  refine x_goi0 (ps := [1]) (x_runVN (As := [.int v1]) (rest := []) (ps := [1]) ⟨hx, hb, hml, hown, hts⟩ (k_X3_hasObject l D G fu h_system a_system_words a_system_sources a_system_targets a_system_labels system_objects system_steps v1 r_5 hr_5) ⟨va_cnB 1 hts gX11_wordLength_X3_hasObject_n128 rfl rfl rfl (hE.2 (.methodLinkNest RX11 128 yX3_hasObject RX11) (List.mem_of_getElem? (i := 61) rfl)) (hts (.initialized RX3) (List.mem_of_getElem? (i := 3) rfl)) (by decide +kernel) ⟨Nat.le_of_ble_eq_true rfl, Nat.le_of_ble_eq_true rfl⟩, (hts (.instanceMethod yX3_hasObject) (List.mem_of_getElem? (i := 2) rfl)), (hts (.selects RX3 yX3_hasObject yX3_hasObject) (List.mem_of_getElem? (i := 4) rfl))⟩ hE hP hN rfl (by decide) 1 rfl rfl rfl hl.1 (Nat.le_of_ble_eq_true rfl) dX11_wordLength_5 ⟨Nat.zero_le _, Nat.zero_le _⟩) hP hN hS rfl (fun H locs hP hS => ?_)
  refine lv_if_ne (tgt := 13) hx hb dX11_wordLength_8 (by decide) (fun c_8 => ?_) (fun c_8 => ?_)
  · have hf := it_pos c_8 hf
    refine lv_aload_n hx hb dX11_wordLength_13 rfl (lv_at hl 0 rfl) ?_
    refine x_get hx hb hts u_X11_wordLength_X11 hown hE hP 0 rfl rfl 1 (by decide) (hts (.fieldLink RX11 19 "DecreasingDiagrams" "system" "LDecreasingDiagrams$LabelledSystem;") (List.mem_of_getElem? (i := 1) rfl)) rfl dX11_wordLength_14 ?_
    refine x_getN hx hb hts u_X11_wordLength_X3 hown hE hP 1 rfl rfl 1 (by decide) (hE.2 (.fieldLinkNest RX11 309 "DecreasingDiagrams$LabelledSystem" "words" "[I" RX11) (List.mem_of_getElem? (i := 7) rfl)) rfl dX11_wordLength_17 ?_
    refine lv_iload_n hx hb dX11_wordLength_20 rfl (lv_at hl 1 rfl) ?_
    obtain ⟨hi, hf⟩ := ck_some hf
    refine x_iald hx hb hE hP 2 rfl hi dX11_wordLength_21 ?_
    obtain ⟨v2_22, e_v2_22, hf⟩ := lt_some hf
    refine x_istore_n (v := v2_22) (lv' := [(2, .int v2_22), (0, .ref h), (1, .int v1)]) hx hb dX11_wordLength_22 e_v2_22 rfl hl (by decide) rfl (fun ls hl => ?_)
    refine lv_iload_n hx hb dX11_wordLength_23 rfl (lv_at hl 0 rfl) ?_
    refine lv_bipush (v := -2) hx hb dX11_wordLength_24 (by decide) ?_
    refine lv_icmp_ne (tgt := 34) hx hb dX11_wordLength_26 (by decide) (fun c_26 => ?_) (fun c_26 => ?_)
    · have hf := it_pos c_26 hf
      refine lv_iload_n hx hb dX11_wordLength_34 rfl (lv_at hl 0 rfl) ?_
      obtain ⟨r_35, hr_35, hf⟩ := bd_some hf
      refine x_goi0 (ps := []) (x_runSN (As := [.int v2_22]) (rest := []) (ps := []) ⟨hx, hb, hml, hown, hts⟩ (k_X10_lengthOf l D G fu v2_22 r_35 hr_35) ⟨va_cnB 1 hts gX11_wordLength_X10_lengthOf_n279 rfl rfl rfl (hE.2 (.methodLinkNest RX11 279 yX10_lengthOf RX11) (List.mem_of_getElem? (i := 95) rfl)) (hts (.initialized RX10) (List.mem_of_getElem? (i := 8) rfl)) (by decide +kernel) ⟨Nat.le_of_ble_eq_true rfl, Nat.le_of_ble_eq_true rfl⟩, (hts (.static yX10_lengthOf) (List.mem_of_getElem? (i := 7) rfl)), trivial⟩ hE hP hN rfl (by decide) rfl hl.1 (Nat.le_of_ble_eq_true rfl) dX11_wordLength_35 ⟨Nat.zero_le _, Nat.zero_le _⟩) hP hN hS rfl (fun H locs hP hS => ?_)
      have hf := Option.some.inj hf
      rewrite [← hQ, ← hf]
      exact x_iret hx hb hr hlocks hP hS dX11_wordLength_38
    · have hf := it_neg (fun h => h c_26) hf
      refine lv_bipush (v := -2) hx hb dX11_wordLength_29 (by decide) ?_
      refine lv_goto (tgt := 38) hx hb dX11_wordLength_31 (by decide) ?_
      have hf := Option.some.inj hf
      rewrite [← hQ, ← hf]
      exact x_iret hx hb hr hlocks hP hS dX11_wordLength_38
  · have hf := it_neg (fun h => h c_8) hf
    refine lv_iconst (v := -1) hx hb dX11_wordLength_11 (by decide) ?_
    have hf := Option.some.inj hf
    rewrite [← hQ, ← hf]
    exact x_iret hx hb hr hlocks hP hS dX11_wordLength_12
