set_option maxRecDepth 20000 in
theorem u_X11_addGreater_X11 : ∀ w ∈ wsX110, w ∈ wsX11_addGreater := xx_pl _ [28, 29, 30, 31, 32, 33, 34, 35, 36, 37, 38, 39, 40, 41, 42, 43] (by decide +kernel)
def f_X11_addGreater (fu : Nat) (order_below : (Nat → Int32)) (order_pairs : (Nat → Int32)) (v1 : Int32) (v2 : Int32) : Option (Int32 × (Nat → Int32) × (Nat → Int32)) :=
  (f_X11_isLabel v1).bind (fun r_1 => if r_1 = 0 then (some ((-1), order_below, order_pairs)) else ((f_X11_isLabel v2).bind (fun r_8 => if ¬ r_8 = 0 then (if v1 = v2 then (some ((-4), order_below, order_pairs)) else ((f_X2_isAbove order_below v2 v1).bind (fun r_27 => if r_27 = 0 then ((f_X2_hasPair order_pairs v1 v2).bind (fun r_42 => if r_42 = 0 then ((f_X2_put fu order_below order_pairs v1 v2).bind (fun r_56 => some (1, r_56.1, r_56.2))) else (some (0, order_below, order_pairs)))) else (some ((-4), order_below, order_pairs))))) else (some ((-1), order_below, order_pairs)))))
set_option maxHeartbeats 4000000 in
set_option maxRecDepth 100000 in
theorem k_X11_addGreater (l : Launch) (D : va_G) (G : Nat → ClassId) (fu : Nat) (h : Nat) (h_order : Nat) (h_system : Nat) (h_rules : Nat) (h_savedOrder : Nat) (h_savedSystem : Nat) (h_savedRules : Nat) (h_peaks : Nat) (h_leftPaths : Nat) (h_rightPaths : Nat) (h_text : Nat) (h_labellings : Nat) (h_input : Nat) (h_explorer : Nat) (h_arrays : Nat) (a_reach : Nat) (a_order_pairs : Nat) (a_order_below : Nat) (snapshotSaved : Int32) (order_below : (Nat → Int32)) (order_pairs : (Nat → Int32))  (v1 : Int32) (v2 : Int32) (out : Int32 × (Nat → Int32) × (Nat → Int32)) (hf : f_X11_addGreater fu order_below order_pairs v1 v2 = some out) : xMet l yX11_addGreater wsX11_addGreater (rM 3 70) D G [.ref h, .int v1, .int v2] [[(h, .inr (10, [.ref h_order, .ref h_system, .ref h_rules, .ref h_savedOrder, .ref h_savedSystem, .ref h_savedRules, .int snapshotSaved, .ref h_peaks, .ref h_leftPaths, .ref h_rightPaths, .ref h_text, .ref h_labellings, .ref h_input, .ref h_explorer, .ref h_arrays, .ref a_reach]))], [(h_order, .inr (2, [.ref a_order_pairs, .ref a_order_below]))], [(a_order_below, .inl (G 0, 8, .inl order_below))], [(a_order_pairs, .inl (G 0, 8, .inl order_pairs))]] (xQi D [[(h, .inr (10, [.ref h_order, .ref h_system, .ref h_rules, .ref h_savedOrder, .ref h_savedSystem, .ref h_savedRules, .int snapshotSaved, .ref h_peaks, .ref h_leftPaths, .ref h_rightPaths, .ref h_text, .ref h_labellings, .ref h_input, .ref h_explorer, .ref h_arrays, .ref a_reach]))], [(h_order, .inr (2, [.ref a_order_pairs, .ref a_order_below]))], [(a_order_below, .inl (G 0, 8, .inl out.2.1))], [(a_order_pairs, .inl (G 0, 8, .inl out.2.2))]] out.1) := by
  refine x_ent (cc := cX11_addGreater) (maxL := 3) (by decide) rfl (Nat.le_of_ble_eq_true rfl) ?_
  intro p e s m blw meth c aa ls args Q H locs hQ hx hb hr hml hown hts hlocks hE hN hl hP hS
  have hown : s.vm.findClass RX11 = some m.cls := hown
  have hl : lv_has ls 3 [(0, .ref h), (1, .int v1), (2, .int v2)] := hl
  refine lv_iload_n hx hb dX11_addGreater_0 rfl (lv_at hl 1 rfl) ?_
  obtain ⟨r_1, hr_1, hf⟩ := bd_some hf
  refine x_goi0 (ps := []) (x_runS (As := [.int v1]) (rest := []) (ps := []) ⟨hx, hb, hml, hown, hts⟩ (k_X11_isLabel l D G fu v1 r_1 hr_1) (va_cwS 1 hts gX11_addGreater_X11_isLabel rfl rfl rfl (by decide +kernel) ⟨Nat.le_of_ble_eq_true rfl, Nat.le_of_ble_eq_true rfl⟩) hE hP hN rfl (by decide) rfl hl.1 (Nat.le_of_ble_eq_true rfl) dX11_addGreater_1 ⟨Nat.zero_le _, Nat.zero_le _⟩) hP hN hS rfl (fun H locs hP hS => ?_)
  refine lv_if_eq (tgt := 14) hx hb dX11_addGreater_4 (by decide) (fun c_4 => ?_) (fun c_4 => ?_)
  · have hf := it_pos c_4 hf
    refine lv_iconst (v := -1) hx hb dX11_addGreater_14 (by decide) ?_
    have hf := Option.some.inj hf
    rewrite [← hQ, ← hf]
    exact x_iret hx hb hr hlocks hP hS dX11_addGreater_15
  · have hf := it_neg c_4 hf
    refine lv_iload_n hx hb dX11_addGreater_7 rfl (lv_at hl 2 rfl) ?_
    obtain ⟨r_8, hr_8, hf⟩ := bd_some hf
    refine x_goi0 (ps := []) (x_runS (As := [.int v2]) (rest := []) (ps := []) ⟨hx, hb, hml, hown, hts⟩ (k_X11_isLabel l D G fu v2 r_8 hr_8) (va_cwS 1 hts gX11_addGreater_X11_isLabel rfl rfl rfl (by decide +kernel) ⟨Nat.le_of_ble_eq_true rfl, Nat.le_of_ble_eq_true rfl⟩) hE hP hN rfl (by decide) rfl hl.1 (Nat.le_of_ble_eq_true rfl) dX11_addGreater_8 ⟨Nat.zero_le _, Nat.zero_le _⟩) hP hN hS rfl (fun H locs hP hS => ?_)
    refine lv_if_ne (tgt := 16) hx hb dX11_addGreater_11 (by decide) (fun c_11 => ?_) (fun c_11 => ?_)
    · have hf := it_pos c_11 hf
      refine lv_iload_n hx hb dX11_addGreater_16 rfl (lv_at hl 1 rfl) ?_
      refine lv_iload_n hx hb dX11_addGreater_17 rfl (lv_at hl 2 rfl) ?_
      refine lv_icmp_eq (tgt := 33) hx hb dX11_addGreater_18 (by decide) (fun c_18 => ?_) (fun c_18 => ?_)
      · have hf := it_pos c_18 hf
        refine lv_bipush (v := -4) hx hb dX11_addGreater_33 (by decide) ?_
        have hf := Option.some.inj hf
        rewrite [← hQ, ← hf]
        exact x_iret hx hb hr hlocks hP hS dX11_addGreater_35
      · have hf := it_neg c_18 hf
        refine lv_aload_n hx hb dX11_addGreater_21 rfl (lv_at hl 0 rfl) ?_
        refine x_get hx hb hts u_X11_addGreater_X11 hown hE hP 0 rfl rfl 0 (by decide) (hts (.fieldLink RX11 12 "DecreasingDiagrams" "order" "LDecreasingDiagrams$LabelOrder;") (List.mem_of_getElem? (i := 1) rfl)) rfl dX11_addGreater_22 ?_
        refine lv_iload_n hx hb dX11_addGreater_25 rfl (lv_at hl 2 rfl) ?_
        refine lv_iload_n hx hb dX11_addGreater_26 rfl (lv_at hl 1 rfl) ?_
        obtain ⟨r_27, hr_27, hf⟩ := bd_some hf
        refine x_goi0 (ps := [1, 2]) (x_runVN (As := [.int v2, .int v1]) (rest := []) (ps := [1, 2]) ⟨hx, hb, hml, hown, hts⟩ (k_X2_isAbove l D G fu h_order a_order_pairs a_order_below order_below v2 v1 r_27 hr_27) ⟨va_cnB 2 hts gX11_addGreater_X2_isAbove_n103 rfl rfl rfl (hE.2 (.methodLinkNest RX11 103 yX2_isAbove RX11) (List.mem_of_getElem? (i := 53) rfl)) (hts (.initialized RX2) (List.mem_of_getElem? (i := 7) rfl)) (by decide +kernel) ⟨Nat.le_of_ble_eq_true rfl, Nat.le_of_ble_eq_true rfl⟩, (hts (.instanceMethod yX2_isAbove) (List.mem_of_getElem? (i := 6) rfl)), (hts (.selects RX2 yX2_isAbove yX2_isAbove) (List.mem_of_getElem? (i := 8) rfl))⟩ hE hP hN rfl (by decide) 1 rfl rfl rfl hl.1 (Nat.le_of_ble_eq_true rfl) dX11_addGreater_27 ⟨Nat.zero_le _, Nat.zero_le _⟩) hP hN hS rfl (fun H locs hP hS => ?_)
        refine lv_if_eq (tgt := 36) hx hb dX11_addGreater_30 (by decide) (fun c_30 => ?_) (fun c_30 => ?_)
        · have hf := it_pos c_30 hf
          refine lv_aload_n hx hb dX11_addGreater_36 rfl (lv_at hl 0 rfl) ?_
          refine x_get hx hb hts u_X11_addGreater_X11 hown hE hP 0 rfl rfl 0 (by decide) (hts (.fieldLink RX11 12 "DecreasingDiagrams" "order" "LDecreasingDiagrams$LabelOrder;") (List.mem_of_getElem? (i := 1) rfl)) rfl dX11_addGreater_37 ?_
          refine lv_iload_n hx hb dX11_addGreater_40 rfl (lv_at hl 1 rfl) ?_
          refine lv_iload_n hx hb dX11_addGreater_41 rfl (lv_at hl 2 rfl) ?_
          obtain ⟨r_42, hr_42, hf⟩ := bd_some hf
          refine x_goi0 (ps := [1, 3]) (x_runVN (As := [.int v1, .int v2]) (rest := []) (ps := [1, 3]) ⟨hx, hb, hml, hown, hts⟩ (k_X2_hasPair l D G fu h_order a_order_pairs a_order_below order_pairs v1 v2 r_42 hr_42) ⟨va_cnB 2 hts gX11_addGreater_X2_hasPair_n107 rfl rfl rfl (hE.2 (.methodLinkNest RX11 107 yX2_hasPair RX11) (List.mem_of_getElem? (i := 55) rfl)) (hts (.initialized RX2) (List.mem_of_getElem? (i := 7) rfl)) (by decide +kernel) ⟨Nat.le_of_ble_eq_true rfl, Nat.le_of_ble_eq_true rfl⟩, (hts (.instanceMethod yX2_hasPair) (List.mem_of_getElem? (i := 13) rfl)), (hts (.selects RX2 yX2_hasPair yX2_hasPair) (List.mem_of_getElem? (i := 14) rfl))⟩ hE hP hN rfl (by decide) 1 rfl rfl rfl hl.1 (Nat.le_of_ble_eq_true rfl) dX11_addGreater_42 ⟨Nat.zero_le _, Nat.zero_le _⟩) hP hN hS rfl (fun H locs hP hS => ?_)
          refine lv_if_eq (tgt := 50) hx hb dX11_addGreater_45 (by decide) (fun c_45 => ?_) (fun c_45 => ?_)
          · have hf := it_pos c_45 hf
            refine lv_aload_n hx hb dX11_addGreater_50 rfl (lv_at hl 0 rfl) ?_
            refine x_get hx hb hts u_X11_addGreater_X11 hown hE hP 0 rfl rfl 0 (by decide) (hts (.fieldLink RX11 12 "DecreasingDiagrams" "order" "LDecreasingDiagrams$LabelOrder;") (List.mem_of_getElem? (i := 1) rfl)) rfl dX11_addGreater_51 ?_
            refine lv_iload_n hx hb dX11_addGreater_54 rfl (lv_at hl 1 rfl) ?_
            refine lv_iload_n hx hb dX11_addGreater_55 rfl (lv_at hl 2 rfl) ?_
            obtain ⟨r_56, hr_56, hf⟩ := bd_some hf
            refine x_gov (ps := [1, 2, 3]) (qs := [0]) (n := 4) (I' := [[(h, .inr (10, [.ref h_order, .ref h_system, .ref h_rules, .ref h_savedOrder, .ref h_savedSystem, .ref h_savedRules, .int snapshotSaved, .ref h_peaks, .ref h_leftPaths, .ref h_rightPaths, .ref h_text, .ref h_labellings, .ref h_input, .ref h_explorer, .ref h_arrays, .ref a_reach]))], [(h_order, .inr (2, [.ref a_order_pairs, .ref a_order_below]))], [(a_order_below, .inl (G 0, 8, .inl r_56.1))], [(a_order_pairs, .inl (G 0, 8, .inl r_56.2))]]) (x_runVN (As := [.int v1, .int v2]) (rest := []) (ps := [1, 2, 3]) ⟨hx, hb, hml, hown, hts⟩ (k_X2_put l D G fu h_order a_order_pairs a_order_below order_below order_pairs v1 v2 r_56 hr_56) ⟨va_cnB 2 hts gX11_addGreater_X2_put_n110 rfl rfl rfl (hE.2 (.methodLinkNest RX11 110 yX2_put RX11) (List.mem_of_getElem? (i := 56) rfl)) (hts (.initialized RX2) (List.mem_of_getElem? (i := 7) rfl)) (by decide +kernel) ⟨Nat.le_of_ble_eq_true rfl, Nat.le_of_ble_eq_true rfl⟩, (hts (.instanceMethod yX2_put) (List.mem_of_getElem? (i := 17) rfl)), (hts (.selects RX2 yX2_put yX2_put) (List.mem_of_getElem? (i := 18) rfl))⟩ hE hP hN rfl (by decide) 1 rfl rfl rfl hl.1 (Nat.le_of_ble_eq_true rfl) dX11_addGreater_56 ⟨Nat.zero_le _, Nat.zero_le _⟩) hP hN hS rfl rfl rfl rfl rfl (by decide) (fun H locs hP hS => ?_)
            refine lv_iconst (v := 1) hx hb dX11_addGreater_59 (by decide) ?_
            have hf := Option.some.inj hf
            rewrite [← hQ, ← hf]
            exact x_iret hx hb hr hlocks hP hS dX11_addGreater_60
          · have hf := it_neg c_45 hf
            refine lv_iconst (v := 0) hx hb dX11_addGreater_48 (by decide) ?_
            have hf := Option.some.inj hf
            rewrite [← hQ, ← hf]
            exact x_iret hx hb hr hlocks hP hS dX11_addGreater_49
        · have hf := it_neg c_30 hf
          refine lv_bipush (v := -4) hx hb dX11_addGreater_33 (by decide) ?_
          have hf := Option.some.inj hf
          rewrite [← hQ, ← hf]
          exact x_iret hx hb hr hlocks hP hS dX11_addGreater_35
    · have hf := it_neg (fun h => h c_11) hf
      refine lv_iconst (v := -1) hx hb dX11_addGreater_14 (by decide) ?_
      have hf := Option.some.inj hf
      rewrite [← hQ, ← hf]
      exact x_iret hx hb hr hlocks hP hS dX11_addGreater_15

set_option maxRecDepth 20000 in
theorem u_X11_addObject_X11 : ∀ w ∈ wsX110, w ∈ wsX11_addObject := xx_pl _ [8, 9, 10, 11, 12, 13, 14, 15, 16, 17, 18, 19, 20, 21, 22, 23] (by decide +kernel)
def f_X11_addObject (system_objects : Int32) (system_words : (Nat → Int32)) : Option (Int32 × Int32 × (Nat → Int32)) :=
  (f_X3_appendObject system_objects system_words (-2)).bind (fun r_6 => some (r_6.1, r_6.2.1, r_6.2.2))
set_option maxHeartbeats 4000000 in
set_option maxRecDepth 100000 in
theorem k_X11_addObject (l : Launch) (D : va_G) (G : Nat → ClassId) (fu : Nat) (h : Nat) (h_order : Nat) (h_system : Nat) (h_rules : Nat) (h_savedOrder : Nat) (h_savedSystem : Nat) (h_savedRules : Nat) (h_peaks : Nat) (h_leftPaths : Nat) (h_rightPaths : Nat) (h_text : Nat) (h_labellings : Nat) (h_input : Nat) (h_explorer : Nat) (h_arrays : Nat) (a_reach : Nat) (a_system_words : Nat) (a_system_sources : Nat) (a_system_targets : Nat) (a_system_labels : Nat) (snapshotSaved : Int32) (system_objects : Int32) (system_steps : Int32) (system_words : (Nat → Int32))   (out : Int32 × Int32 × (Nat → Int32)) (hf : f_X11_addObject system_objects system_words = some out) : xMet l yX11_addObject wsX11_addObject (rM 1 21) D G [.ref h] [[(h, .inr (10, [.ref h_order, .ref h_system, .ref h_rules, .ref h_savedOrder, .ref h_savedSystem, .ref h_savedRules, .int snapshotSaved, .ref h_peaks, .ref h_leftPaths, .ref h_rightPaths, .ref h_text, .ref h_labellings, .ref h_input, .ref h_explorer, .ref h_arrays, .ref a_reach]))], [(h_system, .inr (3, [.int system_objects, .ref a_system_words, .int system_steps, .ref a_system_sources, .ref a_system_targets, .ref a_system_labels]))], [(a_system_words, .inl (G 0, 16, .inl system_words))]] (xQi D [[(h, .inr (10, [.ref h_order, .ref h_system, .ref h_rules, .ref h_savedOrder, .ref h_savedSystem, .ref h_savedRules, .int snapshotSaved, .ref h_peaks, .ref h_leftPaths, .ref h_rightPaths, .ref h_text, .ref h_labellings, .ref h_input, .ref h_explorer, .ref h_arrays, .ref a_reach]))], [(h_system, .inr (3, [.int out.2.1, .ref a_system_words, .int system_steps, .ref a_system_sources, .ref a_system_targets, .ref a_system_labels]))], [(a_system_words, .inl (G 0, 16, .inl out.2.2))]] out.1) := by
  refine x_ent (cc := cX11_addObject) (maxL := 1) (by decide) rfl (Nat.le_of_ble_eq_true rfl) ?_
  intro p e s m blw meth c aa ls args Q H locs hQ hx hb hr hml hown hts hlocks hE hN hl hP hS
  have hown : s.vm.findClass RX11 = some m.cls := hown
  have hl : lv_has ls 1 [(0, .ref h)] := hl
  refine lv_aload_n hx hb dX11_addObject_0 rfl (lv_at hl 0 rfl) ?_
  refine x_get hx hb hts u_X11_addObject_X11 hown hE hP 0 rfl rfl 1 (by decide) (hts (.fieldLink RX11 19 "DecreasingDiagrams" "system" "LDecreasingDiagrams$LabelledSystem;") (List.mem_of_getElem? (i := 1) rfl)) rfl dX11_addObject_1 ?_
  refine lv_bipush (v := -2) hx hb dX11_addObject_4 (by decide) ?_
  obtain ⟨r_6, hr_6, hf⟩ := bd_some hf
  refine x_goi (ps := [1, 2]) (qs := [0]) (n := 3) (I' := [[(h, .inr (10, [.ref h_order, .ref h_system, .ref h_rules, .ref h_savedOrder, .ref h_savedSystem, .ref h_savedRules, .int snapshotSaved, .ref h_peaks, .ref h_leftPaths, .ref h_rightPaths, .ref h_text, .ref h_labellings, .ref h_input, .ref h_explorer, .ref h_arrays, .ref a_reach]))], [(h_system, .inr (3, [.int r_6.2.1, .ref a_system_words, .int system_steps, .ref a_system_sources, .ref a_system_targets, .ref a_system_labels]))], [(a_system_words, .inl (G 0, 16, .inl r_6.2.2))]]) (x_runVN (As := [.int (-2)]) (rest := []) (ps := [1, 2]) ⟨hx, hb, hml, hown, hts⟩ (k_X3_appendObject l D G fu h_system a_system_words a_system_sources a_system_targets a_system_labels system_objects system_steps system_words (-2) r_6 hr_6) ⟨va_cnB 1 hts gX11_addObject_X3_appendObject_n124 rfl rfl rfl (hE.2 (.methodLinkNest RX11 124 yX3_appendObject RX11) (List.mem_of_getElem? (i := 60) rfl)) (hts (.initialized RX3) (List.mem_of_getElem? (i := 3) rfl)) (by decide +kernel) ⟨Nat.le_of_ble_eq_true rfl, Nat.le_of_ble_eq_true rfl⟩, (hts (.instanceMethod yX3_appendObject) (List.mem_of_getElem? (i := 2) rfl)), (hts (.selects RX3 yX3_appendObject yX3_appendObject) (List.mem_of_getElem? (i := 4) rfl))⟩ hE hP hN rfl (by decide) 1 rfl rfl rfl hl.1 (Nat.le_of_ble_eq_true rfl) dX11_addObject_6 ⟨Nat.zero_le _, Nat.zero_le _⟩) hP hN hS rfl rfl rfl rfl rfl (by decide) (fun H locs hP hS => ?_)
  have hf := Option.some.inj hf
  rewrite [← hQ, ← hf]
  exact x_iret hx hb hr hlocks hP hS dX11_addObject_9

set_option maxRecDepth 20000 in
theorem u_X1_byteAt_X1 : ∀ w ∈ wsX10, w ∈ wsX1_byteAt := xx_pl _ [3, 4] (by decide +kernel)
def f_X1_byteAt (length : Int32) (bytes : (Nat → Int32)) (v1 : Int32) : Option (Int32) :=
  if v1 < 0 then (some 0) else (if length ≤ v1 then (some 0) else (ck v1 20 (some (bytes v1.toNatClampNeg))))
set_option maxHeartbeats 4000000 in
set_option maxRecDepth 100000 in
theorem k_X1_byteAt (l : Launch) (D : va_G) (G : Nat → ClassId) (fu : Nat) (h : Nat) (a_bytes : Nat) (length : Int32) (bytes : (Nat → Int32))  (v1 : Int32) (out : Int32) (hf : f_X1_byteAt length bytes v1 = some out) : xMet l yX1_byteAt wsX1_byteAt (rM 0 0) D G [.ref h, .int v1] [[(h, .inr (1, [.int length, .ref a_bytes]))], [(a_bytes, .inl (G 0, 20, .inl bytes))]] (xQi D [[(h, .inr (1, [.int length, .ref a_bytes]))], [(a_bytes, .inl (G 0, 20, .inl bytes))]] out) := by
  refine x_ent (cc := cX1_byteAt) (maxL := 2) (by decide) rfl (Nat.le_of_ble_eq_true rfl) ?_
  intro p e s m blw meth c aa ls args Q H locs hQ hx hb hr hml hown hts hlocks hE hN hl hP hS
  have hown : s.vm.findClass RX1 = some m.cls := hown
  have hl : lv_has ls 2 [(0, .ref h), (1, .int v1)] := hl
  refine lv_iload_n hx hb dX1_byteAt_0 rfl (lv_at hl 1 rfl) ?_
  refine lv_if_lt (tgt := 21) hx hb dX1_byteAt_1 (by decide) (fun c_1 => ?_) (fun c_1 => ?_)
  · have hf := it_pos c_1 hf
    refine lv_iconst (v := 0) hx hb dX1_byteAt_21 (by decide) ?_
    have hf := Option.some.inj hf
    rewrite [← hQ, ← hf]
    exact x_iret hx hb hr hlocks hP hS dX1_byteAt_22
  · have hf := it_neg c_1 hf
    refine lv_iload_n hx hb dX1_byteAt_4 rfl (lv_at hl 1 rfl) ?_
    refine lv_aload_n hx hb dX1_byteAt_5 rfl (lv_at hl 0 rfl) ?_
    refine x_get hx hb hts u_X1_byteAt_X1 hown hE hP 0 rfl rfl 0 (by decide) (hts (.fieldLink RX1 9 "DecreasingDiagrams$InputLine" "length" "I") (List.mem_of_getElem? (i := 1) rfl)) rfl dX1_byteAt_6 ?_
    refine lv_icmp_ge (tgt := 21) hx hb dX1_byteAt_9 (by decide) (fun c_9 => ?_) (fun c_9 => ?_)
    · have hf := it_pos c_9 hf
      refine lv_iconst (v := 0) hx hb dX1_byteAt_21 (by decide) ?_
      have hf := Option.some.inj hf
      rewrite [← hQ, ← hf]
      exact x_iret hx hb hr hlocks hP hS dX1_byteAt_22
    · have hf := it_neg c_9 hf
      refine lv_aload_n hx hb dX1_byteAt_12 rfl (lv_at hl 0 rfl) ?_
      refine x_get hx hb hts u_X1_byteAt_X1 hown hE hP 0 rfl rfl 1 (by decide) (hts (.fieldLink RX1 15 "DecreasingDiagrams$InputLine" "bytes" "[I") (List.mem_of_getElem? (i := 2) rfl)) rfl dX1_byteAt_13 ?_
      refine lv_iload_n hx hb dX1_byteAt_16 rfl (lv_at hl 1 rfl) ?_
      obtain ⟨hi, hf⟩ := ck_some hf
      refine x_iald hx hb hE hP 1 rfl hi dX1_byteAt_17 ?_
      refine lv_goto (tgt := 22) hx hb dX1_byteAt_18 (by decide) ?_
      have hf := Option.some.inj hf
      rewrite [← hQ, ← hf]
      exact x_iret hx hb hr hlocks hP hS dX1_byteAt_22

def f_X1_wordAt_L5 (length : Int32) (bytes : (Nat → Int32)) (v1 : Int32) (v2 : Int32) (rec_5 : Int32 → Int32 → Option (Int32)) (v3 : Int32) (v4 : Int32) : Option (Int32) :=
  if v2 ≤ v4 then (some v3) else ((f_X1_byteAt length bytes (v1 + v4)).bind (fun r_16 => lt r_16 (fun v5_19 => if v5_19 < 97 then (some v3) else (if v5_19 ≤ 99 then ((f_X10_append v3 v4 v5_19).bind (fun r_42 => lt r_42 (fun v3_45 => lt (v4 + 1) (fun v4_46 => rec_5 v3_45 v4_46)))) else (some v3)))))
def f_X1_wordAt (fu : Nat) (length : Int32) (bytes : (Nat → Int32)) (v1 : Int32) (v2 : Int32) : Option (Int32) :=
  lt (0 : Int32) (fun v3_1 => lt (0 : Int32) (fun v4_3 => lp (τ := Int32 → Int32 → Option (Int32)) (fun _ _ => none) (f_X1_wordAt_L5 length bytes v1 v2) fu v3_1 v4_3))
set_option maxHeartbeats 4000000 in
set_option maxRecDepth 100000 in
theorem k_X1_wordAt (l : Launch) (D : va_G) (G : Nat → ClassId) (fu : Nat) (h : Nat) (a_bytes : Nat) (length : Int32) (bytes : (Nat → Int32))  (v1 : Int32) (v2 : Int32) (out : Int32) (hf : f_X1_wordAt fu length bytes v1 v2 = some out) : xMet l yX1_wordAt wsX1_wordAt (rM 1 22) D G [.ref h, .int v1, .int v2] [[(h, .inr (1, [.int length, .ref a_bytes]))], [(a_bytes, .inl (G 0, 20, .inl bytes))]] (xQi D [[(h, .inr (1, [.int length, .ref a_bytes]))], [(a_bytes, .inl (G 0, 20, .inl bytes))]] out) := by
  refine x_ent (cc := cX1_wordAt) (maxL := 6) (by decide) rfl (Nat.le_of_ble_eq_true rfl) ?_
  intro p e s m blw meth c aa ls args Q H locs hQ hx hb hr hml hown hts hlocks hE hN hl hP hS
  have hown : s.vm.findClass RX1 = some m.cls := hown
  have hl : lv_has ls 6 [(0, .ref h), (1, .int v1), (2, .int v2)] := hl
  have L5 : ∀ (n_5 : Nat) (v3 : Int32) (v4 : Int32) (H : Heap) (locs : List Loc) (ls : Array Slot), xW D aa [[(h, .inr (1, [.int length, .ref a_bytes]))], [(a_bytes, .inl (G 0, 20, .inl bytes))]] H → va_S (xA aa) s.heap H locs → lv_has ls 6 [(0, .ref h), (1, .int v1), (2, .int v2), (3, .int v3), (4, .int v4)] → lp (τ := Int32 → Int32 → Option (Int32)) (fun _ _ => none) (f_X1_wordAt_L5 length bytes v1 v2) n_5 v3 v4 = some out → W p l e (rM 1 22) s m args blw meth c H locs 0 0 Q (F0 m 5 ls []) := by
    intro    n_5
    induction n_5 with
    | zero =>
      intro v3 v4 H locs ls hP hS hl hf
      exact no_some hf
    | succ n_5 ih_5 =>
      intro v3 v4 H locs ls hP hS hl hf
      have hf : f_X1_wordAt_L5 length bytes v1 v2 (lp (τ := Int32 → Int32 → Option (Int32)) (fun _ _ => none) (f_X1_wordAt_L5 length bytes v1 v2) n_5) v3 v4 = some out := hf
      refine lv_iload hx hb dX1_wordAt_5 (lv_at hl 4 rfl) ?_
      refine lv_iload_n hx hb dX1_wordAt_7 rfl (lv_at hl 2 rfl) ?_
      refine lv_icmp_ge (tgt := 52) hx hb dX1_wordAt_8 (by decide) (fun c_8 => ?_) (fun c_8 => ?_)
      · have hf := it_pos c_8 hf
        refine lv_iload_n hx hb dX1_wordAt_52 rfl (lv_at hl 3 rfl) ?_
        have hf := Option.some.inj hf
        rewrite [← hQ, ← hf]
        exact x_iret hx hb hr hlocks hP hS dX1_wordAt_53
      · have hf := it_neg c_8 hf
        refine lv_aload_n hx hb dX1_wordAt_11 rfl (lv_at hl 0 rfl) ?_
        refine lv_iload_n hx hb dX1_wordAt_12 rfl (lv_at hl 1 rfl) ?_
        refine lv_iload hx hb dX1_wordAt_13 (lv_at hl 4 rfl) ?_
        refine lv_iadd hx hb dX1_wordAt_15 ?_
        obtain ⟨r_16, hr_16, hf⟩ := bd_some hf
        refine x_goi0 (ps := [0, 1]) (x_runV (As := [.int (v1 + v4)]) (rest := []) (ps := [0, 1]) ⟨hx, hb, hml, hown, hts⟩ (k_X1_byteAt l D G fu h a_bytes length bytes (v1 + v4) r_16 hr_16) (cwV 1 hts gX1_wordAt_X1_byteAt rfl rfl rfl (by decide +kernel) ⟨Nat.le_of_ble_eq_true rfl, Nat.le_of_ble_eq_true rfl⟩) hE hP hN rfl (by decide) 0 rfl rfl rfl hl.1 (Nat.le_of_ble_eq_true rfl) dX1_wordAt_16 ⟨Nat.zero_le _, Nat.zero_le _⟩) hP hN hS rfl (fun H locs hP hS => ?_)
        obtain ⟨v5_19, e_v5_19, hf⟩ := lt_some hf
        refine x_istore (v := v5_19) (lv' := [(5, .int v5_19), (0, .ref h), (1, .int v1), (2, .int v2), (3, .int v3), (4, .int v4)]) hx hb dX1_wordAt_19 e_v5_19 hl (by decide) rfl (fun ls hl => ?_)
        refine lv_iload hx hb dX1_wordAt_21 (lv_at hl 0 rfl) ?_
        refine lv_bipush (v := 97) hx hb dX1_wordAt_23 (by decide) ?_
        refine lv_icmp_lt (tgt := 35) hx hb dX1_wordAt_25 (by decide) (fun c_25 => ?_) (fun c_25 => ?_)
        · have hf := it_pos c_25 hf
          refine lv_iload_n hx hb dX1_wordAt_35 rfl (lv_at hl 4 rfl) ?_
          have hf := Option.some.inj hf
          rewrite [← hQ, ← hf]
          exact x_iret hx hb hr hlocks hP hS dX1_wordAt_36
        · have hf := it_neg c_25 hf
          refine lv_iload hx hb dX1_wordAt_28 (lv_at hl 0 rfl) ?_
          refine lv_bipush (v := 99) hx hb dX1_wordAt_30 (by decide) ?_
          refine lv_icmp_le (tgt := 37) hx hb dX1_wordAt_32 (by decide) (fun c_32 => ?_) (fun c_32 => ?_)
          · have hf := it_pos c_32 hf
            refine lv_iload_n hx hb dX1_wordAt_37 rfl (lv_at hl 4 rfl) ?_
            refine lv_iload hx hb dX1_wordAt_38 (lv_at hl 5 rfl) ?_
            refine lv_iload hx hb dX1_wordAt_40 (lv_at hl 0 rfl) ?_
            obtain ⟨r_42, hr_42, hf⟩ := bd_some hf
            refine x_goi0 (ps := []) (x_runSN (As := [.int v3, .int v4, .int v5_19]) (rest := []) (ps := []) ⟨hx, hb, hml, hown, hts⟩ (k_X10_append l D G fu v3 v4 v5_19 r_42 hr_42) ⟨va_cnB 3 hts gX1_wordAt_X10_append_n23 rfl rfl rfl (hE.2 (.methodLinkNest RX1 23 yX10_append RX11) (List.mem_of_getElem? (i := 94) rfl)) (hts (.initialized RX10) (List.mem_of_getElem? (i := 9) rfl)) (by decide +kernel) ⟨Nat.le_of_ble_eq_true rfl, Nat.le_of_ble_eq_true rfl⟩, (hts (.static yX10_append) (List.mem_of_getElem? (i := 8) rfl)), trivial⟩ hE hP hN rfl (by decide) rfl hl.1 (Nat.le_of_ble_eq_true rfl) dX1_wordAt_42 ⟨Nat.zero_le _, Nat.zero_le _⟩) hP hN hS rfl (fun H locs hP hS => ?_)
            obtain ⟨v3_45, e_v3_45, hf⟩ := lt_some hf
            refine x_istore_n (v := v3_45) (lv' := [(3, .int v3_45), (5, .int v5_19), (0, .ref h), (1, .int v1), (2, .int v2), (4, .int v4)]) hx hb dX1_wordAt_45 e_v3_45 rfl hl (by decide) rfl (fun ls hl => ?_)
            obtain ⟨v4_46, e_v4_46, hf⟩ := lt_some hf
            refine lv_iinc (v := v4_46) (lv' := [(4, .int v4_46), (3, .int v3_45), (5, .int v5_19), (0, .ref h), (1, .int v1), (2, .int v2)]) hx hb dX1_wordAt_46 hl (k := 5) rfl (by rw [e_v4_46]; rfl) (by decide) rfl (fun ls hl => ?_)
            refine lv_goto (tgt := 5) hx hb dX1_wordAt_49 (by decide) ?_
            exact ih_5 v3_45 v4_46 H locs ls hP hS (lv_sub hl [3, 4, 5, 1, 0] rfl) hf
          · have hf := it_neg c_32 hf
            refine lv_iload_n hx hb dX1_wordAt_35 rfl (lv_at hl 4 rfl) ?_
            have hf := Option.some.inj hf
            rewrite [← hQ, ← hf]
            exact x_iret hx hb hr hlocks hP hS dX1_wordAt_36
  refine lv_iconst (v := 0) hx hb dX1_wordAt_0 (by decide) ?_
  obtain ⟨v3_1, e_v3_1, hf⟩ := lt_some hf
  refine x_istore_n (v := v3_1) (lv' := [(3, .int v3_1), (0, .ref h), (1, .int v1), (2, .int v2)]) hx hb dX1_wordAt_1 e_v3_1 rfl hl (by decide) rfl (fun ls hl => ?_)
  refine lv_iconst (v := 0) hx hb dX1_wordAt_2 (by decide) ?_
  obtain ⟨v4_3, e_v4_3, hf⟩ := lt_some hf
  refine x_istore (v := v4_3) (lv' := [(4, .int v4_3), (3, .int v3_1), (0, .ref h), (1, .int v1), (2, .int v2)]) hx hb dX1_wordAt_3 e_v4_3 hl (by decide) rfl (fun ls hl => ?_)
  exact L5    fu v3_1 v4_3 H locs ls hP hS (lv_sub hl [2, 3, 4, 1, 0] rfl) hf

set_option maxRecDepth 20000 in
theorem u_X1_clear_X1 : ∀ w ∈ wsX10, w ∈ wsX1_clear := xx_pl _ [2, 3] (by decide +kernel)
def f_X1_clear  : Option (Int32) :=
  lt (0 : Int32) (fun length_2 => some length_2)
set_option maxHeartbeats 4000000 in
set_option maxRecDepth 100000 in
theorem k_X1_clear (l : Launch) (D : va_G) (G : Nat → ClassId) (fu : Nat) (h : Nat) (a_bytes : Nat) (length : Int32)   (out : Int32) (hf : f_X1_clear  = some out) : xMet l yX1_clear wsX1_clear (rM 0 0) D G [.ref h] [[(h, .inr (1, [.int length, .ref a_bytes]))]] (xQv D [[(h, .inr (1, [.int out, .ref a_bytes]))]]) := by
  refine x_ent (cc := cX1_clear) (maxL := 1) (by decide) rfl (Nat.le_of_ble_eq_true rfl) ?_
  intro p e s m blw meth c aa ls args Q H locs hQ hx hb hr hml hown hts hlocks hE hN hl hP hS
  have hown : s.vm.findClass RX1 = some m.cls := hown
  have hl : lv_has ls 1 [(0, .ref h)] := hl
  refine lv_aload_n hx hb dX1_clear_0 rfl (lv_at hl 0 rfl) ?_
  refine lv_iconst (v := 0) hx hb dX1_clear_1 (by decide) ?_
  obtain ⟨length_2, e_length_2, hf⟩ := lt_some hf
  refine x_put (w := .int length_2) (ty := .int) (I' := [[(h, .inr (1, [.int length_2, .ref a_bytes]))]]) hx hb hts u_X1_clear_X1 tyX1 tyX1_ok nmX1 hown hE hP hN hS 0 rfl rfl 0 (by decide) (hts (.fieldLink RX1 9 "DecreasingDiagrams$InputLine" "length" "I") (List.mem_of_getElem? (i := 1) rfl)) rfl (congrArg Value.int e_length_2) (by decide +kernel) rfl rfl (Nat.le_of_ble_eq_true rfl) rfl dX1_clear_2 (fun H locs hP hS => ?_)
  have hf := Option.some.inj hf
  rewrite [← hQ, ← hf]
  exact x_vret hx hb hr hlocks hP hS dX1_clear_5

set_option maxRecDepth 20000 in
theorem u_X8_append_X8 : ∀ w ∈ wsX80, w ∈ wsX8_append := xx_pl _ [4, 5, 6] (by decide +kernel)
def f_X8_append (count : Int32) (lefts : (Nat → Int32)) (rights : (Nat → Int32)) (v1 : Int32) (v2 : Int32) : Option (Int32 × Int32 × (Nat → Int32) × (Nat → Int32)) :=
  if count < 6 then (ck count 6 (lt (upd lefts count.toNatClampNeg v1) (fun lefts_21 => ck count 6 (lt (upd rights count.toNatClampNeg v2) (fun rights_31 => lt (count + 1) (fun count_39 => some (count_39 - 1, count_39, lefts_21, rights_31))))))) else (some ((-3), count, lefts, rights))
set_option maxHeartbeats 4000000 in
set_option maxRecDepth 100000 in
theorem k_X8_append (l : Launch) (D : va_G) (G : Nat → ClassId) (fu : Nat) (h : Nat) (a_lefts : Nat) (a_rights : Nat) (count : Int32) (lefts : (Nat → Int32)) (rights : (Nat → Int32))  (v1 : Int32) (v2 : Int32) (out : Int32 × Int32 × (Nat → Int32) × (Nat → Int32)) (hf : f_X8_append count lefts rights v1 v2 = some out) : xMet l yX8_append wsX8_append (rM 0 0) D G [.ref h, .int v1, .int v2] [[(h, .inr (8, [.int count, .ref a_lefts, .ref a_rights]))], [(a_lefts, .inl (G 0, 6, .inl lefts))], [(a_rights, .inl (G 0, 6, .inl rights))]] (xQi D [[(h, .inr (8, [.int out.2.1, .ref a_lefts, .ref a_rights]))], [(a_lefts, .inl (G 0, 6, .inl out.2.2.1))], [(a_rights, .inl (G 0, 6, .inl out.2.2.2))]] out.1) := by
  refine x_ent (cc := cX8_append) (maxL := 3) (by decide) rfl (Nat.le_of_ble_eq_true rfl) ?_
  intro p e s m blw meth c aa ls args Q H locs hQ hx hb hr hml hown hts hlocks hE hN hl hP hS
  have hown : s.vm.findClass RX8 = some m.cls := hown
  have hl : lv_has ls 3 [(0, .ref h), (1, .int v1), (2, .int v2)] := hl
  refine lv_aload_n hx hb dX8_append_0 rfl (lv_at hl 0 rfl) ?_
  refine x_get hx hb hts u_X8_append_X8 hown hE hP 0 rfl rfl 0 (by decide) (hts (.fieldLink RX8 9 "DecreasingDiagrams$RuleSet" "count" "I") (List.mem_of_getElem? (i := 1) rfl)) rfl dX8_append_1 ?_
  refine lv_bipush (v := 6) hx hb dX8_append_4 (by decide) ?_
  refine lv_icmp_lt (tgt := 12) hx hb dX8_append_6 (by decide) (fun c_6 => ?_) (fun c_6 => ?_)
  · have hf := it_pos c_6 hf
    refine lv_aload_n hx hb dX8_append_12 rfl (lv_at hl 0 rfl) ?_
    refine x_get hx hb hts u_X8_append_X8 hown hE hP 0 rfl rfl 1 (by decide) (hts (.fieldLink RX8 15 "DecreasingDiagrams$RuleSet" "lefts" "[I") (List.mem_of_getElem? (i := 2) rfl)) rfl dX8_append_13 ?_
    refine lv_aload_n hx hb dX8_append_16 rfl (lv_at hl 0 rfl) ?_
    refine x_get hx hb hts u_X8_append_X8 hown hE hP 0 rfl rfl 0 (by decide) (hts (.fieldLink RX8 9 "DecreasingDiagrams$RuleSet" "count" "I") (List.mem_of_getElem? (i := 1) rfl)) rfl dX8_append_17 ?_
    refine lv_iload_n hx hb dX8_append_20 rfl (lv_at hl 1 rfl) ?_
    obtain ⟨hi, hf⟩ := ck_some hf
    obtain ⟨lefts_21, e_lefts_21, hf⟩ := lt_some hf
    refine x_iast (I' := [[(h, .inr (8, [.int count, .ref a_lefts, .ref a_rights]))], [(a_lefts, .inl (G 0, 6, .inl lefts_21))], [(a_rights, .inl (G 0, 6, .inl rights))]]) hx hb hE hP hN hS 1 rfl hi e_lefts_21 rfl dX8_append_21 (fun H locs hP hS => ?_)
    refine lv_aload_n hx hb dX8_append_22 rfl (lv_at hl 0 rfl) ?_
    refine x_get hx hb hts u_X8_append_X8 hown hE hP 0 rfl rfl 2 (by decide) (hts (.fieldLink RX8 19 "DecreasingDiagrams$RuleSet" "rights" "[I") (List.mem_of_getElem? (i := 3) rfl)) rfl dX8_append_23 ?_
    refine lv_aload_n hx hb dX8_append_26 rfl (lv_at hl 0 rfl) ?_
    refine x_get hx hb hts u_X8_append_X8 hown hE hP 0 rfl rfl 0 (by decide) (hts (.fieldLink RX8 9 "DecreasingDiagrams$RuleSet" "count" "I") (List.mem_of_getElem? (i := 1) rfl)) rfl dX8_append_27 ?_
    refine lv_iload_n hx hb dX8_append_30 rfl (lv_at hl 2 rfl) ?_
    obtain ⟨hi, hf⟩ := ck_some hf
    obtain ⟨rights_31, e_rights_31, hf⟩ := lt_some hf
    refine x_iast (I' := [[(h, .inr (8, [.int count, .ref a_lefts, .ref a_rights]))], [(a_lefts, .inl (G 0, 6, .inl lefts_21))], [(a_rights, .inl (G 0, 6, .inl rights_31))]]) hx hb hE hP hN hS 2 rfl hi e_rights_31 rfl dX8_append_31 (fun H locs hP hS => ?_)
    refine lv_aload_n hx hb dX8_append_32 rfl (lv_at hl 0 rfl) ?_
    refine lv_dup hx hb dX8_append_33 rfl ?_
    refine x_get hx hb hts u_X8_append_X8 hown hE hP 0 rfl rfl 0 (by decide) (hts (.fieldLink RX8 9 "DecreasingDiagrams$RuleSet" "count" "I") (List.mem_of_getElem? (i := 1) rfl)) rfl dX8_append_34 ?_
    refine lv_iconst (v := 1) hx hb dX8_append_37 (by decide) ?_
    refine lv_iadd hx hb dX8_append_38 ?_
    obtain ⟨count_39, e_count_39, hf⟩ := lt_some hf
    refine x_put (w := .int count_39) (ty := .int) (I' := [[(h, .inr (8, [.int count_39, .ref a_lefts, .ref a_rights]))], [(a_lefts, .inl (G 0, 6, .inl lefts_21))], [(a_rights, .inl (G 0, 6, .inl rights_31))]]) hx hb hts u_X8_append_X8 tyX8 tyX8_ok nmX8 hown hE hP hN hS 0 rfl rfl 0 (by decide) (hts (.fieldLink RX8 9 "DecreasingDiagrams$RuleSet" "count" "I") (List.mem_of_getElem? (i := 1) rfl)) rfl (congrArg Value.int e_count_39) (by decide +kernel) rfl rfl (Nat.le_of_ble_eq_true rfl) rfl dX8_append_39 (fun H locs hP hS => ?_)
    refine lv_aload_n hx hb dX8_append_42 rfl (lv_at hl 0 rfl) ?_
    refine x_get hx hb hts u_X8_append_X8 hown hE hP 0 rfl rfl 0 (by decide) (hts (.fieldLink RX8 9 "DecreasingDiagrams$RuleSet" "count" "I") (List.mem_of_getElem? (i := 1) rfl)) rfl dX8_append_43 ?_
    refine lv_iconst (v := 1) hx hb dX8_append_46 (by decide) ?_
    refine lv_isub hx hb dX8_append_47 ?_
    have hf := Option.some.inj hf
    rewrite [← hQ, ← hf]
    exact x_iret hx hb hr hlocks hP hS dX8_append_48
  · have hf := it_neg c_6 hf
    refine lv_bipush (v := -3) hx hb dX8_append_9 (by decide) ?_
    have hf := Option.some.inj hf
    rewrite [← hQ, ← hf]
    exact x_iret hx hb hr hlocks hP hS dX8_append_11

set_option maxRecDepth 20000 in
theorem u_X11_addRule_X11 : ∀ w ∈ wsX110, w ∈ wsX11_addRule := xx_pl _ [28, 29, 30, 31, 32, 33, 34, 35, 36, 37, 38, 39, 40, 41, 42, 43] (by decide +kernel)
set_option maxRecDepth 20000 in
theorem u_X11_addRule_X1 : ∀ w ∈ wsX10, w ∈ wsX11_addRule := xx_pl _ [47, 48] (by decide +kernel)
set_option maxRecDepth 20000 in
theorem u_X11_addRule_X8 : ∀ w ∈ wsX80, w ∈ wsX11_addRule := xx_pl _ [44, 45, 46] (by decide +kernel)
def f_X11_addRule_J93  (t0 : Int32) (v1 : Int32) (v2 : Int32) (v3 : Int32) (v4 : Int32) (v5 : Int32) (input_length : Int32) (rules_count : Int32) (rules_lefts : (Nat → Int32)) (rules_rights : (Nat → Int32)) : Option (Int32 × Int32 × Int32 × (Nat → Int32) × (Nat → Int32)) :=
  lt t0 (fun v6_93 => (f_X1_clear).bind (fun r_99 => if ¬ v5 = 0 then (if v6_93 = 0 then (some ((-100) - v4, r_99, rules_count, rules_lefts, rules_rights)) else ((f_X8_append rules_count rules_lefts rules_rights v1 v3).bind (fun r_123 => some (r_123.1, r_99, r_123.2.1, r_123.2.2.1, r_123.2.2.2)))) else (some ((-100) - v2, r_99, rules_count, rules_lefts, rules_rights))))
def f_X11_addRule_J74  (t0 : Int32) (v1 : Int32) (v2 : Int32) (v3 : Int32) (v4 : Int32) (input_length : Int32) (rules_count : Int32) (rules_lefts : (Nat → Int32)) (rules_rights : (Nat → Int32)) : Option (Int32 × Int32 × Int32 × (Nat → Int32) × (Nat → Int32)) :=
  lt t0 (fun v5_74 => if ¬ v4 = input_length then (f_X11_addRule_J93 0 v1 v2 v3 v4 v5_74 input_length rules_count rules_lefts rules_rights) else (f_X11_addRule_J93 1 v1 v2 v3 v4 v5_74 input_length rules_count rules_lefts rules_rights))
def f_X11_addRule_J73  (v1 : Int32) (v2 : Int32) (v3 : Int32) (v4 : Int32) (input_length : Int32) (rules_count : Int32) (rules_lefts : (Nat → Int32)) (rules_rights : (Nat → Int32)) : Option (Int32 × Int32 × Int32 × (Nat → Int32) × (Nat → Int32)) :=
  f_X11_addRule_J74 0 v1 v2 v3 v4 input_length rules_count rules_lefts rules_rights
def f_X11_addRule (fu : Nat) (input_length : Int32) (rules_count : Int32) (input_bytes : (Nat → Int32)) (rules_lefts : (Nat → Int32)) (rules_rights : (Nat → Int32)) : Option (Int32 × Int32 × Int32 × (Nat → Int32) × (Nat → Int32)) :=
  if rules_count < 6 then ((f_X1_wordAt fu input_length input_bytes 0 4).bind (fun r_21 => lt r_21 (fun v1_24 => (f_X10_lengthOf fu v1_24).bind (fun r_26 => lt r_26 (fun v2_29 => (f_X1_wordAt fu input_length input_bytes (v2_29 + 1) 4).bind (fun r_38 => lt r_38 (fun v3_41 => (f_X10_lengthOf fu v3_41).bind (fun r_46 => lt ((v2_29 + 1) + r_46) (fun v4_50 => if v2_29 ≤ 0 then (f_X11_addRule_J73 v1_24 v2_29 v3_41 v4_50 input_length rules_count rules_lefts rules_rights) else ((f_X1_byteAt input_length input_bytes v2_29).bind (fun r_61 => if ¬ r_61 = 62 then (f_X11_addRule_J73 v1_24 v2_29 v3_41 v4_50 input_length rules_count rules_lefts rules_rights) else (f_X11_addRule_J74 1 v1_24 v2_29 v3_41 v4_50 input_length rules_count rules_lefts rules_rights)))))))))))) else (some ((-3), input_length, rules_count, rules_lefts, rules_rights))
set_option maxHeartbeats 4000000 in
set_option maxRecDepth 100000 in
theorem k_X11_addRule (l : Launch) (D : va_G) (G : Nat → ClassId) (fu : Nat) (h : Nat) (h_order : Nat) (h_system : Nat) (h_rules : Nat) (h_savedOrder : Nat) (h_savedSystem : Nat) (h_savedRules : Nat) (h_peaks : Nat) (h_leftPaths : Nat) (h_rightPaths : Nat) (h_text : Nat) (h_labellings : Nat) (h_input : Nat) (h_explorer : Nat) (h_arrays : Nat) (a_reach : Nat) (a_input_bytes : Nat) (a_rules_lefts : Nat) (a_rules_rights : Nat) (snapshotSaved : Int32) (input_length : Int32) (rules_count : Int32) (input_bytes : (Nat → Int32)) (rules_lefts : (Nat → Int32)) (rules_rights : (Nat → Int32))   (out : Int32 × Int32 × Int32 × (Nat → Int32) × (Nat → Int32)) (hf : f_X11_addRule fu input_length rules_count input_bytes rules_lefts rules_rights = some out) : xMet l yX11_addRule wsX11_addRule (rM 2 47) D G [.ref h] [[(h, .inr (10, [.ref h_order, .ref h_system, .ref h_rules, .ref h_savedOrder, .ref h_savedSystem, .ref h_savedRules, .int snapshotSaved, .ref h_peaks, .ref h_leftPaths, .ref h_rightPaths, .ref h_text, .ref h_labellings, .ref h_input, .ref h_explorer, .ref h_arrays, .ref a_reach]))], [(h_input, .inr (1, [.int input_length, .ref a_input_bytes]))], [(a_input_bytes, .inl (G 0, 20, .inl input_bytes))], [(h_rules, .inr (8, [.int rules_count, .ref a_rules_lefts, .ref a_rules_rights]))], [(a_rules_lefts, .inl (G 0, 6, .inl rules_lefts))], [(a_rules_rights, .inl (G 0, 6, .inl rules_rights))]] (xQi D [[(h, .inr (10, [.ref h_order, .ref h_system, .ref h_rules, .ref h_savedOrder, .ref h_savedSystem, .ref h_savedRules, .int snapshotSaved, .ref h_peaks, .ref h_leftPaths, .ref h_rightPaths, .ref h_text, .ref h_labellings, .ref h_input, .ref h_explorer, .ref h_arrays, .ref a_reach]))], [(h_input, .inr (1, [.int out.2.1, .ref a_input_bytes]))], [(a_input_bytes, .inl (G 0, 20, .inl input_bytes))], [(h_rules, .inr (8, [.int out.2.2.1, .ref a_rules_lefts, .ref a_rules_rights]))], [(a_rules_lefts, .inl (G 0, 6, .inl out.2.2.2.1))], [(a_rules_rights, .inl (G 0, 6, .inl out.2.2.2.2))]] out.1) := by
  refine x_ent (cc := cX11_addRule) (maxL := 7) (by decide) rfl (Nat.le_of_ble_eq_true rfl) ?_
  intro p e s m blw meth c aa ls args Q H locs hQ hx hb hr hml hown hts hlocks hE hN hl hP hS
  have hown : s.vm.findClass RX11 = some m.cls := hown
  have hl : lv_has ls 7 [(0, .ref h)] := hl
  have J93 : ∀ (t0 : Int32) (v1 : Int32) (v2 : Int32) (v3 : Int32) (v4 : Int32) (v5 : Int32) (input_length : Int32) (rules_count : Int32) (rules_lefts : (Nat → Int32)) (rules_rights : (Nat → Int32)) (H : Heap) (locs : List Loc) (ls : Array Slot), xW D aa [[(h, .inr (10, [.ref h_order, .ref h_system, .ref h_rules, .ref h_savedOrder, .ref h_savedSystem, .ref h_savedRules, .int snapshotSaved, .ref h_peaks, .ref h_leftPaths, .ref h_rightPaths, .ref h_text, .ref h_labellings, .ref h_input, .ref h_explorer, .ref h_arrays, .ref a_reach]))], [(h_input, .inr (1, [.int input_length, .ref a_input_bytes]))], [(a_input_bytes, .inl (G 0, 20, .inl input_bytes))], [(h_rules, .inr (8, [.int rules_count, .ref a_rules_lefts, .ref a_rules_rights]))], [(a_rules_lefts, .inl (G 0, 6, .inl rules_lefts))], [(a_rules_rights, .inl (G 0, 6, .inl rules_rights))]] H → va_S (xA aa) s.heap H locs → lv_has ls 7 [(0, .ref h), (1, .int v1), (2, .int v2), (3, .int v3), (4, .int v4), (5, .int v5)] → f_X11_addRule_J93  t0 v1 v2 v3 v4 v5 input_length rules_count rules_lefts rules_rights = some out → W p l e (rM 2 47) s m args blw meth c H locs 0 0 Q (F0 m 93 ls [.int t0]) := by
    intro t0 v1 v2 v3 v4 v5 input_length rules_count rules_lefts rules_rights  H locs ls  hP hS hl hf
    obtain ⟨v6_93, e_v6_93, hf⟩ := lt_some hf
    refine x_istore (v := v6_93) (lv' := [(6, .int v6_93), (0, .ref h), (1, .int v1), (2, .int v2), (3, .int v3), (4, .int v4), (5, .int v5)]) hx hb dX11_addRule_93 e_v6_93 hl (by decide) rfl (fun ls hl => ?_)
    refine lv_aload_n hx hb dX11_addRule_95 rfl (lv_at hl 1 rfl) ?_
    refine x_get hx hb hts u_X11_addRule_X11 hown hE hP 0 rfl rfl 12 (by decide) (hts (.fieldLink RX11 77 "DecreasingDiagrams" "input" "LDecreasingDiagrams$InputLine;") (List.mem_of_getElem? (i := 2) rfl)) rfl dX11_addRule_96 ?_
    obtain ⟨r_99, hr_99, hf⟩ := bd_some hf
    refine x_gov (ps := [1]) (qs := [0, 2, 3, 4, 5]) (n := 6) (I' := [[(h, .inr (10, [.ref h_order, .ref h_system, .ref h_rules, .ref h_savedOrder, .ref h_savedSystem, .ref h_savedRules, .int snapshotSaved, .ref h_peaks, .ref h_leftPaths, .ref h_rightPaths, .ref h_text, .ref h_labellings, .ref h_input, .ref h_explorer, .ref h_arrays, .ref a_reach]))], [(h_input, .inr (1, [.int r_99, .ref a_input_bytes]))], [(a_input_bytes, .inl (G 0, 20, .inl input_bytes))], [(h_rules, .inr (8, [.int rules_count, .ref a_rules_lefts, .ref a_rules_rights]))], [(a_rules_lefts, .inl (G 0, 6, .inl rules_lefts))], [(a_rules_rights, .inl (G 0, 6, .inl rules_rights))]]) (x_runVN (As := []) (rest := []) (ps := [1]) ⟨hx, hb, hml, hown, hts⟩ (k_X1_clear l D G fu h_input a_input_bytes input_length r_99 hr_99) ⟨va_cnB 0 hts gX11_addRule_X1_clear_n287 rfl rfl rfl (hE.2 (.methodLinkNest RX11 287 yX1_clear RX11) (List.mem_of_getElem? (i := 97) rfl)) (hts (.initialized RX1) (List.mem_of_getElem? (i := 4) rfl)) (by decide +kernel) ⟨Nat.le_of_ble_eq_true rfl, Nat.le_of_ble_eq_true rfl⟩, (hts (.instanceMethod yX1_clear) (List.mem_of_getElem? (i := 18) rfl)), (hts (.selects RX1 yX1_clear yX1_clear) (List.mem_of_getElem? (i := 19) rfl))⟩ hE hP hN rfl (by decide) 1 rfl rfl rfl hl.1 (Nat.le_of_ble_eq_true rfl) dX11_addRule_99 ⟨Nat.zero_le _, Nat.zero_le _⟩) hP hN hS rfl rfl rfl rfl rfl (by decide) (fun H locs hP hS => ?_)
    refine lv_iload hx hb dX11_addRule_102 (lv_at hl 6 rfl) ?_
    refine lv_if_ne (tgt := 112) hx hb dX11_addRule_104 (by decide) (fun c_104 => ?_) (fun c_104 => ?_)
    · have hf := it_pos c_104 hf
      refine lv_iload hx hb dX11_addRule_112 (lv_at hl 0 rfl) ?_
      refine lv_if_eq (tgt := 129) hx hb dX11_addRule_114 (by decide) (fun c_114 => ?_) (fun c_114 => ?_)
      · have hf := it_pos c_114 hf
        refine lv_bipush (v := -100) hx hb dX11_addRule_129 (by decide) ?_
        refine lv_iload hx hb dX11_addRule_131 (lv_at hl 5 rfl) ?_
        refine lv_isub hx hb dX11_addRule_133 ?_
        have hf := Option.some.inj hf
        rewrite [← hQ, ← hf]
        exact x_iret hx hb hr hlocks hP hS dX11_addRule_134
      · have hf := it_neg c_114 hf
        refine lv_aload_n hx hb dX11_addRule_117 rfl (lv_at hl 1 rfl) ?_
        refine x_get hx hb hts u_X11_addRule_X11 hown hE hP 0 rfl rfl 2 (by decide) (hts (.fieldLink RX11 26 "DecreasingDiagrams" "rules" "LDecreasingDiagrams$RuleSet;") (List.mem_of_getElem? (i := 1) rfl)) rfl dX11_addRule_118 ?_
        refine lv_iload_n hx hb dX11_addRule_121 rfl (lv_at hl 2 rfl) ?_
        refine lv_iload_n hx hb dX11_addRule_122 rfl (lv_at hl 4 rfl) ?_
        obtain ⟨r_123, hr_123, hf⟩ := bd_some hf
        refine x_goi (ps := [3, 4, 5]) (qs := [0, 1, 2]) (n := 6) (I' := [[(h, .inr (10, [.ref h_order, .ref h_system, .ref h_rules, .ref h_savedOrder, .ref h_savedSystem, .ref h_savedRules, .int snapshotSaved, .ref h_peaks, .ref h_leftPaths, .ref h_rightPaths, .ref h_text, .ref h_labellings, .ref h_input, .ref h_explorer, .ref h_arrays, .ref a_reach]))], [(h_input, .inr (1, [.int r_99, .ref a_input_bytes]))], [(a_input_bytes, .inl (G 0, 20, .inl input_bytes))], [(h_rules, .inr (8, [.int r_123.2.1, .ref a_rules_lefts, .ref a_rules_rights]))], [(a_rules_lefts, .inl (G 0, 6, .inl r_123.2.2.1))], [(a_rules_rights, .inl (G 0, 6, .inl r_123.2.2.2))]]) (x_runVN (As := [.int v1, .int v3]) (rest := []) (ps := [3, 4, 5]) ⟨hx, hb, hml, hown, hts⟩ (k_X8_append l D G fu h_rules a_rules_lefts a_rules_rights rules_count rules_lefts rules_rights v1 v3 r_123 hr_123) ⟨va_cnB 2 hts gX11_addRule_X8_append_n288 rfl rfl rfl (hE.2 (.methodLinkNest RX11 288 yX8_append RX11) (List.mem_of_getElem? (i := 98) rfl)) (hts (.initialized RX8) (List.mem_of_getElem? (i := 22) rfl)) (by decide +kernel) ⟨Nat.le_of_ble_eq_true rfl, Nat.le_of_ble_eq_true rfl⟩, (hts (.instanceMethod yX8_append) (List.mem_of_getElem? (i := 21) rfl)), (hts (.selects RX8 yX8_append yX8_append) (List.mem_of_getElem? (i := 23) rfl))⟩ hE hP hN rfl (by decide) 3 rfl rfl rfl hl.1 (Nat.le_of_ble_eq_true rfl) dX11_addRule_123 ⟨Nat.zero_le _, Nat.zero_le _⟩) hP hN hS rfl rfl rfl rfl rfl (by decide) (fun H locs hP hS => ?_)
        refine lv_goto (tgt := 134) hx hb dX11_addRule_126 (by decide) ?_
        have hf := Option.some.inj hf
        rewrite [← hQ, ← hf]
        exact x_iret hx hb hr hlocks hP hS dX11_addRule_134
    · have hf := it_neg (fun h => h c_104) hf
      refine lv_bipush (v := -100) hx hb dX11_addRule_107 (by decide) ?_
      refine lv_iload_n hx hb dX11_addRule_109 rfl (lv_at hl 3 rfl) ?_
      refine lv_isub hx hb dX11_addRule_110 ?_
      have hf := Option.some.inj hf
      rewrite [← hQ, ← hf]
      exact x_iret hx hb hr hlocks hP hS dX11_addRule_111
  have J74 : ∀ (t0 : Int32) (v1 : Int32) (v2 : Int32) (v3 : Int32) (v4 : Int32) (input_length : Int32) (rules_count : Int32) (rules_lefts : (Nat → Int32)) (rules_rights : (Nat → Int32)) (H : Heap) (locs : List Loc) (ls : Array Slot), xW D aa [[(h, .inr (10, [.ref h_order, .ref h_system, .ref h_rules, .ref h_savedOrder, .ref h_savedSystem, .ref h_savedRules, .int snapshotSaved, .ref h_peaks, .ref h_leftPaths, .ref h_rightPaths, .ref h_text, .ref h_labellings, .ref h_input, .ref h_explorer, .ref h_arrays, .ref a_reach]))], [(h_input, .inr (1, [.int input_length, .ref a_input_bytes]))], [(a_input_bytes, .inl (G 0, 20, .inl input_bytes))], [(h_rules, .inr (8, [.int rules_count, .ref a_rules_lefts, .ref a_rules_rights]))], [(a_rules_lefts, .inl (G 0, 6, .inl rules_lefts))], [(a_rules_rights, .inl (G 0, 6, .inl rules_rights))]] H → va_S (xA aa) s.heap H locs → lv_has ls 7 [(0, .ref h), (1, .int v1), (2, .int v2), (3, .int v3), (4, .int v4)] → f_X11_addRule_J74  t0 v1 v2 v3 v4 input_length rules_count rules_lefts rules_rights = some out → W p l e (rM 2 47) s m args blw meth c H locs 0 0 Q (F0 m 74 ls [.int t0]) := by
    intro t0 v1 v2 v3 v4 input_length rules_count rules_lefts rules_rights  H locs ls  hP hS hl hf
    obtain ⟨v5_74, e_v5_74, hf⟩ := lt_some hf
    refine x_istore (v := v5_74) (lv' := [(5, .int v5_74), (0, .ref h), (1, .int v1), (2, .int v2), (3, .int v3), (4, .int v4)]) hx hb dX11_addRule_74 e_v5_74 hl (by decide) rfl (fun ls hl => ?_)
    refine lv_iload hx hb dX11_addRule_76 (lv_at hl 5 rfl) ?_
    refine lv_aload_n hx hb dX11_addRule_78 rfl (lv_at hl 1 rfl) ?_
    refine x_get hx hb hts u_X11_addRule_X11 hown hE hP 0 rfl rfl 12 (by decide) (hts (.fieldLink RX11 77 "DecreasingDiagrams" "input" "LDecreasingDiagrams$InputLine;") (List.mem_of_getElem? (i := 2) rfl)) rfl dX11_addRule_79 ?_
    refine x_getN hx hb hts u_X11_addRule_X1 hown hE hP 1 rfl rfl 0 (by decide) (hE.2 (.fieldLinkNest RX11 271 "DecreasingDiagrams$InputLine" "length" "I" RX11) (List.mem_of_getElem? (i := 43) rfl)) rfl dX11_addRule_82 ?_
    refine lv_icmp_ne (tgt := 92) hx hb dX11_addRule_85 (by decide) (fun c_85 => ?_) (fun c_85 => ?_)
    · have hf := it_pos c_85 hf
      refine lv_iconst (v := 0) hx hb dX11_addRule_92 (by decide) ?_
      exact J93 0 v1 v2 v3 v4 v5_74 input_length rules_count rules_lefts rules_rights  H locs ls  hP hS (lv_sub hl [1, 2, 3, 4, 5, 0] rfl) hf
    · have hf := it_neg (fun h => h c_85) hf
      refine lv_iconst (v := 1) hx hb dX11_addRule_88 (by decide) ?_
      refine lv_goto (tgt := 93) hx hb dX11_addRule_89 (by decide) ?_
      exact J93 1 v1 v2 v3 v4 v5_74 input_length rules_count rules_lefts rules_rights  H locs ls  hP hS (lv_sub hl [1, 2, 3, 4, 5, 0] rfl) hf
  have J73 : ∀ (v1 : Int32) (v2 : Int32) (v3 : Int32) (v4 : Int32) (input_length : Int32) (rules_count : Int32) (rules_lefts : (Nat → Int32)) (rules_rights : (Nat → Int32)) (H : Heap) (locs : List Loc) (ls : Array Slot), xW D aa [[(h, .inr (10, [.ref h_order, .ref h_system, .ref h_rules, .ref h_savedOrder, .ref h_savedSystem, .ref h_savedRules, .int snapshotSaved, .ref h_peaks, .ref h_leftPaths, .ref h_rightPaths, .ref h_text, .ref h_labellings, .ref h_input, .ref h_explorer, .ref h_arrays, .ref a_reach]))], [(h_input, .inr (1, [.int input_length, .ref a_input_bytes]))], [(a_input_bytes, .inl (G 0, 20, .inl input_bytes))], [(h_rules, .inr (8, [.int rules_count, .ref a_rules_lefts, .ref a_rules_rights]))], [(a_rules_lefts, .inl (G 0, 6, .inl rules_lefts))], [(a_rules_rights, .inl (G 0, 6, .inl rules_rights))]] H → va_S (xA aa) s.heap H locs → lv_has ls 7 [(0, .ref h), (1, .int v1), (2, .int v2), (3, .int v3), (4, .int v4)] → f_X11_addRule_J73  v1 v2 v3 v4 input_length rules_count rules_lefts rules_rights = some out → W p l e (rM 2 47) s m args blw meth c H locs 0 0 Q (F0 m 73 ls []) := by
    intro v1 v2 v3 v4 input_length rules_count rules_lefts rules_rights  H locs ls  hP hS hl hf
    refine lv_iconst (v := 0) hx hb dX11_addRule_73 (by decide) ?_
    exact J74 0 v1 v2 v3 v4 input_length rules_count rules_lefts rules_rights  H locs ls  hP hS (lv_sub hl [0, 1, 2, 3, 4] rfl) hf
  refine lv_aload_n hx hb dX11_addRule_0 rfl (lv_at hl 0 rfl) ?_
  refine x_get hx hb hts u_X11_addRule_X11 hown hE hP 0 rfl rfl 2 (by decide) (hts (.fieldLink RX11 26 "DecreasingDiagrams" "rules" "LDecreasingDiagrams$RuleSet;") (List.mem_of_getElem? (i := 1) rfl)) rfl dX11_addRule_1 ?_
  refine x_getN hx hb hts u_X11_addRule_X8 hown hE hP 3 rfl rfl 0 (by decide) (hE.2 (.fieldLinkNest RX11 275 "DecreasingDiagrams$RuleSet" "count" "I" RX11) (List.mem_of_getElem? (i := 24) rfl)) rfl dX11_addRule_4 ?_
  refine lv_bipush (v := 6) hx hb dX11_addRule_7 (by decide) ?_
  refine lv_icmp_lt (tgt := 15) hx hb dX11_addRule_9 (by decide) (fun c_9 => ?_) (fun c_9 => ?_)
  · have hf := it_pos c_9 hf
    refine lv_aload_n hx hb dX11_addRule_15 rfl (lv_at hl 0 rfl) ?_
    refine x_get hx hb hts u_X11_addRule_X11 hown hE hP 0 rfl rfl 12 (by decide) (hts (.fieldLink RX11 77 "DecreasingDiagrams" "input" "LDecreasingDiagrams$InputLine;") (List.mem_of_getElem? (i := 2) rfl)) rfl dX11_addRule_16 ?_
    refine lv_iconst (v := 0) hx hb dX11_addRule_19 (by decide) ?_
    refine lv_iconst (v := 4) hx hb dX11_addRule_20 (by decide) ?_
    obtain ⟨r_21, hr_21, hf⟩ := bd_some hf
    refine x_goi0 (ps := [1, 2]) (x_runVN (As := [.int 0, .int 4]) (rest := []) (ps := [1, 2]) ⟨hx, hb, hml, hown, hts⟩ (k_X1_wordAt l D G fu h_input a_input_bytes input_length input_bytes 0 4 r_21 hr_21) ⟨va_cnB 2 hts gX11_addRule_X1_wordAt_n276 rfl rfl rfl (hE.2 (.methodLinkNest RX11 276 yX1_wordAt RX11) (List.mem_of_getElem? (i := 93) rfl)) (hts (.initialized RX1) (List.mem_of_getElem? (i := 4) rfl)) (by decide +kernel) ⟨Nat.le_of_ble_eq_true rfl, Nat.le_of_ble_eq_true rfl⟩, (hts (.instanceMethod yX1_wordAt) (List.mem_of_getElem? (i := 3) rfl)), (hts (.selects RX1 yX1_wordAt yX1_wordAt) (List.mem_of_getElem? (i := 5) rfl))⟩ hE hP hN rfl (by decide) 1 rfl rfl rfl hl.1 (Nat.le_of_ble_eq_true rfl) dX11_addRule_21 ⟨Nat.zero_le _, Nat.zero_le _⟩) hP hN hS rfl (fun H locs hP hS => ?_)
    obtain ⟨v1_24, e_v1_24, hf⟩ := lt_some hf
    refine x_istore_n (v := v1_24) (lv' := [(1, .int v1_24), (0, .ref h)]) hx hb dX11_addRule_24 e_v1_24 rfl hl (by decide) rfl (fun ls hl => ?_)
    refine lv_iload_n hx hb dX11_addRule_25 rfl (lv_at hl 0 rfl) ?_
    obtain ⟨r_26, hr_26, hf⟩ := bd_some hf
    refine x_goi0 (ps := []) (x_runSN (As := [.int v1_24]) (rest := []) (ps := []) ⟨hx, hb, hml, hown, hts⟩ (k_X10_lengthOf l D G fu v1_24 r_26 hr_26) ⟨va_cnB 1 hts gX11_addRule_X10_lengthOf_n279 rfl rfl rfl (hE.2 (.methodLinkNest RX11 279 yX10_lengthOf RX11) (List.mem_of_getElem? (i := 95) rfl)) (hts (.initialized RX10) (List.mem_of_getElem? (i := 14) rfl)) (by decide +kernel) ⟨Nat.le_of_ble_eq_true rfl, Nat.le_of_ble_eq_true rfl⟩, (hts (.static yX10_lengthOf) (List.mem_of_getElem? (i := 16) rfl)), trivial⟩ hE hP hN rfl (by decide) rfl hl.1 (Nat.le_of_ble_eq_true rfl) dX11_addRule_26 ⟨Nat.zero_le _, Nat.zero_le _⟩) hP hN hS rfl (fun H locs hP hS => ?_)
    obtain ⟨v2_29, e_v2_29, hf⟩ := lt_some hf
    refine x_istore_n (v := v2_29) (lv' := [(2, .int v2_29), (1, .int v1_24), (0, .ref h)]) hx hb dX11_addRule_29 e_v2_29 rfl hl (by decide) rfl (fun ls hl => ?_)
    refine lv_aload_n hx hb dX11_addRule_30 rfl (lv_at hl 2 rfl) ?_
    refine x_get hx hb hts u_X11_addRule_X11 hown hE hP 0 rfl rfl 12 (by decide) (hts (.fieldLink RX11 77 "DecreasingDiagrams" "input" "LDecreasingDiagrams$InputLine;") (List.mem_of_getElem? (i := 2) rfl)) rfl dX11_addRule_31 ?_
    refine lv_iload_n hx hb dX11_addRule_34 rfl (lv_at hl 0 rfl) ?_
    refine lv_iconst (v := 1) hx hb dX11_addRule_35 (by decide) ?_
    refine lv_iadd hx hb dX11_addRule_36 ?_
    refine lv_iconst (v := 4) hx hb dX11_addRule_37 (by decide) ?_
    obtain ⟨r_38, hr_38, hf⟩ := bd_some hf
    refine x_goi0 (ps := [1, 2]) (x_runVN (As := [.int (v2_29 + 1), .int 4]) (rest := []) (ps := [1, 2]) ⟨hx, hb, hml, hown, hts⟩ (k_X1_wordAt l D G fu h_input a_input_bytes input_length input_bytes (v2_29 + 1) 4 r_38 hr_38) ⟨va_cnB 2 hts gX11_addRule_X1_wordAt_n276 rfl rfl rfl (hE.2 (.methodLinkNest RX11 276 yX1_wordAt RX11) (List.mem_of_getElem? (i := 93) rfl)) (hts (.initialized RX1) (List.mem_of_getElem? (i := 4) rfl)) (by decide +kernel) ⟨Nat.le_of_ble_eq_true rfl, Nat.le_of_ble_eq_true rfl⟩, (hts (.instanceMethod yX1_wordAt) (List.mem_of_getElem? (i := 3) rfl)), (hts (.selects RX1 yX1_wordAt yX1_wordAt) (List.mem_of_getElem? (i := 5) rfl))⟩ hE hP hN rfl (by decide) 1 rfl rfl rfl hl.1 (Nat.le_of_ble_eq_true rfl) dX11_addRule_38 ⟨Nat.zero_le _, Nat.zero_le _⟩) hP hN hS rfl (fun H locs hP hS => ?_)
    obtain ⟨v3_41, e_v3_41, hf⟩ := lt_some hf
    refine x_istore_n (v := v3_41) (lv' := [(3, .int v3_41), (2, .int v2_29), (1, .int v1_24), (0, .ref h)]) hx hb dX11_addRule_41 e_v3_41 rfl hl (by decide) rfl (fun ls hl => ?_)
    refine lv_iload_n hx hb dX11_addRule_42 rfl (lv_at hl 1 rfl) ?_
    refine lv_iconst (v := 1) hx hb dX11_addRule_43 (by decide) ?_
    refine lv_iadd hx hb dX11_addRule_44 ?_
    refine lv_iload_n hx hb dX11_addRule_45 rfl (lv_at hl 0 rfl) ?_
    obtain ⟨r_46, hr_46, hf⟩ := bd_some hf
    refine x_goi0 (ps := []) (x_runSN (As := [.int v3_41]) (rest := [.int (v2_29 + 1)]) (ps := []) ⟨hx, hb, hml, hown, hts⟩ (k_X10_lengthOf l D G fu v3_41 r_46 hr_46) ⟨va_cnB 1 hts gX11_addRule_X10_lengthOf_n279 rfl rfl rfl (hE.2 (.methodLinkNest RX11 279 yX10_lengthOf RX11) (List.mem_of_getElem? (i := 95) rfl)) (hts (.initialized RX10) (List.mem_of_getElem? (i := 14) rfl)) (by decide +kernel) ⟨Nat.le_of_ble_eq_true rfl, Nat.le_of_ble_eq_true rfl⟩, (hts (.static yX10_lengthOf) (List.mem_of_getElem? (i := 16) rfl)), trivial⟩ hE hP hN rfl (by decide) rfl hl.1 (Nat.le_of_ble_eq_true rfl) dX11_addRule_46 ⟨Nat.zero_le _, Nat.zero_le _⟩) hP hN hS rfl (fun H locs hP hS => ?_)
    refine lv_iadd hx hb dX11_addRule_49 ?_
    obtain ⟨v4_50, e_v4_50, hf⟩ := lt_some hf
    refine x_istore (v := v4_50) (lv' := [(4, .int v4_50), (3, .int v3_41), (2, .int v2_29), (1, .int v1_24), (0, .ref h)]) hx hb dX11_addRule_50 e_v4_50 hl (by decide) rfl (fun ls hl => ?_)
    refine lv_iload_n hx hb dX11_addRule_52 rfl (lv_at hl 2 rfl) ?_
    refine lv_if_le (tgt := 73) hx hb dX11_addRule_53 (by decide) (fun c_53 => ?_) (fun c_53 => ?_)
    · have hf := it_pos c_53 hf
      exact J73 v1_24 v2_29 v3_41 v4_50 input_length rules_count rules_lefts rules_rights  H locs ls  hP hS (lv_sub hl [4, 3, 2, 1, 0] rfl) hf
    · have hf := it_neg c_53 hf
      refine lv_aload_n hx hb dX11_addRule_56 rfl (lv_at hl 4 rfl) ?_
      refine x_get hx hb hts u_X11_addRule_X11 hown hE hP 0 rfl rfl 12 (by decide) (hts (.fieldLink RX11 77 "DecreasingDiagrams" "input" "LDecreasingDiagrams$InputLine;") (List.mem_of_getElem? (i := 2) rfl)) rfl dX11_addRule_57 ?_
      refine lv_iload_n hx hb dX11_addRule_60 rfl (lv_at hl 2 rfl) ?_
      obtain ⟨r_61, hr_61, hf⟩ := bd_some hf
      refine x_goi0 (ps := [1, 2]) (x_runVN (As := [.int v2_29]) (rest := []) (ps := [1, 2]) ⟨hx, hb, hml, hown, hts⟩ (k_X1_byteAt l D G fu h_input a_input_bytes input_length input_bytes v2_29 r_61 hr_61) ⟨va_cnB 1 hts gX11_addRule_X1_byteAt_n284 rfl rfl rfl (hE.2 (.methodLinkNest RX11 284 yX1_byteAt RX11) (List.mem_of_getElem? (i := 96) rfl)) (hts (.initialized RX1) (List.mem_of_getElem? (i := 4) rfl)) (by decide +kernel) ⟨Nat.le_of_ble_eq_true rfl, Nat.le_of_ble_eq_true rfl⟩, (hts (.instanceMethod yX1_byteAt) (List.mem_of_getElem? (i := 8) rfl)), (hts (.selects RX1 yX1_byteAt yX1_byteAt) (List.mem_of_getElem? (i := 9) rfl))⟩ hE hP hN rfl (by decide) 1 rfl rfl rfl hl.1 (Nat.le_of_ble_eq_true rfl) dX11_addRule_61 ⟨Nat.zero_le _, Nat.zero_le _⟩) hP hN hS rfl (fun H locs hP hS => ?_)
      refine lv_bipush (v := 62) hx hb dX11_addRule_64 (by decide) ?_
      refine lv_icmp_ne (tgt := 73) hx hb dX11_addRule_66 (by decide) (fun c_66 => ?_) (fun c_66 => ?_)
      · have hf := it_pos c_66 hf
        exact J73 v1_24 v2_29 v3_41 v4_50 input_length rules_count rules_lefts rules_rights  H locs ls  hP hS (lv_sub hl [4, 3, 2, 1, 0] rfl) hf
      · have hf := it_neg (fun h => h c_66) hf
        refine lv_iconst (v := 1) hx hb dX11_addRule_69 (by decide) ?_
        refine lv_goto (tgt := 74) hx hb dX11_addRule_70 (by decide) ?_
        exact J74 1 v1_24 v2_29 v3_41 v4_50 input_length rules_count rules_lefts rules_rights  H locs ls  hP hS (lv_sub hl [4, 3, 2, 1, 0] rfl) hf
  · have hf := it_neg c_9 hf
    refine lv_bipush (v := -3) hx hb dX11_addRule_12 (by decide) ?_
    have hf := Option.some.inj hf
    rewrite [← hQ, ← hf]
    exact x_iret hx hb hr hlocks hP hS dX11_addRule_14

set_option maxRecDepth 20000 in
theorem u_X3_hasObject_X3 : ∀ w ∈ wsX30, w ∈ wsX3_hasObject := xx_pl _ [2, 3, 4, 5, 6, 7] (by decide +kernel)
def f_X3_hasObject (objects : Int32) (v1 : Int32) : Option (Int32) :=
  if v1 < 0 then (some 0) else (if objects ≤ v1 then (some 0) else (some 1))
set_option maxHeartbeats 4000000 in
set_option maxRecDepth 100000 in
theorem k_X3_hasObject (l : Launch) (D : va_G) (G : Nat → ClassId) (fu : Nat) (h : Nat) (a_words : Nat) (a_sources : Nat) (a_targets : Nat) (a_labels : Nat) (objects : Int32) (steps : Int32)  (v1 : Int32) (out : Int32) (hf : f_X3_hasObject objects v1 = some out) : xMet l yX3_hasObject wsX3_hasObject (rM 0 0) D G [.ref h, .int v1] [[(h, .inr (3, [.int objects, .ref a_words, .int steps, .ref a_sources, .ref a_targets, .ref a_labels]))]] (xQi D [[(h, .inr (3, [.int objects, .ref a_words, .int steps, .ref a_sources, .ref a_targets, .ref a_labels]))]] out) := by
  refine x_ent (cc := cX3_hasObject) (maxL := 2) (by decide) rfl (Nat.le_of_ble_eq_true rfl) ?_
  intro p e s m blw meth c aa ls args Q H locs hQ hx hb hr hml hown hts hlocks hE hN hl hP hS
  have hown : s.vm.findClass RX3 = some m.cls := hown
  have hl : lv_has ls 2 [(0, .ref h), (1, .int v1)] := hl
  refine lv_iload_n hx hb dX3_hasObject_0 rfl (lv_at hl 1 rfl) ?_
  refine lv_if_lt (tgt := 16) hx hb dX3_hasObject_1 (by decide) (fun c_1 => ?_) (fun c_1 => ?_)
  · have hf := it_pos c_1 hf
    refine lv_iconst (v := 0) hx hb dX3_hasObject_16 (by decide) ?_
    have hf := Option.some.inj hf
    rewrite [← hQ, ← hf]
    exact x_zret (r := 0) hx hb hr hlocks rfl hP hS dX3_hasObject_17
  · have hf := it_neg c_1 hf
    refine lv_iload_n hx hb dX3_hasObject_4 rfl (lv_at hl 1 rfl) ?_
    refine lv_aload_n hx hb dX3_hasObject_5 rfl (lv_at hl 0 rfl) ?_
    refine x_get hx hb hts u_X3_hasObject_X3 hown hE hP 0 rfl rfl 0 (by decide) (hts (.fieldLink RX3 9 "DecreasingDiagrams$LabelledSystem" "objects" "I") (List.mem_of_getElem? (i := 1) rfl)) rfl dX3_hasObject_6 ?_
    refine lv_icmp_ge (tgt := 16) hx hb dX3_hasObject_9 (by decide) (fun c_9 => ?_) (fun c_9 => ?_)
    · have hf := it_pos c_9 hf
      refine lv_iconst (v := 0) hx hb dX3_hasObject_16 (by decide) ?_
      have hf := Option.some.inj hf
      rewrite [← hQ, ← hf]
      exact x_zret (r := 0) hx hb hr hlocks rfl hP hS dX3_hasObject_17
    · have hf := it_neg c_9 hf
      refine lv_iconst (v := 1) hx hb dX3_hasObject_12 (by decide) ?_
      refine lv_goto (tgt := 17) hx hb dX3_hasObject_13 (by decide) ?_
      have hf := Option.some.inj hf
      rewrite [← hQ, ← hf]
      exact x_zret (r := 1) hx hb hr hlocks rfl hP hS dX3_hasObject_17

set_option maxRecDepth 20000 in
theorem u_X11_addStep_X11 : ∀ w ∈ wsX110, w ∈ wsX11_addStep := xx_pl _ [18, 19, 20, 21, 22, 23, 24, 25, 26, 27, 28, 29, 30, 31, 32, 33] (by decide +kernel)
def f_X11_addStep (system_objects : Int32) (system_steps : Int32) (system_labels : (Nat → Int32)) (system_sources : (Nat → Int32)) (system_targets : (Nat → Int32)) (v1 : Int32) (v2 : Int32) (v3 : Int32) : Option (Int32 × (Nat → Int32) × (Nat → Int32) × Int32 × (Nat → Int32)) :=
  (f_X3_hasObject system_objects v1).bind (fun r_5 => if r_5 = 0 then (some ((-1), system_labels, system_sources, system_steps, system_targets)) else ((f_X3_hasObject system_objects v2).bind (fun r_16 => if r_16 = 0 then (some ((-1), system_labels, system_sources, system_steps, system_targets)) else ((f_X11_isLabel v3).bind (fun r_23 => if ¬ r_23 = 0 then ((f_X3_appendStep system_steps system_labels system_sources system_targets v1 v2 v3).bind (fun r_38 => some (r_38.1, r_38.2.1, r_38.2.2.1, r_38.2.2.2.1, r_38.2.2.2.2))) else (some ((-1), system_labels, system_sources, system_steps, system_targets)))))))
set_option maxHeartbeats 4000000 in
set_option maxRecDepth 100000 in
theorem k_X11_addStep (l : Launch) (D : va_G) (G : Nat → ClassId) (fu : Nat) (h : Nat) (h_order : Nat) (h_system : Nat) (h_rules : Nat) (h_savedOrder : Nat) (h_savedSystem : Nat) (h_savedRules : Nat) (h_peaks : Nat) (h_leftPaths : Nat) (h_rightPaths : Nat) (h_text : Nat) (h_labellings : Nat) (h_input : Nat) (h_explorer : Nat) (h_arrays : Nat) (a_reach : Nat) (a_system_words : Nat) (a_system_sources : Nat) (a_system_targets : Nat) (a_system_labels : Nat) (snapshotSaved : Int32) (system_objects : Int32) (system_steps : Int32) (system_labels : (Nat → Int32)) (system_sources : (Nat → Int32)) (system_targets : (Nat → Int32))  (v1 : Int32) (v2 : Int32) (v3 : Int32) (out : Int32 × (Nat → Int32) × (Nat → Int32) × Int32 × (Nat → Int32)) (hf : f_X11_addStep system_objects system_steps system_labels system_sources system_targets v1 v2 v3 = some out) : xMet l yX11_addStep wsX11_addStep (rM 1 23) D G [.ref h, .int v1, .int v2, .int v3] [[(h, .inr (10, [.ref h_order, .ref h_system, .ref h_rules, .ref h_savedOrder, .ref h_savedSystem, .ref h_savedRules, .int snapshotSaved, .ref h_peaks, .ref h_leftPaths, .ref h_rightPaths, .ref h_text, .ref h_labellings, .ref h_input, .ref h_explorer, .ref h_arrays, .ref a_reach]))], [(h_system, .inr (3, [.int system_objects, .ref a_system_words, .int system_steps, .ref a_system_sources, .ref a_system_targets, .ref a_system_labels]))], [(a_system_labels, .inl (G 0, 32, .inl system_labels))], [(a_system_sources, .inl (G 0, 32, .inl system_sources))], [(a_system_targets, .inl (G 0, 32, .inl system_targets))]] (xQi D [[(h, .inr (10, [.ref h_order, .ref h_system, .ref h_rules, .ref h_savedOrder, .ref h_savedSystem, .ref h_savedRules, .int snapshotSaved, .ref h_peaks, .ref h_leftPaths, .ref h_rightPaths, .ref h_text, .ref h_labellings, .ref h_input, .ref h_explorer, .ref h_arrays, .ref a_reach]))], [(h_system, .inr (3, [.int system_objects, .ref a_system_words, .int out.2.2.2.1, .ref a_system_sources, .ref a_system_targets, .ref a_system_labels]))], [(a_system_labels, .inl (G 0, 32, .inl out.2.1))], [(a_system_sources, .inl (G 0, 32, .inl out.2.2.1))], [(a_system_targets, .inl (G 0, 32, .inl out.2.2.2.2))]] out.1) := by
  refine x_ent (cc := cX11_addStep) (maxL := 4) (by decide) rfl (Nat.le_of_ble_eq_true rfl) ?_
  intro p e s m blw meth c aa ls args Q H locs hQ hx hb hr hml hown hts hlocks hE hN hl hP hS
  have hown : s.vm.findClass RX11 = some m.cls := hown
  have hl : lv_has ls 4 [(0, .ref h), (1, .int v1), (2, .int v2), (3, .int v3)] := hl
  refine lv_aload_n hx hb dX11_addStep_0 rfl (lv_at hl 0 rfl) ?_
  refine x_get hx hb hts u_X11_addStep_X11 hown hE hP 0 rfl rfl 1 (by decide) (hts (.fieldLink RX11 19 "DecreasingDiagrams" "system" "LDecreasingDiagrams$LabelledSystem;") (List.mem_of_getElem? (i := 1) rfl)) rfl dX11_addStep_1 ?_
  refine lv_iload_n hx hb dX11_addStep_4 rfl (lv_at hl 1 rfl) ?_
  obtain ⟨r_5, hr_5, hf⟩ := bd_some hf
  refine x_goi0 (ps := [1]) (x_runVN (As := [.int v1]) (rest := []) (ps := [1]) ⟨hx, hb, hml, hown, hts⟩ (k_X3_hasObject l D G fu h_system a_system_words a_system_sources a_system_targets a_system_labels system_objects system_steps v1 r_5 hr_5) ⟨va_cnB 1 hts gX11_addStep_X3_hasObject_n128 rfl rfl rfl (hE.2 (.methodLinkNest RX11 128 yX3_hasObject RX11) (List.mem_of_getElem? (i := 61) rfl)) (hts (.initialized RX3) (List.mem_of_getElem? (i := 3) rfl)) (by decide +kernel) ⟨Nat.le_of_ble_eq_true rfl, Nat.le_of_ble_eq_true rfl⟩, (hts (.instanceMethod yX3_hasObject) (List.mem_of_getElem? (i := 2) rfl)), (hts (.selects RX3 yX3_hasObject yX3_hasObject) (List.mem_of_getElem? (i := 4) rfl))⟩ hE hP hN rfl (by decide) 1 rfl rfl rfl hl.1 (Nat.le_of_ble_eq_true rfl) dX11_addStep_5 ⟨Nat.zero_le _, Nat.zero_le _⟩) hP hN hS rfl (fun H locs hP hS => ?_)
  refine lv_if_eq (tgt := 29) hx hb dX11_addStep_8 (by decide) (fun c_8 => ?_) (fun c_8 => ?_)
  · have hf := it_pos c_8 hf
    refine lv_iconst (v := -1) hx hb dX11_addStep_29 (by decide) ?_
    have hf := Option.some.inj hf
    rewrite [← hQ, ← hf]
    exact x_iret hx hb hr hlocks hP hS dX11_addStep_30
  · have hf := it_neg c_8 hf
    refine lv_aload_n hx hb dX11_addStep_11 rfl (lv_at hl 0 rfl) ?_
    refine x_get hx hb hts u_X11_addStep_X11 hown hE hP 0 rfl rfl 1 (by decide) (hts (.fieldLink RX11 19 "DecreasingDiagrams" "system" "LDecreasingDiagrams$LabelledSystem;") (List.mem_of_getElem? (i := 1) rfl)) rfl dX11_addStep_12 ?_
    refine lv_iload_n hx hb dX11_addStep_15 rfl (lv_at hl 2 rfl) ?_
    obtain ⟨r_16, hr_16, hf⟩ := bd_some hf
    refine x_goi0 (ps := [1]) (x_runVN (As := [.int v2]) (rest := []) (ps := [1]) ⟨hx, hb, hml, hown, hts⟩ (k_X3_hasObject l D G fu h_system a_system_words a_system_sources a_system_targets a_system_labels system_objects system_steps v2 r_16 hr_16) ⟨va_cnB 1 hts gX11_addStep_X3_hasObject_n128 rfl rfl rfl (hE.2 (.methodLinkNest RX11 128 yX3_hasObject RX11) (List.mem_of_getElem? (i := 61) rfl)) (hts (.initialized RX3) (List.mem_of_getElem? (i := 3) rfl)) (by decide +kernel) ⟨Nat.le_of_ble_eq_true rfl, Nat.le_of_ble_eq_true rfl⟩, (hts (.instanceMethod yX3_hasObject) (List.mem_of_getElem? (i := 2) rfl)), (hts (.selects RX3 yX3_hasObject yX3_hasObject) (List.mem_of_getElem? (i := 4) rfl))⟩ hE hP hN rfl (by decide) 1 rfl rfl rfl hl.1 (Nat.le_of_ble_eq_true rfl) dX11_addStep_16 ⟨Nat.zero_le _, Nat.zero_le _⟩) hP hN hS rfl (fun H locs hP hS => ?_)
    refine lv_if_eq (tgt := 29) hx hb dX11_addStep_19 (by decide) (fun c_19 => ?_) (fun c_19 => ?_)
    · have hf := it_pos c_19 hf
      refine lv_iconst (v := -1) hx hb dX11_addStep_29 (by decide) ?_
      have hf := Option.some.inj hf
      rewrite [← hQ, ← hf]
      exact x_iret hx hb hr hlocks hP hS dX11_addStep_30
    · have hf := it_neg c_19 hf
      refine lv_iload_n hx hb dX11_addStep_22 rfl (lv_at hl 3 rfl) ?_
      obtain ⟨r_23, hr_23, hf⟩ := bd_some hf
      refine x_goi0 (ps := []) (x_runS (As := [.int v3]) (rest := []) (ps := []) ⟨hx, hb, hml, hown, hts⟩ (k_X11_isLabel l D G fu v3 r_23 hr_23) (va_cwS 1 hts gX11_addStep_X11_isLabel rfl rfl rfl (by decide +kernel) ⟨Nat.le_of_ble_eq_true rfl, Nat.le_of_ble_eq_true rfl⟩) hE hP hN rfl (by decide) rfl hl.1 (Nat.le_of_ble_eq_true rfl) dX11_addStep_23 ⟨Nat.zero_le _, Nat.zero_le _⟩) hP hN hS rfl (fun H locs hP hS => ?_)
      refine lv_if_ne (tgt := 31) hx hb dX11_addStep_26 (by decide) (fun c_26 => ?_) (fun c_26 => ?_)
      · have hf := it_pos c_26 hf
        refine lv_aload_n hx hb dX11_addStep_31 rfl (lv_at hl 0 rfl) ?_
        refine x_get hx hb hts u_X11_addStep_X11 hown hE hP 0 rfl rfl 1 (by decide) (hts (.fieldLink RX11 19 "DecreasingDiagrams" "system" "LDecreasingDiagrams$LabelledSystem;") (List.mem_of_getElem? (i := 1) rfl)) rfl dX11_addStep_32 ?_
        refine lv_iload_n hx hb dX11_addStep_35 rfl (lv_at hl 1 rfl) ?_
        refine lv_iload_n hx hb dX11_addStep_36 rfl (lv_at hl 2 rfl) ?_
        refine lv_iload_n hx hb dX11_addStep_37 rfl (lv_at hl 3 rfl) ?_
        obtain ⟨r_38, hr_38, hf⟩ := bd_some hf
        refine x_goi (ps := [1, 2, 3, 4]) (qs := [0]) (n := 5) (I' := [[(h, .inr (10, [.ref h_order, .ref h_system, .ref h_rules, .ref h_savedOrder, .ref h_savedSystem, .ref h_savedRules, .int snapshotSaved, .ref h_peaks, .ref h_leftPaths, .ref h_rightPaths, .ref h_text, .ref h_labellings, .ref h_input, .ref h_explorer, .ref h_arrays, .ref a_reach]))], [(h_system, .inr (3, [.int system_objects, .ref a_system_words, .int r_38.2.2.2.1, .ref a_system_sources, .ref a_system_targets, .ref a_system_labels]))], [(a_system_labels, .inl (G 0, 32, .inl r_38.2.1))], [(a_system_sources, .inl (G 0, 32, .inl r_38.2.2.1))], [(a_system_targets, .inl (G 0, 32, .inl r_38.2.2.2.2))]]) (x_runVN (As := [.int v1, .int v2, .int v3]) (rest := []) (ps := [1, 2, 3, 4]) ⟨hx, hb, hml, hown, hts⟩ (k_X3_appendStep l D G fu h_system a_system_words a_system_sources a_system_targets a_system_labels system_objects system_steps system_labels system_sources system_targets v1 v2 v3 r_38 hr_38) ⟨va_cnB 3 hts gX11_addStep_X3_appendStep_n131 rfl rfl rfl (hE.2 (.methodLinkNest RX11 131 yX3_appendStep RX11) (List.mem_of_getElem? (i := 62) rfl)) (hts (.initialized RX3) (List.mem_of_getElem? (i := 3) rfl)) (by decide +kernel) ⟨Nat.le_of_ble_eq_true rfl, Nat.le_of_ble_eq_true rfl⟩, (hts (.instanceMethod yX3_appendStep) (List.mem_of_getElem? (i := 11) rfl)), (hts (.selects RX3 yX3_appendStep yX3_appendStep) (List.mem_of_getElem? (i := 12) rfl))⟩ hE hP hN rfl (by decide) 1 rfl rfl rfl hl.1 (Nat.le_of_ble_eq_true rfl) dX11_addStep_38 ⟨Nat.zero_le _, Nat.zero_le _⟩) hP hN hS rfl rfl rfl rfl rfl (by decide) (fun H locs hP hS => ?_)
        have hf := Option.some.inj hf
        rewrite [← hQ, ← hf]
        exact x_iret hx hb hr hlocks hP hS dX11_addStep_41
      · have hf := it_neg (fun h => h c_26) hf
        refine lv_iconst (v := -1) hx hb dX11_addStep_29 (by decide) ?_
        have hf := Option.some.inj hf
        rewrite [← hQ, ← hf]
        exact x_iret hx hb hr hlocks hP hS dX11_addStep_30

set_option maxRecDepth 20000 in
theorem u_X2_makeNatural_X2 : ∀ w ∈ wsX20, w ∈ wsX2_makeNatural := xx_pl _ [3, 4] (by decide +kernel)
def f_X2_makeNatural_L2  (rec_2 : Int32 → (Nat → Int32) → (Nat → Int32) → Option ((Nat → Int32) × (Nat → Int32))) (v1 : Int32) (below : (Nat → Int32)) (pairs : (Nat → Int32)) : Option ((Nat → Int32) × (Nat → Int32)) :=
  if 8 ≤ v1 then (some (below, pairs)) else (ck v1 8 (lt (upd pairs v1.toNatClampNeg ((1 <<< (v1 &&& 31)) - 1)) (fun pairs_18 => ck v1 8 (ck v1 8 (lt (upd below v1.toNatClampNeg (pairs_18 v1.toNatClampNeg)) (fun below_30 => lt (v1 + 1) (fun v1_31 => rec_2 v1_31 below_30 pairs_18)))))))
def f_X2_makeNatural (fu : Nat) (below : (Nat → Int32)) (pairs : (Nat → Int32)) : Option ((Nat → Int32) × (Nat → Int32)) :=
  lt (0 : Int32) (fun v1_1 => lp (τ := Int32 → (Nat → Int32) → (Nat → Int32) → Option ((Nat → Int32) × (Nat → Int32))) (fun _ _ _ => none) (f_X2_makeNatural_L2) fu v1_1 below pairs)
set_option maxHeartbeats 4000000 in
set_option maxRecDepth 100000 in
theorem k_X2_makeNatural (l : Launch) (D : va_G) (G : Nat → ClassId) (fu : Nat) (h : Nat) (a_pairs : Nat) (a_below : Nat) (below : (Nat → Int32)) (pairs : (Nat → Int32))   (out : (Nat → Int32) × (Nat → Int32)) (hf : f_X2_makeNatural fu below pairs = some out) : xMet l yX2_makeNatural wsX2_makeNatural (rM 0 0) D G [.ref h] [[(h, .inr (2, [.ref a_pairs, .ref a_below]))], [(a_below, .inl (G 0, 8, .inl below))], [(a_pairs, .inl (G 0, 8, .inl pairs))]] (xQv D [[(h, .inr (2, [.ref a_pairs, .ref a_below]))], [(a_below, .inl (G 0, 8, .inl out.1))], [(a_pairs, .inl (G 0, 8, .inl out.2))]]) := by
  refine x_ent (cc := cX2_makeNatural) (maxL := 2) (by decide) rfl (Nat.le_of_ble_eq_true rfl) ?_
  intro p e s m blw meth c aa ls args Q H locs hQ hx hb hr hml hown hts hlocks hE hN hl hP hS
  have hown : s.vm.findClass RX2 = some m.cls := hown
  have hl : lv_has ls 2 [(0, .ref h)] := hl
  have L2 : ∀ (n_2 : Nat) (v1 : Int32) (below : (Nat → Int32)) (pairs : (Nat → Int32)) (H : Heap) (locs : List Loc) (ls : Array Slot), xW D aa [[(h, .inr (2, [.ref a_pairs, .ref a_below]))], [(a_below, .inl (G 0, 8, .inl below))], [(a_pairs, .inl (G 0, 8, .inl pairs))]] H → va_S (xA aa) s.heap H locs → lv_has ls 2 [(0, .ref h), (1, .int v1)] → lp (τ := Int32 → (Nat → Int32) → (Nat → Int32) → Option ((Nat → Int32) × (Nat → Int32))) (fun _ _ _ => none) (f_X2_makeNatural_L2) n_2 v1 below pairs = some out → W p l e (rM 0 0) s m args blw meth c H locs 0 0 Q (F0 m 2 ls []) := by
    intro    n_2
    induction n_2 with
    | zero =>
      intro v1 below pairs H locs ls hP hS hl hf
      exact no_some hf
    | succ n_2 ih_2 =>
      intro v1 below pairs H locs ls hP hS hl hf
      have hf : f_X2_makeNatural_L2  (lp (τ := Int32 → (Nat → Int32) → (Nat → Int32) → Option ((Nat → Int32) × (Nat → Int32))) (fun _ _ _ => none) (f_X2_makeNatural_L2) n_2) v1 below pairs = some out := hf
      refine lv_iload_n hx hb dX2_makeNatural_2 rfl (lv_at hl 1 rfl) ?_
      refine lv_bipush (v := 8) hx hb dX2_makeNatural_3 (by decide) ?_
      refine lv_icmp_ge (tgt := 37) hx hb dX2_makeNatural_5 (by decide) (fun c_5 => ?_) (fun c_5 => ?_)
      · have hf := it_pos c_5 hf
        have hf := Option.some.inj hf
        rewrite [← hQ, ← hf]
        exact x_vret hx hb hr hlocks hP hS dX2_makeNatural_37
      · have hf := it_neg c_5 hf
        refine lv_aload_n hx hb dX2_makeNatural_8 rfl (lv_at hl 0 rfl) ?_
        refine x_get hx hb hts u_X2_makeNatural_X2 hown hE hP 0 rfl rfl 0 (by decide) (hts (.fieldLink RX2 9 "DecreasingDiagrams$LabelOrder" "pairs" "[I") (List.mem_of_getElem? (i := 1) rfl)) rfl dX2_makeNatural_9 ?_
        refine lv_iload_n hx hb dX2_makeNatural_12 rfl (lv_at hl 1 rfl) ?_
        refine lv_iconst (v := 1) hx hb dX2_makeNatural_13 (by decide) ?_
        refine lv_iload_n hx hb dX2_makeNatural_14 rfl (lv_at hl 1 rfl) ?_
        refine lv_ishl hx hb dX2_makeNatural_15 ?_
        refine lv_iconst (v := 1) hx hb dX2_makeNatural_16 (by decide) ?_
        refine lv_isub hx hb dX2_makeNatural_17 ?_
        obtain ⟨hi, hf⟩ := ck_some hf
        obtain ⟨pairs_18, e_pairs_18, hf⟩ := lt_some hf
        refine x_iast (I' := [[(h, .inr (2, [.ref a_pairs, .ref a_below]))], [(a_below, .inl (G 0, 8, .inl below))], [(a_pairs, .inl (G 0, 8, .inl pairs_18))]]) hx hb hE hP hN hS 2 rfl hi e_pairs_18 rfl dX2_makeNatural_18 (fun H locs hP hS => ?_)
        refine lv_aload_n hx hb dX2_makeNatural_19 rfl (lv_at hl 0 rfl) ?_
        refine x_get hx hb hts u_X2_makeNatural_X2 hown hE hP 0 rfl rfl 1 (by decide) (hts (.fieldLink RX2 15 "DecreasingDiagrams$LabelOrder" "below" "[I") (List.mem_of_getElem? (i := 2) rfl)) rfl dX2_makeNatural_20 ?_
        refine lv_iload_n hx hb dX2_makeNatural_23 rfl (lv_at hl 1 rfl) ?_
        refine lv_aload_n hx hb dX2_makeNatural_24 rfl (lv_at hl 0 rfl) ?_
        refine x_get hx hb hts u_X2_makeNatural_X2 hown hE hP 0 rfl rfl 0 (by decide) (hts (.fieldLink RX2 9 "DecreasingDiagrams$LabelOrder" "pairs" "[I") (List.mem_of_getElem? (i := 1) rfl)) rfl dX2_makeNatural_25 ?_
        refine lv_iload_n hx hb dX2_makeNatural_28 rfl (lv_at hl 1 rfl) ?_
        obtain ⟨hi, hf⟩ := ck_some hf
        refine x_iald hx hb hE hP 2 rfl hi dX2_makeNatural_29 ?_
        obtain ⟨hi, hf⟩ := ck_some hf
        obtain ⟨below_30, e_below_30, hf⟩ := lt_some hf
        refine x_iast (I' := [[(h, .inr (2, [.ref a_pairs, .ref a_below]))], [(a_below, .inl (G 0, 8, .inl below_30))], [(a_pairs, .inl (G 0, 8, .inl pairs_18))]]) hx hb hE hP hN hS 1 rfl hi e_below_30 rfl dX2_makeNatural_30 (fun H locs hP hS => ?_)
        obtain ⟨v1_31, e_v1_31, hf⟩ := lt_some hf
        refine lv_iinc (v := v1_31) (lv' := [(1, .int v1_31), (0, .ref h)]) hx hb dX2_makeNatural_31 hl (k := 1) rfl (by rw [e_v1_31]; rfl) (by decide) rfl (fun ls hl => ?_)
        refine lv_goto (tgt := 2) hx hb dX2_makeNatural_34 (by decide) ?_
        exact ih_2 v1_31 below_30 pairs_18 H locs ls hP hS (lv_sub hl [1, 0] rfl) hf
  refine lv_iconst (v := 0) hx hb dX2_makeNatural_0 (by decide) ?_
  obtain ⟨v1_1, e_v1_1, hf⟩ := lt_some hf
  refine x_istore_n (v := v1_1) (lv' := [(1, .int v1_1), (0, .ref h)]) hx hb dX2_makeNatural_1 e_v1_1 rfl hl (by decide) rfl (fun ls hl => ?_)
  exact L2    fu v1_1 below pairs H locs ls hP hS (lv_sub hl [1, 0] rfl) hf

set_option maxRecDepth 20000 in
theorem u_X11_applyLabelling_X11 : ∀ w ∈ wsX110, w ∈ wsX11_applyLabelling := xx_pl _ [10, 11, 12, 13, 14, 15, 16, 17, 18, 19, 20, 21, 22, 23, 24, 25] (by decide +kernel)
set_option maxRecDepth 20000 in
theorem u_X11_applyLabelling_X4 : ∀ w ∈ wsX40, w ∈ wsX11_applyLabelling := xx_pl _ [26, 27, 28, 29, 30] (by decide +kernel)
set_option maxRecDepth 20000 in
theorem u_X11_applyLabelling_X3 : ∀ w ∈ wsX30, w ∈ wsX11_applyLabelling := xx_pl _ [31, 32, 33, 34, 35, 36] (by decide +kernel)
def f_X11_applyLabelling_J83 (fu : Nat) (v1 : Int32) (order_below : (Nat → Int32)) (order_pairs : (Nat → Int32)) (system_labels : (Nat → Int32)) : Option (Int32 × (Nat → Int32) × (Nat → Int32) × (Nat → Int32)) :=
  (f_X2_makeNatural fu order_below order_pairs).bind (fun r_87 => some (v1, r_87.1, r_87.2, system_labels))
def f_X11_applyLabelling_J77 (rec_24 : (Int32 → Int32 → (Nat → Int32) → Option (Int32 × (Nat → Int32) × (Nat → Int32) × (Nat → Int32)))) (v1 : Int32) (v2 : Int32) (system_labels : (Nat → Int32)) : Option (Int32 × (Nat → Int32) × (Nat → Int32) × (Nat → Int32)) :=
  lt (v2 + 1) (fun v2_77 => rec_24 v1 v2_77 system_labels)
def f_X11_applyLabelling_L24 (fu : Nat) (labellings_foundSteps : Int32) (labellings_found : (Nat → Int32)) (order_below : (Nat → Int32)) (order_pairs : (Nat → Int32)) (rec_24 : Int32 → Int32 → (Nat → Int32) → Option (Int32 × (Nat → Int32) × (Nat → Int32) × (Nat → Int32))) (v1 : Int32) (v2 : Int32) (system_labels : (Nat → Int32)) : Option (Int32 × (Nat → Int32) × (Nat → Int32) × (Nat → Int32)) :=
  if labellings_foundSteps ≤ v2 then (f_X11_applyLabelling_J83 fu v1 order_below order_pairs system_labels) else (ck v2 32 (ck v2 8 (if (system_labels v2.toNatClampNeg) = (labellings_found v2.toNatClampNeg) then (f_X11_applyLabelling_J77 rec_24 v1 v2 system_labels) else (ck v2 8 (ck v2 32 (lt (upd system_labels v2.toNatClampNeg (labellings_found v2.toNatClampNeg)) (fun system_labels_73 => lt (v1 + 1) (fun v1_74 => f_X11_applyLabelling_J77 rec_24 v1_74 v2 system_labels_73))))))))
def f_X11_applyLabelling (fu : Nat) (labellings_foundSteps : Int32) (system_steps : Int32) (labellings_found : (Nat → Int32)) (order_below : (Nat → Int32)) (order_pairs : (Nat → Int32)) (system_labels : (Nat → Int32)) : Option (Int32 × (Nat → Int32) × (Nat → Int32) × (Nat → Int32)) :=
  if labellings_foundSteps = system_steps then (lt (0 : Int32) (fun v1_21 => lt (0 : Int32) (fun v2_23 => lp (τ := Int32 → Int32 → (Nat → Int32) → Option (Int32 × (Nat → Int32) × (Nat → Int32) × (Nat → Int32))) (fun _ _ _ => none) (f_X11_applyLabelling_L24 fu labellings_foundSteps labellings_found order_below order_pairs) fu v1_21 v2_23 system_labels))) else (some ((-2), order_below, order_pairs, system_labels))
set_option maxHeartbeats 4000000 in
set_option maxRecDepth 100000 in
theorem k_X11_applyLabelling (l : Launch) (D : va_G) (G : Nat → ClassId) (fu : Nat) (h : Nat) (h_order : Nat) (h_system : Nat) (h_rules : Nat) (h_savedOrder : Nat) (h_savedSystem : Nat) (h_savedRules : Nat) (h_peaks : Nat) (h_leftPaths : Nat) (h_rightPaths : Nat) (h_text : Nat) (h_labellings : Nat) (h_input : Nat) (h_explorer : Nat) (h_arrays : Nat) (a_reach : Nat) (h_labellings_trial : Nat) (h_labellings_natural : Nat) (h_labellings_trialPeaks : Nat) (a_labellings_found : Nat) (a_order_pairs : Nat) (a_order_below : Nat) (a_system_words : Nat) (a_system_sources : Nat) (a_system_targets : Nat) (a_system_labels : Nat) (snapshotSaved : Int32) (labellings_foundSteps : Int32) (system_objects : Int32) (system_steps : Int32) (labellings_found : (Nat → Int32)) (order_below : (Nat → Int32)) (order_pairs : (Nat → Int32)) (system_labels : (Nat → Int32))   (out : Int32 × (Nat → Int32) × (Nat → Int32) × (Nat → Int32)) (hf : f_X11_applyLabelling fu labellings_foundSteps system_steps labellings_found order_below order_pairs system_labels = some out) : xMet l yX11_applyLabelling wsX11_applyLabelling (rM 1 21) D G [.ref h] [[(h, .inr (10, [.ref h_order, .ref h_system, .ref h_rules, .ref h_savedOrder, .ref h_savedSystem, .ref h_savedRules, .int snapshotSaved, .ref h_peaks, .ref h_leftPaths, .ref h_rightPaths, .ref h_text, .ref h_labellings, .ref h_input, .ref h_explorer, .ref h_arrays, .ref a_reach]))], [(h_labellings, .inr (4, [.ref h_labellings_trial, .ref h_labellings_natural, .ref h_labellings_trialPeaks, .ref a_labellings_found, .int labellings_foundSteps]))], [(a_labellings_found, .inl (G 0, 8, .inl labellings_found))], [(h_order, .inr (2, [.ref a_order_pairs, .ref a_order_below]))], [(a_order_below, .inl (G 0, 8, .inl order_below))], [(a_order_pairs, .inl (G 0, 8, .inl order_pairs))], [(h_system, .inr (3, [.int system_objects, .ref a_system_words, .int system_steps, .ref a_system_sources, .ref a_system_targets, .ref a_system_labels]))], [(a_system_labels, .inl (G 0, 32, .inl system_labels))]] (xQi D [[(h, .inr (10, [.ref h_order, .ref h_system, .ref h_rules, .ref h_savedOrder, .ref h_savedSystem, .ref h_savedRules, .int snapshotSaved, .ref h_peaks, .ref h_leftPaths, .ref h_rightPaths, .ref h_text, .ref h_labellings, .ref h_input, .ref h_explorer, .ref h_arrays, .ref a_reach]))], [(h_labellings, .inr (4, [.ref h_labellings_trial, .ref h_labellings_natural, .ref h_labellings_trialPeaks, .ref a_labellings_found, .int labellings_foundSteps]))], [(a_labellings_found, .inl (G 0, 8, .inl labellings_found))], [(h_order, .inr (2, [.ref a_order_pairs, .ref a_order_below]))], [(a_order_below, .inl (G 0, 8, .inl out.2.1))], [(a_order_pairs, .inl (G 0, 8, .inl out.2.2.1))], [(h_system, .inr (3, [.int system_objects, .ref a_system_words, .int system_steps, .ref a_system_sources, .ref a_system_targets, .ref a_system_labels]))], [(a_system_labels, .inl (G 0, 32, .inl out.2.2.2))]] out.1) := by
  refine x_ent (cc := cX11_applyLabelling) (maxL := 3) (by decide) rfl (Nat.le_of_ble_eq_true rfl) ?_
  intro p e s m blw meth c aa ls args Q H locs hQ hx hb hr hml hown hts hlocks hE hN hl hP hS
  have hown : s.vm.findClass RX11 = some m.cls := hown
  have hl : lv_has ls 3 [(0, .ref h)] := hl
  have J83 : ∀ (v1 : Int32) (order_below : (Nat → Int32)) (order_pairs : (Nat → Int32)) (system_labels : (Nat → Int32)) (H : Heap) (locs : List Loc) (ls : Array Slot), xW D aa [[(h, .inr (10, [.ref h_order, .ref h_system, .ref h_rules, .ref h_savedOrder, .ref h_savedSystem, .ref h_savedRules, .int snapshotSaved, .ref h_peaks, .ref h_leftPaths, .ref h_rightPaths, .ref h_text, .ref h_labellings, .ref h_input, .ref h_explorer, .ref h_arrays, .ref a_reach]))], [(h_labellings, .inr (4, [.ref h_labellings_trial, .ref h_labellings_natural, .ref h_labellings_trialPeaks, .ref a_labellings_found, .int labellings_foundSteps]))], [(a_labellings_found, .inl (G 0, 8, .inl labellings_found))], [(h_order, .inr (2, [.ref a_order_pairs, .ref a_order_below]))], [(a_order_below, .inl (G 0, 8, .inl order_below))], [(a_order_pairs, .inl (G 0, 8, .inl order_pairs))], [(h_system, .inr (3, [.int system_objects, .ref a_system_words, .int system_steps, .ref a_system_sources, .ref a_system_targets, .ref a_system_labels]))], [(a_system_labels, .inl (G 0, 32, .inl system_labels))]] H → va_S (xA aa) s.heap H locs → lv_has ls 3 [(0, .ref h), (1, .int v1)] → f_X11_applyLabelling_J83 fu v1 order_below order_pairs system_labels = some out → W p l e (rM 1 21) s m args blw meth c H locs 0 0 Q (F0 m 83 ls []) := by
    intro v1 order_below order_pairs system_labels  H locs ls  hP hS hl hf
    refine lv_aload_n hx hb dX11_applyLabelling_83 rfl (lv_at hl 0 rfl) ?_
    refine x_get hx hb hts u_X11_applyLabelling_X11 hown hE hP 0 rfl rfl 0 (by decide) (hts (.fieldLink RX11 12 "DecreasingDiagrams" "order" "LDecreasingDiagrams$LabelOrder;") (List.mem_of_getElem? (i := 3) rfl)) rfl dX11_applyLabelling_84 ?_
    obtain ⟨r_87, hr_87, hf⟩ := bd_some hf
    refine x_gov (ps := [3, 4, 5]) (qs := [0, 1, 2, 6, 7]) (n := 8) (I' := [[(h, .inr (10, [.ref h_order, .ref h_system, .ref h_rules, .ref h_savedOrder, .ref h_savedSystem, .ref h_savedRules, .int snapshotSaved, .ref h_peaks, .ref h_leftPaths, .ref h_rightPaths, .ref h_text, .ref h_labellings, .ref h_input, .ref h_explorer, .ref h_arrays, .ref a_reach]))], [(h_labellings, .inr (4, [.ref h_labellings_trial, .ref h_labellings_natural, .ref h_labellings_trialPeaks, .ref a_labellings_found, .int labellings_foundSteps]))], [(a_labellings_found, .inl (G 0, 8, .inl labellings_found))], [(h_order, .inr (2, [.ref a_order_pairs, .ref a_order_below]))], [(a_order_below, .inl (G 0, 8, .inl r_87.1))], [(a_order_pairs, .inl (G 0, 8, .inl r_87.2))], [(h_system, .inr (3, [.int system_objects, .ref a_system_words, .int system_steps, .ref a_system_sources, .ref a_system_targets, .ref a_system_labels]))], [(a_system_labels, .inl (G 0, 32, .inl system_labels))]]) (x_runVN (As := []) (rest := []) (ps := [3, 4, 5]) ⟨hx, hb, hml, hown, hts⟩ (k_X2_makeNatural l D G fu h_order a_order_pairs a_order_below order_below order_pairs r_87 hr_87) ⟨va_cnB 0 hts gX11_applyLabelling_X2_makeNatural_n121 rfl rfl rfl (hE.2 (.methodLinkNest RX11 121 yX2_makeNatural RX11) (List.mem_of_getElem? (i := 59) rfl)) (hts (.initialized RX2) (List.mem_of_getElem? (i := 5) rfl)) (by decide +kernel) ⟨Nat.le_of_ble_eq_true rfl, Nat.le_of_ble_eq_true rfl⟩, (hts (.instanceMethod yX2_makeNatural) (List.mem_of_getElem? (i := 4) rfl)), (hts (.selects RX2 yX2_makeNatural yX2_makeNatural) (List.mem_of_getElem? (i := 6) rfl))⟩ hE hP hN rfl (by decide) 3 rfl rfl rfl hl.1 (Nat.le_of_ble_eq_true rfl) dX11_applyLabelling_87 ⟨Nat.zero_le _, Nat.zero_le _⟩) hP hN hS rfl rfl rfl rfl rfl (by decide) (fun H locs hP hS => ?_)
    refine lv_iload_n hx hb dX11_applyLabelling_90 rfl (lv_at hl 1 rfl) ?_
    have hf := Option.some.inj hf
    rewrite [← hQ, ← hf]
    exact x_iret hx hb hr hlocks hP hS dX11_applyLabelling_91
  have L24 : ∀ (order_below : (Nat → Int32)) (order_pairs : (Nat → Int32)), ∀ (n_24 : Nat) (v1 : Int32) (v2 : Int32) (system_labels : (Nat → Int32)) (H : Heap) (locs : List Loc) (ls : Array Slot), xW D aa [[(h, .inr (10, [.ref h_order, .ref h_system, .ref h_rules, .ref h_savedOrder, .ref h_savedSystem, .ref h_savedRules, .int snapshotSaved, .ref h_peaks, .ref h_leftPaths, .ref h_rightPaths, .ref h_text, .ref h_labellings, .ref h_input, .ref h_explorer, .ref h_arrays, .ref a_reach]))], [(h_labellings, .inr (4, [.ref h_labellings_trial, .ref h_labellings_natural, .ref h_labellings_trialPeaks, .ref a_labellings_found, .int labellings_foundSteps]))], [(a_labellings_found, .inl (G 0, 8, .inl labellings_found))], [(h_order, .inr (2, [.ref a_order_pairs, .ref a_order_below]))], [(a_order_below, .inl (G 0, 8, .inl order_below))], [(a_order_pairs, .inl (G 0, 8, .inl order_pairs))], [(h_system, .inr (3, [.int system_objects, .ref a_system_words, .int system_steps, .ref a_system_sources, .ref a_system_targets, .ref a_system_labels]))], [(a_system_labels, .inl (G 0, 32, .inl system_labels))]] H → va_S (xA aa) s.heap H locs → lv_has ls 3 [(0, .ref h), (1, .int v1), (2, .int v2)] → lp (τ := Int32 → Int32 → (Nat → Int32) → Option (Int32 × (Nat → Int32) × (Nat → Int32) × (Nat → Int32))) (fun _ _ _ => none) (f_X11_applyLabelling_L24 fu labellings_foundSteps labellings_found order_below order_pairs) n_24 v1 v2 system_labels = some out → W p l e (rM 1 21) s m args blw meth c H locs 0 0 Q (F0 m 24 ls []) := by
    intro order_below order_pairs   n_24
    induction n_24 with
    | zero =>
      intro v1 v2 system_labels H locs ls hP hS hl hf
      exact no_some hf
    | succ n_24 ih_24 =>
      intro v1 v2 system_labels H locs ls hP hS hl hf
      have hf : f_X11_applyLabelling_L24 fu labellings_foundSteps labellings_found order_below order_pairs (lp (τ := Int32 → Int32 → (Nat → Int32) → Option (Int32 × (Nat → Int32) × (Nat → Int32) × (Nat → Int32))) (fun _ _ _ => none) (f_X11_applyLabelling_L24 fu labellings_foundSteps labellings_found order_below order_pairs) n_24) v1 v2 system_labels = some out := hf
      have J77 : ∀ (v1 : Int32) (v2 : Int32) (system_labels : (Nat → Int32)) (H : Heap) (locs : List Loc) (ls : Array Slot), xW D aa [[(h, .inr (10, [.ref h_order, .ref h_system, .ref h_rules, .ref h_savedOrder, .ref h_savedSystem, .ref h_savedRules, .int snapshotSaved, .ref h_peaks, .ref h_leftPaths, .ref h_rightPaths, .ref h_text, .ref h_labellings, .ref h_input, .ref h_explorer, .ref h_arrays, .ref a_reach]))], [(h_labellings, .inr (4, [.ref h_labellings_trial, .ref h_labellings_natural, .ref h_labellings_trialPeaks, .ref a_labellings_found, .int labellings_foundSteps]))], [(a_labellings_found, .inl (G 0, 8, .inl labellings_found))], [(h_order, .inr (2, [.ref a_order_pairs, .ref a_order_below]))], [(a_order_below, .inl (G 0, 8, .inl order_below))], [(a_order_pairs, .inl (G 0, 8, .inl order_pairs))], [(h_system, .inr (3, [.int system_objects, .ref a_system_words, .int system_steps, .ref a_system_sources, .ref a_system_targets, .ref a_system_labels]))], [(a_system_labels, .inl (G 0, 32, .inl system_labels))]] H → va_S (xA aa) s.heap H locs → lv_has ls 3 [(0, .ref h), (1, .int v1), (2, .int v2)] → f_X11_applyLabelling_J77 (lp (τ := Int32 → Int32 → (Nat → Int32) → Option (Int32 × (Nat → Int32) × (Nat → Int32) × (Nat → Int32))) (fun _ _ _ => none) (f_X11_applyLabelling_L24 fu labellings_foundSteps labellings_found order_below order_pairs) n_24) v1 v2 system_labels = some out → W p l e (rM 1 21) s m args blw meth c H locs 0 0 Q (F0 m 77 ls []) := by
        intro v1 v2 system_labels  H locs ls  hP hS hl hf
        obtain ⟨v2_77, e_v2_77, hf⟩ := lt_some hf
        refine lv_iinc (v := v2_77) (lv' := [(2, .int v2_77), (0, .ref h), (1, .int v1)]) hx hb dX11_applyLabelling_77 hl (k := 2) rfl (by rw [e_v2_77]; rfl) (by decide) rfl (fun ls hl => ?_)
        refine lv_goto (tgt := 24) hx hb dX11_applyLabelling_80 (by decide) ?_
        exact ih_24 v1 v2_77 system_labels H locs ls hP hS (lv_sub hl [1, 2, 0] rfl) hf
      refine lv_iload_n hx hb dX11_applyLabelling_24 rfl (lv_at hl 2 rfl) ?_
      refine lv_aload_n hx hb dX11_applyLabelling_25 rfl (lv_at hl 0 rfl) ?_
      refine x_get hx hb hts u_X11_applyLabelling_X11 hown hE hP 0 rfl rfl 11 (by decide) (hts (.fieldLink RX11 70 "DecreasingDiagrams" "labellings" "LDecreasingDiagrams$LabellingSearch;") (List.mem_of_getElem? (i := 1) rfl)) rfl dX11_applyLabelling_26 ?_
      refine x_getN hx hb hts u_X11_applyLabelling_X4 hown hE hP 1 rfl rfl 4 (by decide) (hE.2 (.fieldLinkNest RX11 265 "DecreasingDiagrams$LabellingSearch" "foundSteps" "I" RX11) (List.mem_of_getElem? (i := 41) rfl)) rfl dX11_applyLabelling_29 ?_
      refine lv_icmp_ge (tgt := 83) hx hb dX11_applyLabelling_32 (by decide) (fun c_32 => ?_) (fun c_32 => ?_)
      · have hf := it_pos c_32 hf
        exact J83 v1 order_below order_pairs system_labels  H locs ls  hP hS (lv_sub hl [0, 1] rfl) hf
      · have hf := it_neg c_32 hf
        refine lv_aload_n hx hb dX11_applyLabelling_35 rfl (lv_at hl 0 rfl) ?_
        refine x_get hx hb hts u_X11_applyLabelling_X11 hown hE hP 0 rfl rfl 1 (by decide) (hts (.fieldLink RX11 19 "DecreasingDiagrams" "system" "LDecreasingDiagrams$LabelledSystem;") (List.mem_of_getElem? (i := 2) rfl)) rfl dX11_applyLabelling_36 ?_
        refine x_getN hx hb hts u_X11_applyLabelling_X3 hown hE hP 6 rfl rfl 5 (by decide) (hE.2 (.fieldLinkNest RX11 146 "DecreasingDiagrams$LabelledSystem" "labels" "[I" RX11) (List.mem_of_getElem? (i := 21) rfl)) rfl dX11_applyLabelling_39 ?_
        refine lv_iload_n hx hb dX11_applyLabelling_42 rfl (lv_at hl 2 rfl) ?_
        obtain ⟨hi, hf⟩ := ck_some hf
        refine x_iald hx hb hE hP 7 rfl hi dX11_applyLabelling_43 ?_
        refine lv_aload_n hx hb dX11_applyLabelling_44 rfl (lv_at hl 0 rfl) ?_
        refine x_get hx hb hts u_X11_applyLabelling_X11 hown hE hP 0 rfl rfl 11 (by decide) (hts (.fieldLink RX11 70 "DecreasingDiagrams" "labellings" "LDecreasingDiagrams$LabellingSearch;") (List.mem_of_getElem? (i := 1) rfl)) rfl dX11_applyLabelling_45 ?_
        refine x_getN hx hb hts u_X11_applyLabelling_X4 hown hE hP 1 rfl rfl 3 (by decide) (hE.2 (.fieldLinkNest RX11 268 "DecreasingDiagrams$LabellingSearch" "found" "[I" RX11) (List.mem_of_getElem? (i := 40) rfl)) rfl dX11_applyLabelling_48 ?_
        refine lv_iload_n hx hb dX11_applyLabelling_51 rfl (lv_at hl 2 rfl) ?_
        obtain ⟨hi, hf⟩ := ck_some hf
        refine x_iald hx hb hE hP 2 rfl hi dX11_applyLabelling_52 ?_
        refine lv_icmp_eq (tgt := 77) hx hb dX11_applyLabelling_53 (by decide) (fun c_53 => ?_) (fun c_53 => ?_)
        · have hf := it_pos c_53 hf
          exact J77 v1 v2 system_labels  H locs ls  hP hS (lv_sub hl [0, 1, 2] rfl) hf
        · have hf := it_neg c_53 hf
          refine lv_aload_n hx hb dX11_applyLabelling_56 rfl (lv_at hl 0 rfl) ?_
          refine x_get hx hb hts u_X11_applyLabelling_X11 hown hE hP 0 rfl rfl 1 (by decide) (hts (.fieldLink RX11 19 "DecreasingDiagrams" "system" "LDecreasingDiagrams$LabelledSystem;") (List.mem_of_getElem? (i := 2) rfl)) rfl dX11_applyLabelling_57 ?_
          refine x_getN hx hb hts u_X11_applyLabelling_X3 hown hE hP 6 rfl rfl 5 (by decide) (hE.2 (.fieldLinkNest RX11 146 "DecreasingDiagrams$LabelledSystem" "labels" "[I" RX11) (List.mem_of_getElem? (i := 21) rfl)) rfl dX11_applyLabelling_60 ?_
          refine lv_iload_n hx hb dX11_applyLabelling_63 rfl (lv_at hl 2 rfl) ?_
          refine lv_aload_n hx hb dX11_applyLabelling_64 rfl (lv_at hl 0 rfl) ?_
          refine x_get hx hb hts u_X11_applyLabelling_X11 hown hE hP 0 rfl rfl 11 (by decide) (hts (.fieldLink RX11 70 "DecreasingDiagrams" "labellings" "LDecreasingDiagrams$LabellingSearch;") (List.mem_of_getElem? (i := 1) rfl)) rfl dX11_applyLabelling_65 ?_
          refine x_getN hx hb hts u_X11_applyLabelling_X4 hown hE hP 1 rfl rfl 3 (by decide) (hE.2 (.fieldLinkNest RX11 268 "DecreasingDiagrams$LabellingSearch" "found" "[I" RX11) (List.mem_of_getElem? (i := 40) rfl)) rfl dX11_applyLabelling_68 ?_
          refine lv_iload_n hx hb dX11_applyLabelling_71 rfl (lv_at hl 2 rfl) ?_
          obtain ⟨hi, hf⟩ := ck_some hf
          refine x_iald hx hb hE hP 2 rfl hi dX11_applyLabelling_72 ?_
          obtain ⟨hi, hf⟩ := ck_some hf
          obtain ⟨system_labels_73, e_system_labels_73, hf⟩ := lt_some hf
          refine x_iast (I' := [[(h, .inr (10, [.ref h_order, .ref h_system, .ref h_rules, .ref h_savedOrder, .ref h_savedSystem, .ref h_savedRules, .int snapshotSaved, .ref h_peaks, .ref h_leftPaths, .ref h_rightPaths, .ref h_text, .ref h_labellings, .ref h_input, .ref h_explorer, .ref h_arrays, .ref a_reach]))], [(h_labellings, .inr (4, [.ref h_labellings_trial, .ref h_labellings_natural, .ref h_labellings_trialPeaks, .ref a_labellings_found, .int labellings_foundSteps]))], [(a_labellings_found, .inl (G 0, 8, .inl labellings_found))], [(h_order, .inr (2, [.ref a_order_pairs, .ref a_order_below]))], [(a_order_below, .inl (G 0, 8, .inl order_below))], [(a_order_pairs, .inl (G 0, 8, .inl order_pairs))], [(h_system, .inr (3, [.int system_objects, .ref a_system_words, .int system_steps, .ref a_system_sources, .ref a_system_targets, .ref a_system_labels]))], [(a_system_labels, .inl (G 0, 32, .inl system_labels_73))]]) hx hb hE hP hN hS 7 rfl hi e_system_labels_73 rfl dX11_applyLabelling_73 (fun H locs hP hS => ?_)
          obtain ⟨v1_74, e_v1_74, hf⟩ := lt_some hf
          refine lv_iinc (v := v1_74) (lv' := [(1, .int v1_74), (0, .ref h), (2, .int v2)]) hx hb dX11_applyLabelling_74 hl (k := 1) rfl (by rw [e_v1_74]; rfl) (by decide) rfl (fun ls hl => ?_)
          exact J77 v1_74 v2 system_labels_73  H locs ls  hP hS (lv_sub hl [1, 0, 2] rfl) hf
  refine lv_aload_n hx hb dX11_applyLabelling_0 rfl (lv_at hl 0 rfl) ?_
  refine x_get hx hb hts u_X11_applyLabelling_X11 hown hE hP 0 rfl rfl 11 (by decide) (hts (.fieldLink RX11 70 "DecreasingDiagrams" "labellings" "LDecreasingDiagrams$LabellingSearch;") (List.mem_of_getElem? (i := 1) rfl)) rfl dX11_applyLabelling_1 ?_
  refine x_getN hx hb hts u_X11_applyLabelling_X4 hown hE hP 1 rfl rfl 4 (by decide) (hE.2 (.fieldLinkNest RX11 265 "DecreasingDiagrams$LabellingSearch" "foundSteps" "I" RX11) (List.mem_of_getElem? (i := 41) rfl)) rfl dX11_applyLabelling_4 ?_
  refine lv_aload_n hx hb dX11_applyLabelling_7 rfl (lv_at hl 0 rfl) ?_
  refine x_get hx hb hts u_X11_applyLabelling_X11 hown hE hP 0 rfl rfl 1 (by decide) (hts (.fieldLink RX11 19 "DecreasingDiagrams" "system" "LDecreasingDiagrams$LabelledSystem;") (List.mem_of_getElem? (i := 2) rfl)) rfl dX11_applyLabelling_8 ?_
  refine x_getN hx hb hts u_X11_applyLabelling_X3 hown hE hP 6 rfl rfl 2 (by decide) (hE.2 (.fieldLinkNest RX11 142 "DecreasingDiagrams$LabelledSystem" "steps" "I" RX11) (List.mem_of_getElem? (i := 11) rfl)) rfl dX11_applyLabelling_11 ?_
  refine lv_icmp_eq (tgt := 20) hx hb dX11_applyLabelling_14 (by decide) (fun c_14 => ?_) (fun c_14 => ?_)
  · have hf := it_pos c_14 hf
    refine lv_iconst (v := 0) hx hb dX11_applyLabelling_20 (by decide) ?_
    obtain ⟨v1_21, e_v1_21, hf⟩ := lt_some hf
    refine x_istore_n (v := v1_21) (lv' := [(1, .int v1_21), (0, .ref h)]) hx hb dX11_applyLabelling_21 e_v1_21 rfl hl (by decide) rfl (fun ls hl => ?_)
    refine lv_iconst (v := 0) hx hb dX11_applyLabelling_22 (by decide) ?_
    obtain ⟨v2_23, e_v2_23, hf⟩ := lt_some hf
    refine x_istore_n (v := v2_23) (lv' := [(2, .int v2_23), (1, .int v1_21), (0, .ref h)]) hx hb dX11_applyLabelling_23 e_v2_23 rfl hl (by decide) rfl (fun ls hl => ?_)
    exact L24 order_below order_pairs   fu v1_21 v2_23 system_labels H locs ls hP hS (lv_sub hl [2, 1, 0] rfl) hf
  · have hf := it_neg c_14 hf
    refine lv_bipush (v := -2) hx hb dX11_applyLabelling_17 (by decide) ?_
    have hf := Option.some.inj hf
    rewrite [← hQ, ← hf]
    exact x_iret hx hb hr hlocks hP hS dX11_applyLabelling_19

set_option maxRecDepth 20000 in
theorem u_X11_clearRules_X11 : ∀ w ∈ wsX110, w ∈ wsX11_clearRules := xx_pl _ [2, 3, 4, 5, 6, 7, 8, 9, 10, 11, 12, 13, 14, 15, 16, 17] (by decide +kernel)
set_option maxRecDepth 20000 in
theorem u_X11_clearRules_X8 : ∀ w ∈ wsX80, w ∈ wsX11_clearRules := xx_pl _ [18, 19, 20] (by decide +kernel)
def f_X11_clearRules (rules_count : Int32) : Option (Int32 × Int32) :=
  lt rules_count (fun v1_7 => lt (0 : Int32) (fun rules_count_13 => some (v1_7, rules_count_13)))
set_option maxHeartbeats 4000000 in
set_option maxRecDepth 100000 in
theorem k_X11_clearRules (l : Launch) (D : va_G) (G : Nat → ClassId) (fu : Nat) (h : Nat) (h_order : Nat) (h_system : Nat) (h_rules : Nat) (h_savedOrder : Nat) (h_savedSystem : Nat) (h_savedRules : Nat) (h_peaks : Nat) (h_leftPaths : Nat) (h_rightPaths : Nat) (h_text : Nat) (h_labellings : Nat) (h_input : Nat) (h_explorer : Nat) (h_arrays : Nat) (a_reach : Nat) (a_rules_lefts : Nat) (a_rules_rights : Nat) (snapshotSaved : Int32) (rules_count : Int32)   (out : Int32 × Int32) (hf : f_X11_clearRules rules_count = some out) : xMet l yX11_clearRules wsX11_clearRules (rM 0 0) D G [.ref h] [[(h, .inr (10, [.ref h_order, .ref h_system, .ref h_rules, .ref h_savedOrder, .ref h_savedSystem, .ref h_savedRules, .int snapshotSaved, .ref h_peaks, .ref h_leftPaths, .ref h_rightPaths, .ref h_text, .ref h_labellings, .ref h_input, .ref h_explorer, .ref h_arrays, .ref a_reach]))], [(h_rules, .inr (8, [.int rules_count, .ref a_rules_lefts, .ref a_rules_rights]))]] (xQi D [[(h, .inr (10, [.ref h_order, .ref h_system, .ref h_rules, .ref h_savedOrder, .ref h_savedSystem, .ref h_savedRules, .int snapshotSaved, .ref h_peaks, .ref h_leftPaths, .ref h_rightPaths, .ref h_text, .ref h_labellings, .ref h_input, .ref h_explorer, .ref h_arrays, .ref a_reach]))], [(h_rules, .inr (8, [.int out.2, .ref a_rules_lefts, .ref a_rules_rights]))]] out.1) := by
  refine x_ent (cc := cX11_clearRules) (maxL := 2) (by decide) rfl (Nat.le_of_ble_eq_true rfl) ?_
  intro p e s m blw meth c aa ls args Q H locs hQ hx hb hr hml hown hts hlocks hE hN hl hP hS
  have hown : s.vm.findClass RX11 = some m.cls := hown
  have hl : lv_has ls 2 [(0, .ref h)] := hl
  refine lv_aload_n hx hb dX11_clearRules_0 rfl (lv_at hl 0 rfl) ?_
  refine x_get hx hb hts u_X11_clearRules_X11 hown hE hP 0 rfl rfl 2 (by decide) (hts (.fieldLink RX11 26 "DecreasingDiagrams" "rules" "LDecreasingDiagrams$RuleSet;") (List.mem_of_getElem? (i := 1) rfl)) rfl dX11_clearRules_1 ?_
  refine x_getN hx hb hts u_X11_clearRules_X8 hown hE hP 1 rfl rfl 0 (by decide) (hE.2 (.fieldLinkNest RX11 275 "DecreasingDiagrams$RuleSet" "count" "I" RX11) (List.mem_of_getElem? (i := 24) rfl)) rfl dX11_clearRules_4 ?_
  obtain ⟨v1_7, e_v1_7, hf⟩ := lt_some hf
  refine x_istore_n (v := v1_7) (lv' := [(1, .int v1_7), (0, .ref h)]) hx hb dX11_clearRules_7 e_v1_7 rfl hl (by decide) rfl (fun ls hl => ?_)
  refine lv_aload_n hx hb dX11_clearRules_8 rfl (lv_at hl 1 rfl) ?_
  refine x_get hx hb hts u_X11_clearRules_X11 hown hE hP 0 rfl rfl 2 (by decide) (hts (.fieldLink RX11 26 "DecreasingDiagrams" "rules" "LDecreasingDiagrams$RuleSet;") (List.mem_of_getElem? (i := 1) rfl)) rfl dX11_clearRules_9 ?_
  refine lv_iconst (v := 0) hx hb dX11_clearRules_12 (by decide) ?_
  obtain ⟨rules_count_13, e_rules_count_13, hf⟩ := lt_some hf
  refine x_putN (w := .int rules_count_13) (ty := .int) (I' := [[(h, .inr (10, [.ref h_order, .ref h_system, .ref h_rules, .ref h_savedOrder, .ref h_savedSystem, .ref h_savedRules, .int snapshotSaved, .ref h_peaks, .ref h_leftPaths, .ref h_rightPaths, .ref h_text, .ref h_labellings, .ref h_input, .ref h_explorer, .ref h_arrays, .ref a_reach]))], [(h_rules, .inr (8, [.int rules_count_13, .ref a_rules_lefts, .ref a_rules_rights]))]]) hx hb hts u_X11_clearRules_X8 tyX8 tyX8_ok nmX8 hown hE hP hN hS 1 rfl rfl 0 (by decide) (hE.2 (.fieldLinkNest RX11 275 "DecreasingDiagrams$RuleSet" "count" "I" RX11) (List.mem_of_getElem? (i := 24) rfl)) rfl (congrArg Value.int e_rules_count_13) (by decide +kernel) rfl rfl (Nat.le_of_ble_eq_true rfl) rfl dX11_clearRules_13 (fun H locs hP hS => ?_)
  refine lv_iload_n hx hb dX11_clearRules_16 rfl (lv_at hl 0 rfl) ?_
  have hf := Option.some.inj hf
  rewrite [← hQ, ← hf]
  exact x_iret hx hb hr hlocks hP hS dX11_clearRules_17

set_option maxRecDepth 20000 in
theorem u_X11_clearSystem_X11 : ∀ w ∈ wsX110, w ∈ wsX11_clearSystem := xx_pl _ [8, 9, 10, 11, 12, 13, 14, 15, 16, 17, 18, 19, 20, 21, 22, 23] (by decide +kernel)
set_option maxRecDepth 20000 in
theorem u_X11_clearSystem_X3 : ∀ w ∈ wsX30, w ∈ wsX11_clearSystem := xx_pl _ [24, 25, 26, 27, 28, 29] (by decide +kernel)
def f_X11_clearSystem (system_objects : Int32) : Option (Int32 × Int32 × Int32) :=
  lt system_objects (fun v1_7 => (f_X3_clear).bind (fun r_12 => some (v1_7, r_12.1, r_12.2)))
set_option maxHeartbeats 4000000 in
set_option maxRecDepth 100000 in
theorem k_X11_clearSystem (l : Launch) (D : va_G) (G : Nat → ClassId) (fu : Nat) (h : Nat) (h_order : Nat) (h_system : Nat) (h_rules : Nat) (h_savedOrder : Nat) (h_savedSystem : Nat) (h_savedRules : Nat) (h_peaks : Nat) (h_leftPaths : Nat) (h_rightPaths : Nat) (h_text : Nat) (h_labellings : Nat) (h_input : Nat) (h_explorer : Nat) (h_arrays : Nat) (a_reach : Nat) (a_system_words : Nat) (a_system_sources : Nat) (a_system_targets : Nat) (a_system_labels : Nat) (snapshotSaved : Int32) (system_objects : Int32) (system_steps : Int32)   (out : Int32 × Int32 × Int32) (hf : f_X11_clearSystem system_objects = some out) : xMet l yX11_clearSystem wsX11_clearSystem (rM 1 20) D G [.ref h] [[(h, .inr (10, [.ref h_order, .ref h_system, .ref h_rules, .ref h_savedOrder, .ref h_savedSystem, .ref h_savedRules, .int snapshotSaved, .ref h_peaks, .ref h_leftPaths, .ref h_rightPaths, .ref h_text, .ref h_labellings, .ref h_input, .ref h_explorer, .ref h_arrays, .ref a_reach]))], [(h_system, .inr (3, [.int system_objects, .ref a_system_words, .int system_steps, .ref a_system_sources, .ref a_system_targets, .ref a_system_labels]))]] (xQi D [[(h, .inr (10, [.ref h_order, .ref h_system, .ref h_rules, .ref h_savedOrder, .ref h_savedSystem, .ref h_savedRules, .int snapshotSaved, .ref h_peaks, .ref h_leftPaths, .ref h_rightPaths, .ref h_text, .ref h_labellings, .ref h_input, .ref h_explorer, .ref h_arrays, .ref a_reach]))], [(h_system, .inr (3, [.int out.2.1, .ref a_system_words, .int out.2.2, .ref a_system_sources, .ref a_system_targets, .ref a_system_labels]))]] out.1) := by
  refine x_ent (cc := cX11_clearSystem) (maxL := 2) (by decide) rfl (Nat.le_of_ble_eq_true rfl) ?_
  intro p e s m blw meth c aa ls args Q H locs hQ hx hb hr hml hown hts hlocks hE hN hl hP hS
  have hown : s.vm.findClass RX11 = some m.cls := hown
  have hl : lv_has ls 2 [(0, .ref h)] := hl
  refine lv_aload_n hx hb dX11_clearSystem_0 rfl (lv_at hl 0 rfl) ?_
  refine x_get hx hb hts u_X11_clearSystem_X11 hown hE hP 0 rfl rfl 1 (by decide) (hts (.fieldLink RX11 19 "DecreasingDiagrams" "system" "LDecreasingDiagrams$LabelledSystem;") (List.mem_of_getElem? (i := 1) rfl)) rfl dX11_clearSystem_1 ?_
  refine x_getN hx hb hts u_X11_clearSystem_X3 hown hE hP 1 rfl rfl 0 (by decide) (hE.2 (.fieldLinkNest RX11 149 "DecreasingDiagrams$LabelledSystem" "objects" "I" RX11) (List.mem_of_getElem? (i := 5) rfl)) rfl dX11_clearSystem_4 ?_
  obtain ⟨v1_7, e_v1_7, hf⟩ := lt_some hf
  refine x_istore_n (v := v1_7) (lv' := [(1, .int v1_7), (0, .ref h)]) hx hb dX11_clearSystem_7 e_v1_7 rfl hl (by decide) rfl (fun ls hl => ?_)
  refine lv_aload_n hx hb dX11_clearSystem_8 rfl (lv_at hl 1 rfl) ?_
  refine x_get hx hb hts u_X11_clearSystem_X11 hown hE hP 0 rfl rfl 1 (by decide) (hts (.fieldLink RX11 19 "DecreasingDiagrams" "system" "LDecreasingDiagrams$LabelledSystem;") (List.mem_of_getElem? (i := 1) rfl)) rfl dX11_clearSystem_9 ?_
  obtain ⟨r_12, hr_12, hf⟩ := bd_some hf
  refine x_gov (ps := [1]) (qs := [0]) (n := 2) (I' := [[(h, .inr (10, [.ref h_order, .ref h_system, .ref h_rules, .ref h_savedOrder, .ref h_savedSystem, .ref h_savedRules, .int snapshotSaved, .ref h_peaks, .ref h_leftPaths, .ref h_rightPaths, .ref h_text, .ref h_labellings, .ref h_input, .ref h_explorer, .ref h_arrays, .ref a_reach]))], [(h_system, .inr (3, [.int r_12.1, .ref a_system_words, .int r_12.2, .ref a_system_sources, .ref a_system_targets, .ref a_system_labels]))]]) (x_runVN (As := []) (rest := []) (ps := [1]) ⟨hx, hb, hml, hown, hts⟩ (k_X3_clear l D G fu h_system a_system_words a_system_sources a_system_targets a_system_labels system_objects system_steps r_12 hr_12) ⟨va_cnB 0 hts gX11_clearSystem_X3_clear_n152 rfl rfl rfl (hE.2 (.methodLinkNest RX11 152 yX3_clear RX11) (List.mem_of_getElem? (i := 65) rfl)) (hts (.initialized RX3) (List.mem_of_getElem? (i := 3) rfl)) (by decide +kernel) ⟨Nat.le_of_ble_eq_true rfl, Nat.le_of_ble_eq_true rfl⟩, (hts (.instanceMethod yX3_clear) (List.mem_of_getElem? (i := 2) rfl)), (hts (.selects RX3 yX3_clear yX3_clear) (List.mem_of_getElem? (i := 4) rfl))⟩ hE hP hN rfl (by decide) 1 rfl rfl rfl hl.1 (Nat.le_of_ble_eq_true rfl) dX11_clearSystem_12 ⟨Nat.zero_le _, Nat.zero_le _⟩) hP hN hS rfl rfl rfl rfl rfl (by decide) (fun H locs hP hS => ?_)
  refine lv_iload_n hx hb dX11_clearSystem_15 rfl (lv_at hl 0 rfl) ?_
  have hf := Option.some.inj hf
  rewrite [← hQ, ← hf]
  exact x_iret hx hb hr hlocks hP hS dX11_clearSystem_16

def f_X11_isArray (v0 : Int32) : Option (Int32) :=
  if v0 < 0 then (some 0) else (if 3 ≤ v0 then (some 0) else (some 1))
set_option maxHeartbeats 4000000 in
set_option maxRecDepth 100000 in
theorem k_X11_isArray (l : Launch) (D : va_G) (G : Nat → ClassId) (fu : Nat)    (v0 : Int32) (out : Int32) (hf : f_X11_isArray v0 = some out) : xMet l yX11_isArray wsX11_isArray (rM 0 0) D G [.int v0] [] (xQi D [] out) := by
  refine x_ent (cc := cX11_isArray) (maxL := 1) (by decide) rfl (Nat.le_of_ble_eq_true rfl) ?_
  intro p e s m blw meth c aa ls args Q H locs hQ hx hb hr hml hown hts hlocks hE hN hl hP hS
  have hown : s.vm.findClass RX11 = some m.cls := hown
  have hl : lv_has ls 1 [(0, .int v0)] := hl
  refine lv_iload_n hx hb dX11_isArray_0 rfl (lv_at hl 0 rfl) ?_
  refine lv_if_lt (tgt := 13) hx hb dX11_isArray_1 (by decide) (fun c_1 => ?_) (fun c_1 => ?_)
  · have hf := it_pos c_1 hf
    refine lv_iconst (v := 0) hx hb dX11_isArray_13 (by decide) ?_
    have hf := Option.some.inj hf
    rewrite [← hQ, ← hf]
    exact x_zret (r := 0) hx hb hr hlocks rfl hP hS dX11_isArray_14
  · have hf := it_neg c_1 hf
    refine lv_iload_n hx hb dX11_isArray_4 rfl (lv_at hl 0 rfl) ?_
    refine lv_iconst (v := 3) hx hb dX11_isArray_5 (by decide) ?_
    refine lv_icmp_ge (tgt := 13) hx hb dX11_isArray_6 (by decide) (fun c_6 => ?_) (fun c_6 => ?_)
    · have hf := it_pos c_6 hf
      refine lv_iconst (v := 0) hx hb dX11_isArray_13 (by decide) ?_
      have hf := Option.some.inj hf
      rewrite [← hQ, ← hf]
      exact x_zret (r := 0) hx hb hr hlocks rfl hP hS dX11_isArray_14
    · have hf := it_neg c_6 hf
      refine lv_iconst (v := 1) hx hb dX11_isArray_9 (by decide) ?_
      refine lv_goto (tgt := 14) hx hb dX11_isArray_10 (by decide) ?_
      have hf := Option.some.inj hf
      rewrite [← hQ, ← hf]
      exact x_zret (r := 1) hx hb hr hlocks rfl hP hS dX11_isArray_14

set_option maxRecDepth 20000 in
theorem u_X5_isMissing_X5 : ∀ w ∈ wsX50, w ∈ wsX5_isMissing := xx_pl _ [2, 3] (by decide +kernel)
def f_X5_isMissing (sizes : (Nat → Int32)) (v1 : Int32) : Option (Int32) :=
  ck v1 3 (if ¬ (sizes v1.toNatClampNeg) = (-1) then (some 0) else (some 1))
set_option maxHeartbeats 4000000 in
set_option maxRecDepth 100000 in
theorem k_X5_isMissing (l : Launch) (D : va_G) (G : Nat → ClassId) (fu : Nat) (h : Nat) (a_sizes : Nat) (a_values : Nat) (sizes : (Nat → Int32))  (v1 : Int32) (out : Int32) (hf : f_X5_isMissing sizes v1 = some out) : xMet l yX5_isMissing wsX5_isMissing (rM 0 0) D G [.ref h, .int v1] [[(h, .inr (5, [.ref a_sizes, .ref a_values]))], [(a_sizes, .inl (G 0, 3, .inl sizes))]] (xQi D [[(h, .inr (5, [.ref a_sizes, .ref a_values]))], [(a_sizes, .inl (G 0, 3, .inl sizes))]] out) := by
  refine x_ent (cc := cX5_isMissing) (maxL := 2) (by decide) rfl (Nat.le_of_ble_eq_true rfl) ?_
  intro p e s m blw meth c aa ls args Q H locs hQ hx hb hr hml hown hts hlocks hE hN hl hP hS
  have hown : s.vm.findClass RX5 = some m.cls := hown
  have hl : lv_has ls 2 [(0, .ref h), (1, .int v1)] := hl
  refine lv_aload_n hx hb dX5_isMissing_0 rfl (lv_at hl 0 rfl) ?_
  refine x_get hx hb hts u_X5_isMissing_X5 hown hE hP 0 rfl rfl 0 (by decide) (hts (.fieldLink RX5 9 "DecreasingDiagrams$LongArrays" "sizes" "[I") (List.mem_of_getElem? (i := 1) rfl)) rfl dX5_isMissing_1 ?_
  refine lv_iload_n hx hb dX5_isMissing_4 rfl (lv_at hl 1 rfl) ?_
  obtain ⟨hi, hf⟩ := ck_some hf
  refine x_iald hx hb hE hP 1 rfl hi dX5_isMissing_5 ?_
  refine lv_iconst (v := -1) hx hb dX5_isMissing_6 (by decide) ?_
  refine lv_icmp_ne (tgt := 14) hx hb dX5_isMissing_7 (by decide) (fun c_7 => ?_) (fun c_7 => ?_)
  · have hf := it_pos c_7 hf
    refine lv_iconst (v := 0) hx hb dX5_isMissing_14 (by decide) ?_
    have hf := Option.some.inj hf
    rewrite [← hQ, ← hf]
    exact x_zret (r := 0) hx hb hr hlocks rfl hP hS dX5_isMissing_15
  · have hf := it_neg (fun h => h c_7) hf
    refine lv_iconst (v := 1) hx hb dX5_isMissing_10 (by decide) ?_
    refine lv_goto (tgt := 15) hx hb dX5_isMissing_11 (by decide) ?_
    have hf := Option.some.inj hf
    rewrite [← hQ, ← hf]
    exact x_zret (r := 1) hx hb hr hlocks rfl hP hS dX5_isMissing_15

set_option maxRecDepth 20000 in
theorem u_X3_successors_X3 : ∀ w ∈ wsX30, w ∈ wsX3_successors := xx_pl _ [5, 6, 7, 8, 9, 10] (by decide +kernel)
def f_X3_successors_J50 (rec_5 : (Int32 → Int32 → Option (Int32))) (v3 : Int32) (v4 : Int32) : Option (Int32) :=
  lt (v4 + 1) (fun v4_50 => rec_5 v3 v4_50)
def f_X3_successors_L5 (steps : Int32) (labels : (Nat → Int32)) (sources : (Nat → Int32)) (targets : (Nat → Int32)) (v1 : Int32) (v2 : Int32) (rec_5 : Int32 → Int32 → Option (Int32)) (v3 : Int32) (v4 : Int32) : Option (Int32) :=
  if steps ≤ v4 then (some v3) else (ck v4 32 (ck v4 32 (if (((v1 >>> ((sources v4.toNatClampNeg) &&& 31)) &&& (v2 >>> ((labels v4.toNatClampNeg) &&& 31))) &&& 1) = 0 then (f_X3_successors_J50 rec_5 v3 v4) else (ck v4 32 (lt (v3 ||| (1 <<< ((targets v4.toNatClampNeg) &&& 31))) (fun v3_49 => f_X3_successors_J50 rec_5 v3_49 v4))))))
def f_X3_successors (fu : Nat) (steps : Int32) (labels : (Nat → Int32)) (sources : (Nat → Int32)) (targets : (Nat → Int32)) (v1 : Int32) (v2 : Int32) : Option (Int32) :=
  lt (0 : Int32) (fun v3_1 => lt (0 : Int32) (fun v4_3 => lp (τ := Int32 → Int32 → Option (Int32)) (fun _ _ => none) (f_X3_successors_L5 steps labels sources targets v1 v2) fu v3_1 v4_3))
set_option maxHeartbeats 4000000 in
set_option maxRecDepth 100000 in
theorem k_X3_successors (l : Launch) (D : va_G) (G : Nat → ClassId) (fu : Nat) (h : Nat) (a_words : Nat) (a_sources : Nat) (a_targets : Nat) (a_labels : Nat) (objects : Int32) (steps : Int32) (labels : (Nat → Int32)) (sources : (Nat → Int32)) (targets : (Nat → Int32))  (v1 : Int32) (v2 : Int32) (out : Int32) (hf : f_X3_successors fu steps labels sources targets v1 v2 = some out) : xMet l yX3_successors wsX3_successors (rM 0 0) D G [.ref h, .int v1, .int v2] [[(h, .inr (3, [.int objects, .ref a_words, .int steps, .ref a_sources, .ref a_targets, .ref a_labels]))], [(a_labels, .inl (G 0, 32, .inl labels))], [(a_sources, .inl (G 0, 32, .inl sources))], [(a_targets, .inl (G 0, 32, .inl targets))]] (xQi D [[(h, .inr (3, [.int objects, .ref a_words, .int steps, .ref a_sources, .ref a_targets, .ref a_labels]))], [(a_labels, .inl (G 0, 32, .inl labels))], [(a_sources, .inl (G 0, 32, .inl sources))], [(a_targets, .inl (G 0, 32, .inl targets))]] out) := by
  refine x_ent (cc := cX3_successors) (maxL := 5) (by decide) rfl (Nat.le_of_ble_eq_true rfl) ?_
  intro p e s m blw meth c aa ls args Q H locs hQ hx hb hr hml hown hts hlocks hE hN hl hP hS
  have hown : s.vm.findClass RX3 = some m.cls := hown
  have hl : lv_has ls 5 [(0, .ref h), (1, .int v1), (2, .int v2)] := hl
  have L5 : ∀ (n_5 : Nat) (v3 : Int32) (v4 : Int32) (H : Heap) (locs : List Loc) (ls : Array Slot), xW D aa [[(h, .inr (3, [.int objects, .ref a_words, .int steps, .ref a_sources, .ref a_targets, .ref a_labels]))], [(a_labels, .inl (G 0, 32, .inl labels))], [(a_sources, .inl (G 0, 32, .inl sources))], [(a_targets, .inl (G 0, 32, .inl targets))]] H → va_S (xA aa) s.heap H locs → lv_has ls 5 [(0, .ref h), (1, .int v1), (2, .int v2), (3, .int v3), (4, .int v4)] → lp (τ := Int32 → Int32 → Option (Int32)) (fun _ _ => none) (f_X3_successors_L5 steps labels sources targets v1 v2) n_5 v3 v4 = some out → W p l e (rM 0 0) s m args blw meth c H locs 0 0 Q (F0 m 5 ls []) := by
    intro    n_5
    induction n_5 with
    | zero =>
      intro v3 v4 H locs ls hP hS hl hf
      exact no_some hf
    | succ n_5 ih_5 =>
      intro v3 v4 H locs ls hP hS hl hf
      have hf : f_X3_successors_L5 steps labels sources targets v1 v2 (lp (τ := Int32 → Int32 → Option (Int32)) (fun _ _ => none) (f_X3_successors_L5 steps labels sources targets v1 v2) n_5) v3 v4 = some out := hf
      have J50 : ∀ (v3 : Int32) (v4 : Int32) (H : Heap) (locs : List Loc) (ls : Array Slot), xW D aa [[(h, .inr (3, [.int objects, .ref a_words, .int steps, .ref a_sources, .ref a_targets, .ref a_labels]))], [(a_labels, .inl (G 0, 32, .inl labels))], [(a_sources, .inl (G 0, 32, .inl sources))], [(a_targets, .inl (G 0, 32, .inl targets))]] H → va_S (xA aa) s.heap H locs → lv_has ls 5 [(0, .ref h), (1, .int v1), (2, .int v2), (3, .int v3), (4, .int v4)] → f_X3_successors_J50 (lp (τ := Int32 → Int32 → Option (Int32)) (fun _ _ => none) (f_X3_successors_L5 steps labels sources targets v1 v2) n_5) v3 v4 = some out → W p l e (rM 0 0) s m args blw meth c H locs 0 0 Q (F0 m 50 ls []) := by
        intro v3 v4  H locs ls  hP hS hl hf
        obtain ⟨v4_50, e_v4_50, hf⟩ := lt_some hf
        refine lv_iinc (v := v4_50) (lv' := [(4, .int v4_50), (0, .ref h), (1, .int v1), (2, .int v2), (3, .int v3)]) hx hb dX3_successors_50 hl (k := 4) rfl (by rw [e_v4_50]; rfl) (by decide) rfl (fun ls hl => ?_)
        refine lv_goto (tgt := 5) hx hb dX3_successors_53 (by decide) ?_
        exact ih_5 v3 v4_50 H locs ls hP hS (lv_sub hl [1, 2, 3, 4, 0] rfl) hf
      refine lv_iload hx hb dX3_successors_5 (lv_at hl 4 rfl) ?_
      refine lv_aload_n hx hb dX3_successors_7 rfl (lv_at hl 0 rfl) ?_
      refine x_get hx hb hts u_X3_successors_X3 hown hE hP 0 rfl rfl 2 (by decide) (hts (.fieldLink RX3 19 "DecreasingDiagrams$LabelledSystem" "steps" "I") (List.mem_of_getElem? (i := 1) rfl)) rfl dX3_successors_8 ?_
      refine lv_icmp_ge (tgt := 56) hx hb dX3_successors_11 (by decide) (fun c_11 => ?_) (fun c_11 => ?_)
      · have hf := it_pos c_11 hf
        refine lv_iload_n hx hb dX3_successors_56 rfl (lv_at hl 3 rfl) ?_
        have hf := Option.some.inj hf
        rewrite [← hQ, ← hf]
        exact x_iret hx hb hr hlocks hP hS dX3_successors_57
      · have hf := it_neg c_11 hf
        refine lv_iload_n hx hb dX3_successors_14 rfl (lv_at hl 1 rfl) ?_
        refine lv_aload_n hx hb dX3_successors_15 rfl (lv_at hl 0 rfl) ?_
        refine x_get hx hb hts u_X3_successors_X3 hown hE hP 0 rfl rfl 3 (by decide) (hts (.fieldLink RX3 22 "DecreasingDiagrams$LabelledSystem" "sources" "[I") (List.mem_of_getElem? (i := 2) rfl)) rfl dX3_successors_16 ?_
        refine lv_iload hx hb dX3_successors_19 (lv_at hl 4 rfl) ?_
        obtain ⟨hi, hf⟩ := ck_some hf
        refine x_iald hx hb hE hP 2 rfl hi dX3_successors_21 ?_
        refine lv_ishr hx hb dX3_successors_22 ?_
        refine lv_iload_n hx hb dX3_successors_23 rfl (lv_at hl 2 rfl) ?_
        refine lv_aload_n hx hb dX3_successors_24 rfl (lv_at hl 0 rfl) ?_
        refine x_get hx hb hts u_X3_successors_X3 hown hE hP 0 rfl rfl 5 (by decide) (hts (.fieldLink RX3 28 "DecreasingDiagrams$LabelledSystem" "labels" "[I") (List.mem_of_getElem? (i := 3) rfl)) rfl dX3_successors_25 ?_
        refine lv_iload hx hb dX3_successors_28 (lv_at hl 4 rfl) ?_
        obtain ⟨hi, hf⟩ := ck_some hf
        refine x_iald hx hb hE hP 1 rfl hi dX3_successors_30 ?_
        refine lv_ishr hx hb dX3_successors_31 ?_
        refine lv_iand hx hb dX3_successors_32 ?_
        refine lv_iconst (v := 1) hx hb dX3_successors_33 (by decide) ?_
        refine lv_iand hx hb dX3_successors_34 ?_
        refine lv_if_eq (tgt := 50) hx hb dX3_successors_35 (by decide) (fun c_35 => ?_) (fun c_35 => ?_)
        · have hf := it_pos c_35 hf
          exact J50 v3 v4  H locs ls  hP hS (lv_sub hl [0, 1, 2, 3, 4] rfl) hf
        · have hf := it_neg c_35 hf
          refine lv_iload_n hx hb dX3_successors_38 rfl (lv_at hl 3 rfl) ?_
          refine lv_iconst (v := 1) hx hb dX3_successors_39 (by decide) ?_
          refine lv_aload_n hx hb dX3_successors_40 rfl (lv_at hl 0 rfl) ?_
          refine x_get hx hb hts u_X3_successors_X3 hown hE hP 0 rfl rfl 4 (by decide) (hts (.fieldLink RX3 25 "DecreasingDiagrams$LabelledSystem" "targets" "[I") (List.mem_of_getElem? (i := 4) rfl)) rfl dX3_successors_41 ?_
          refine lv_iload hx hb dX3_successors_44 (lv_at hl 4 rfl) ?_
          obtain ⟨hi, hf⟩ := ck_some hf
          refine x_iald hx hb hE hP 3 rfl hi dX3_successors_46 ?_
          refine lv_ishl hx hb dX3_successors_47 ?_
          refine lv_ior hx hb dX3_successors_48 ?_
          obtain ⟨v3_49, e_v3_49, hf⟩ := lt_some hf
          refine x_istore_n (v := v3_49) (lv' := [(3, .int v3_49), (0, .ref h), (1, .int v1), (2, .int v2), (4, .int v4)]) hx hb dX3_successors_49 e_v3_49 rfl hl (by decide) rfl (fun ls hl => ?_)
          exact J50 v3_49 v4  H locs ls  hP hS (lv_sub hl [1, 2, 3, 0, 4] rfl) hf
  refine lv_iconst (v := 0) hx hb dX3_successors_0 (by decide) ?_
  obtain ⟨v3_1, e_v3_1, hf⟩ := lt_some hf
  refine x_istore_n (v := v3_1) (lv' := [(3, .int v3_1), (0, .ref h), (1, .int v1), (2, .int v2)]) hx hb dX3_successors_1 e_v3_1 rfl hl (by decide) rfl (fun ls hl => ?_)
  refine lv_iconst (v := 0) hx hb dX3_successors_2 (by decide) ?_
  obtain ⟨v4_3, e_v4_3, hf⟩ := lt_some hf
  refine x_istore (v := v4_3) (lv' := [(4, .int v4_3), (3, .int v3_1), (0, .ref h), (1, .int v1), (2, .int v2)]) hx hb dX3_successors_3 e_v4_3 hl (by decide) rfl (fun ls hl => ?_)
  exact L5    fu v3_1 v4_3 H locs ls hP hS (lv_sub hl [2, 3, 4, 1, 0] rfl) hf

set_option maxRecDepth 20000 in
theorem u_X3_closure_X3 : ∀ w ∈ wsX30, w ∈ wsX3_closure := xx_pl _ [11, 12, 13, 14, 15, 16] (by decide +kernel)
def f_X3_closure_L11 (fu : Nat) (objects : Int32) (steps : Int32) (labels : (Nat → Int32)) (sources : (Nat → Int32)) (targets : (Nat → Int32)) (v2 : Int32) (rec_11 : Int32 → Int32 → Option (Int32)) (v3 : Int32) (v4 : Int32) : Option (Int32) :=
  if objects ≤ v4 then (some v3) else ((f_X3_successors fu steps labels sources targets v3 v2).bind (fun r_24 => lt (v3 ||| r_24) (fun v5_28 => if ¬ v5_28 = v3 then (lt v5_28 (fun v3_40 => lt (v4 + 1) (fun v4_41 => rec_11 v3_40 v4_41))) else (some v3))))
def f_X3_closure (fu : Nat) (objects : Int32) (steps : Int32) (labels : (Nat → Int32)) (sources : (Nat → Int32)) (targets : (Nat → Int32)) (v1 : Int32) (v2 : Int32) : Option (Int32) :=
  if ¬ v2 = 0 then (lt v1 (fun v3_7 => lt (0 : Int32) (fun v4_9 => lp (τ := Int32 → Int32 → Option (Int32)) (fun _ _ => none) (f_X3_closure_L11 fu objects steps labels sources targets v2) fu v3_7 v4_9))) else (some v1)
set_option maxHeartbeats 4000000 in
set_option maxRecDepth 100000 in
theorem k_X3_closure (l : Launch) (D : va_G) (G : Nat → ClassId) (fu : Nat) (h : Nat) (a_words : Nat) (a_sources : Nat) (a_targets : Nat) (a_labels : Nat) (objects : Int32) (steps : Int32) (labels : (Nat → Int32)) (sources : (Nat → Int32)) (targets : (Nat → Int32))  (v1 : Int32) (v2 : Int32) (out : Int32) (hf : f_X3_closure fu objects steps labels sources targets v1 v2 = some out) : xMet l yX3_closure wsX3_closure (rM 1 24) D G [.ref h, .int v1, .int v2] [[(h, .inr (3, [.int objects, .ref a_words, .int steps, .ref a_sources, .ref a_targets, .ref a_labels]))], [(a_labels, .inl (G 0, 32, .inl labels))], [(a_sources, .inl (G 0, 32, .inl sources))], [(a_targets, .inl (G 0, 32, .inl targets))]] (xQi D [[(h, .inr (3, [.int objects, .ref a_words, .int steps, .ref a_sources, .ref a_targets, .ref a_labels]))], [(a_labels, .inl (G 0, 32, .inl labels))], [(a_sources, .inl (G 0, 32, .inl sources))], [(a_targets, .inl (G 0, 32, .inl targets))]] out) := by
  refine x_ent (cc := cX3_closure) (maxL := 6) (by decide) rfl (Nat.le_of_ble_eq_true rfl) ?_
  intro p e s m blw meth c aa ls args Q H locs hQ hx hb hr hml hown hts hlocks hE hN hl hP hS
  have hown : s.vm.findClass RX3 = some m.cls := hown
  have hl : lv_has ls 6 [(0, .ref h), (1, .int v1), (2, .int v2)] := hl
  have L11 : ∀ (n_11 : Nat) (v3 : Int32) (v4 : Int32) (H : Heap) (locs : List Loc) (ls : Array Slot), xW D aa [[(h, .inr (3, [.int objects, .ref a_words, .int steps, .ref a_sources, .ref a_targets, .ref a_labels]))], [(a_labels, .inl (G 0, 32, .inl labels))], [(a_sources, .inl (G 0, 32, .inl sources))], [(a_targets, .inl (G 0, 32, .inl targets))]] H → va_S (xA aa) s.heap H locs → lv_has ls 6 [(0, .ref h), (2, .int v2), (3, .int v3), (4, .int v4)] → lp (τ := Int32 → Int32 → Option (Int32)) (fun _ _ => none) (f_X3_closure_L11 fu objects steps labels sources targets v2) n_11 v3 v4 = some out → W p l e (rM 1 24) s m args blw meth c H locs 0 0 Q (F0 m 11 ls []) := by
    intro    n_11
    induction n_11 with
    | zero =>
      intro v3 v4 H locs ls hP hS hl hf
      exact no_some hf
    | succ n_11 ih_11 =>
      intro v3 v4 H locs ls hP hS hl hf
      have hf : f_X3_closure_L11 fu objects steps labels sources targets v2 (lp (τ := Int32 → Int32 → Option (Int32)) (fun _ _ => none) (f_X3_closure_L11 fu objects steps labels sources targets v2) n_11) v3 v4 = some out := hf
      refine lv_iload hx hb dX3_closure_11 (lv_at hl 3 rfl) ?_
      refine lv_aload_n hx hb dX3_closure_13 rfl (lv_at hl 0 rfl) ?_
      refine x_get hx hb hts u_X3_closure_X3 hown hE hP 0 rfl rfl 0 (by decide) (hts (.fieldLink RX3 9 "DecreasingDiagrams$LabelledSystem" "objects" "I") (List.mem_of_getElem? (i := 1) rfl)) rfl dX3_closure_14 ?_
      refine lv_icmp_ge (tgt := 47) hx hb dX3_closure_17 (by decide) (fun c_17 => ?_) (fun c_17 => ?_)
      · have hf := it_pos c_17 hf
        refine lv_iload_n hx hb dX3_closure_47 rfl (lv_at hl 2 rfl) ?_
        have hf := Option.some.inj hf
        rewrite [← hQ, ← hf]
        exact x_iret hx hb hr hlocks hP hS dX3_closure_48
      · have hf := it_neg c_17 hf
        refine lv_iload_n hx hb dX3_closure_20 rfl (lv_at hl 2 rfl) ?_
        refine lv_aload_n hx hb dX3_closure_21 rfl (lv_at hl 0 rfl) ?_
        refine lv_iload_n hx hb dX3_closure_22 rfl (lv_at hl 2 rfl) ?_
        refine lv_iload_n hx hb dX3_closure_23 rfl (lv_at hl 1 rfl) ?_
        obtain ⟨r_24, hr_24, hf⟩ := bd_some hf
        refine x_goi0 (ps := [0, 1, 2, 3]) (x_runV (As := [.int v3, .int v2]) (rest := [.int v3]) (ps := [0, 1, 2, 3]) ⟨hx, hb, hml, hown, hts⟩ (k_X3_successors l D G fu h a_words a_sources a_targets a_labels objects steps labels sources targets v3 v2 r_24 hr_24) (cwV 2 hts gX3_closure_X3_successors rfl rfl rfl (by decide +kernel) ⟨Nat.le_of_ble_eq_true rfl, Nat.le_of_ble_eq_true rfl⟩) hE hP hN rfl (by decide) 0 rfl rfl rfl hl.1 (Nat.le_of_ble_eq_true rfl) dX3_closure_24 ⟨Nat.zero_le _, Nat.zero_le _⟩) hP hN hS rfl (fun H locs hP hS => ?_)
        refine lv_ior hx hb dX3_closure_27 ?_
        obtain ⟨v5_28, e_v5_28, hf⟩ := lt_some hf
        refine x_istore (v := v5_28) (lv' := [(5, .int v5_28), (0, .ref h), (2, .int v2), (3, .int v3), (4, .int v4)]) hx hb dX3_closure_28 e_v5_28 hl (by decide) rfl (fun ls hl => ?_)
        refine lv_iload hx hb dX3_closure_30 (lv_at hl 0 rfl) ?_
        refine lv_iload_n hx hb dX3_closure_32 rfl (lv_at hl 3 rfl) ?_
        refine lv_icmp_ne (tgt := 38) hx hb dX3_closure_33 (by decide) (fun c_33 => ?_) (fun c_33 => ?_)
        · have hf := it_pos c_33 hf
          refine lv_iload hx hb dX3_closure_38 (lv_at hl 0 rfl) ?_
          obtain ⟨v3_40, e_v3_40, hf⟩ := lt_some hf
          refine x_istore_n (v := v3_40) (lv' := [(3, .int v3_40), (5, .int v5_28), (0, .ref h), (2, .int v2), (4, .int v4)]) hx hb dX3_closure_40 e_v3_40 rfl hl (by decide) rfl (fun ls hl => ?_)
          obtain ⟨v4_41, e_v4_41, hf⟩ := lt_some hf
          refine lv_iinc (v := v4_41) (lv' := [(4, .int v4_41), (3, .int v3_40), (5, .int v5_28), (0, .ref h), (2, .int v2)]) hx hb dX3_closure_41 hl (k := 4) rfl (by rw [e_v4_41]; rfl) (by decide) rfl (fun ls hl => ?_)
          refine lv_goto (tgt := 11) hx hb dX3_closure_44 (by decide) ?_
          exact ih_11 v3_40 v4_41 H locs ls hP hS (lv_sub hl [3, 4, 1, 0] rfl) hf
        · have hf := it_neg (fun h => h c_33) hf
          refine lv_iload_n hx hb dX3_closure_36 rfl (lv_at hl 3 rfl) ?_
          have hf := Option.some.inj hf
          rewrite [← hQ, ← hf]
          exact x_iret hx hb hr hlocks hP hS dX3_closure_37
  refine lv_iload_n hx hb dX3_closure_0 rfl (lv_at hl 2 rfl) ?_
  refine lv_if_ne (tgt := 6) hx hb dX3_closure_1 (by decide) (fun c_1 => ?_) (fun c_1 => ?_)
  · have hf := it_pos c_1 hf
    refine lv_iload_n hx hb dX3_closure_6 rfl (lv_at hl 1 rfl) ?_
    obtain ⟨v3_7, e_v3_7, hf⟩ := lt_some hf
    refine x_istore_n (v := v3_7) (lv' := [(3, .int v3_7), (0, .ref h), (1, .int v1), (2, .int v2)]) hx hb dX3_closure_7 e_v3_7 rfl hl (by decide) rfl (fun ls hl => ?_)
    refine lv_iconst (v := 0) hx hb dX3_closure_8 (by decide) ?_
    obtain ⟨v4_9, e_v4_9, hf⟩ := lt_some hf
    refine x_istore (v := v4_9) (lv' := [(4, .int v4_9), (3, .int v3_7), (0, .ref h), (1, .int v1), (2, .int v2)]) hx hb dX3_closure_9 e_v4_9 hl (by decide) rfl (fun ls hl => ?_)
    exact L11    fu v3_7 v4_9 H locs ls hP hS (lv_sub hl [2, 4, 1, 0] rfl) hf
  · have hf := it_neg (fun h => h c_1) hf
    refine lv_iload_n hx hb dX3_closure_4 rfl (lv_at hl 1 rfl) ?_
    have hf := Option.some.inj hf
    rewrite [← hQ, ← hf]
    exact x_iret hx hb hr hlocks hP hS dX3_closure_5

set_option maxRecDepth 20000 in
theorem u_X3_fillReach_X3 : ∀ w ∈ wsX30, w ∈ wsX3_fillReach := xx_pl _ [15, 16, 17, 18, 19, 20] (by decide +kernel)
def f_X3_fillReach_L2 (fu : Nat) (objects : Int32) (steps : Int32) (labels : (Nat → Int32)) (sources : (Nat → Int32)) (targets : (Nat → Int32)) (n_p1 : Nat) (rec_2 : Int32 → (Nat → Int32) → Option ((Nat → Int32))) (v2 : Int32) (p1 : (Nat → Int32)) : Option ((Nat → Int32)) :=
  if objects ≤ v2 then (some p1) else (if (Int32.ofNat n_p1) ≤ v2 then (some p1) else ((f_X3_closure fu objects steps labels sources targets (1 <<< (v2 &&& 31)) 255).bind (fun r_25 => ck v2 n_p1 (lt (upd p1 v2.toNatClampNeg r_25) (fun p1_28 => lt (v2 + 1) (fun v2_29 => rec_2 v2_29 p1_28))))))
def f_X3_fillReach (fu : Nat) (objects : Int32) (steps : Int32) (p1 : (Nat → Int32)) (labels : (Nat → Int32)) (sources : (Nat → Int32)) (targets : (Nat → Int32)) (n_p1 : Nat) : Option ((Nat → Int32)) :=
  lt (0 : Int32) (fun v2_1 => lp (τ := Int32 → (Nat → Int32) → Option ((Nat → Int32))) (fun _ _ => none) (f_X3_fillReach_L2 fu objects steps labels sources targets n_p1) fu v2_1 p1)
set_option maxHeartbeats 4000000 in
set_option maxRecDepth 100000 in
theorem k_X3_fillReach (l : Launch) (D : va_G) (G : Nat → ClassId) (fu : Nat) (h : Nat) (a_p1 : Nat) (a_words : Nat) (a_sources : Nat) (a_targets : Nat) (a_labels : Nat) (objects : Int32) (steps : Int32) (p1 : (Nat → Int32)) (labels : (Nat → Int32)) (sources : (Nat → Int32)) (targets : (Nat → Int32)) (n_p1 : Nat)  (out : (Nat → Int32)) (hf : f_X3_fillReach fu objects steps p1 labels sources targets n_p1 = some out) : xMet l yX3_fillReach wsX3_fillReach (rM 2 49) D G [.ref h, .ref a_p1] [[(a_p1, .inl (G 0, n_p1, .inl p1))], [(h, .inr (3, [.int objects, .ref a_words, .int steps, .ref a_sources, .ref a_targets, .ref a_labels]))], [(a_labels, .inl (G 0, 32, .inl labels))], [(a_sources, .inl (G 0, 32, .inl sources))], [(a_targets, .inl (G 0, 32, .inl targets))]] (xQv D [[(a_p1, .inl (G 0, n_p1, .inl out))], [(h, .inr (3, [.int objects, .ref a_words, .int steps, .ref a_sources, .ref a_targets, .ref a_labels]))], [(a_labels, .inl (G 0, 32, .inl labels))], [(a_sources, .inl (G 0, 32, .inl sources))], [(a_targets, .inl (G 0, 32, .inl targets))]]) := by
  refine x_ent (cc := cX3_fillReach) (maxL := 3) (by decide) rfl (Nat.le_of_ble_eq_true rfl) ?_
  intro p e s m blw meth c aa ls args Q H locs hQ hx hb hr hml hown hts hlocks hE hN hl hP hS
  have hown : s.vm.findClass RX3 = some m.cls := hown
  have hl : lv_has ls 3 [(0, .ref h), (1, .ref a_p1)] := hl
  have L2 : ∀ (n_2 : Nat) (v2 : Int32) (p1 : (Nat → Int32)) (H : Heap) (locs : List Loc) (ls : Array Slot), xW D aa [[(a_p1, .inl (G 0, n_p1, .inl p1))], [(h, .inr (3, [.int objects, .ref a_words, .int steps, .ref a_sources, .ref a_targets, .ref a_labels]))], [(a_labels, .inl (G 0, 32, .inl labels))], [(a_sources, .inl (G 0, 32, .inl sources))], [(a_targets, .inl (G 0, 32, .inl targets))]] H → va_S (xA aa) s.heap H locs → lv_has ls 3 [(0, .ref h), (1, .ref a_p1), (2, .int v2)] → lp (τ := Int32 → (Nat → Int32) → Option ((Nat → Int32))) (fun _ _ => none) (f_X3_fillReach_L2 fu objects steps labels sources targets n_p1) n_2 v2 p1 = some out → W p l e (rM 2 49) s m args blw meth c H locs 0 0 Q (F0 m 2 ls []) := by
    intro    n_2
    induction n_2 with
    | zero =>
      intro v2 p1 H locs ls hP hS hl hf
      exact no_some hf
    | succ n_2 ih_2 =>
      intro v2 p1 H locs ls hP hS hl hf
      have hf : f_X3_fillReach_L2 fu objects steps labels sources targets n_p1 (lp (τ := Int32 → (Nat → Int32) → Option ((Nat → Int32))) (fun _ _ => none) (f_X3_fillReach_L2 fu objects steps labels sources targets n_p1) n_2) v2 p1 = some out := hf
      refine lv_iload_n hx hb dX3_fillReach_2 rfl (lv_at hl 2 rfl) ?_
      refine lv_aload_n hx hb dX3_fillReach_3 rfl (lv_at hl 0 rfl) ?_
      refine x_get hx hb hts u_X3_fillReach_X3 hown hE hP 1 rfl rfl 0 (by decide) (hts (.fieldLink RX3 9 "DecreasingDiagrams$LabelledSystem" "objects" "I") (List.mem_of_getElem? (i := 1) rfl)) rfl dX3_fillReach_4 ?_
      refine lv_icmp_ge (tgt := 35) hx hb dX3_fillReach_7 (by decide) (fun c_7 => ?_) (fun c_7 => ?_)
      · have hf := it_pos c_7 hf
        have hf := Option.some.inj hf
        rewrite [← hQ, ← hf]
        exact x_vret hx hb hr hlocks hP hS dX3_fillReach_35
      · have hf := it_neg c_7 hf
        refine lv_iload_n hx hb dX3_fillReach_10 rfl (lv_at hl 2 rfl) ?_
        refine lv_aload_n hx hb dX3_fillReach_11 rfl (lv_at hl 1 rfl) ?_
        refine x_alen (v := Int32.ofNat n_p1) hx hb hE hP 0 0 rfl rfl rfl dX3_fillReach_12 ?_
        refine lv_icmp_ge (tgt := 35) hx hb dX3_fillReach_13 (by decide) (fun c_13 => ?_) (fun c_13 => ?_)
        · have hf := it_pos c_13 hf
          have hf := Option.some.inj hf
          rewrite [← hQ, ← hf]
          exact x_vret hx hb hr hlocks hP hS dX3_fillReach_35
        · have hf := it_neg c_13 hf
          refine lv_aload_n hx hb dX3_fillReach_16 rfl (lv_at hl 1 rfl) ?_
          refine lv_iload_n hx hb dX3_fillReach_17 rfl (lv_at hl 2 rfl) ?_
          refine lv_aload_n hx hb dX3_fillReach_18 rfl (lv_at hl 0 rfl) ?_
          refine lv_iconst (v := 1) hx hb dX3_fillReach_19 (by decide) ?_
          refine lv_iload_n hx hb dX3_fillReach_20 rfl (lv_at hl 2 rfl) ?_
          refine lv_ishl hx hb dX3_fillReach_21 ?_
          refine lv_sipush (v := 255) hx hb dX3_fillReach_22 (by decide) ?_
          obtain ⟨r_25, hr_25, hf⟩ := bd_some hf
          refine x_goi0 (ps := [1, 2, 3, 4]) (x_runV (As := [.int (1 <<< (v2 &&& 31)), .int 255]) (rest := [.int v2, .ref a_p1]) (ps := [1, 2, 3, 4]) ⟨hx, hb, hml, hown, hts⟩ (k_X3_closure l D G fu h a_words a_sources a_targets a_labels objects steps labels sources targets (1 <<< (v2 &&& 31)) 255 r_25 hr_25) (cwV 2 hts gX3_fillReach_X3_closure rfl rfl rfl (by decide +kernel) ⟨Nat.le_of_ble_eq_true rfl, Nat.le_of_ble_eq_true rfl⟩) hE hP hN rfl (by decide) 1 rfl rfl rfl hl.1 (Nat.le_of_ble_eq_true rfl) dX3_fillReach_25 ⟨Nat.zero_le _, Nat.zero_le _⟩) hP hN hS rfl (fun H locs hP hS => ?_)
          obtain ⟨hi, hf⟩ := ck_some hf
          obtain ⟨p1_28, e_p1_28, hf⟩ := lt_some hf
          refine x_iast (I' := [[(a_p1, .inl (G 0, n_p1, .inl p1_28))], [(h, .inr (3, [.int objects, .ref a_words, .int steps, .ref a_sources, .ref a_targets, .ref a_labels]))], [(a_labels, .inl (G 0, 32, .inl labels))], [(a_sources, .inl (G 0, 32, .inl sources))], [(a_targets, .inl (G 0, 32, .inl targets))]]) hx hb hE hP hN hS 0 rfl hi e_p1_28 rfl dX3_fillReach_28 (fun H locs hP hS => ?_)
          obtain ⟨v2_29, e_v2_29, hf⟩ := lt_some hf
          refine lv_iinc (v := v2_29) (lv' := [(2, .int v2_29), (0, .ref h), (1, .ref a_p1)]) hx hb dX3_fillReach_29 hl (k := 2) rfl (by rw [e_v2_29]; rfl) (by decide) rfl (fun ls hl => ?_)
          refine lv_goto (tgt := 2) hx hb dX3_fillReach_32 (by decide) ?_
          exact ih_2 v2_29 p1_28 H locs ls hP hS (lv_sub hl [1, 2, 0] rfl) hf
  refine lv_iconst (v := 0) hx hb dX3_fillReach_0 (by decide) ?_
  obtain ⟨v2_1, e_v2_1, hf⟩ := lt_some hf
  refine x_istore_n (v := v2_1) (lv' := [(2, .int v2_1), (0, .ref h), (1, .ref a_p1)]) hx hb dX3_fillReach_1 e_v2_1 rfl hl (by decide) rfl (fun ls hl => ?_)
  exact L2    fu v2_1 p1 H locs ls hP hS (lv_sub hl [1, 2, 0] rfl) hf

set_option maxRecDepth 20000 in
theorem u_X11_compareReachable_X11 : ∀ w ∈ wsX110, w ∈ wsX11_compareReachable := xx_pl _ [34, 35, 36, 37, 38, 39, 40, 41, 42, 43, 44, 45, 46, 47, 48, 49] (by decide +kernel)
set_option maxRecDepth 20000 in
theorem u_X11_compareReachable_X3 : ∀ w ∈ wsX30, w ∈ wsX11_compareReachable := xx_pl _ [52, 53, 54, 55, 56, 57] (by decide +kernel)
set_option maxRecDepth 20000 in
theorem u_X11_compareReachable_X5 : ∀ w ∈ wsX50, w ∈ wsX11_compareReachable := xx_pl _ [50, 51] (by decide +kernel)
def f_X11_compareReachable_J98 (system_objects : Int32) (v2 : Int32) (v3 : Int32) (reach : (Nat → Int32)) : Option (Int32 × (Nat → Int32)) :=
  if ¬ v2 = system_objects then (some (v3, reach)) else (some ((-2), reach))
def f_X11_compareReachable_L59 (system_objects : Int32) (arrays_values : (Nat → Nat → Int64)) (reach : (Nat → Int32)) (v1 : Int32) (v2 : Int32) (v3 : Int32) (rec_59 : Int32 → Option (Int32 × (Nat → Int32))) (v4 : Int32) : Option (Int32 × (Nat → Int32)) :=
  if v3 ≤ v4 then (f_X11_compareReachable_J98 system_objects v2 v3 reach) else (ck v1 3 (ck v4 16 (ck v4 16 (if (lg_cmp (arrays_values v1.toNatClampNeg v4.toNatClampNeg) ((reach v4.toNatClampNeg).toInt64)) = 0 then (lt (v4 + 1) (fun v4_92 => rec_59 v4_92)) else (some (v4, reach))))))
def f_X11_compareReachable (fu : Nat) (system_objects : Int32) (system_steps : Int32) (arrays_sizes : (Nat → Int32)) (arrays_values : (Nat → Nat → Int64)) (reach : (Nat → Int32)) (system_labels : (Nat → Int32)) (system_sources : (Nat → Int32)) (system_targets : (Nat → Int32)) (v1 : Int32) : Option (Int32 × (Nat → Int32)) :=
  (f_X11_isArray v1).bind (fun r_1 => if ¬ r_1 = 0 then ((f_X5_isMissing arrays_sizes v1).bind (fun r_14 => if r_14 = 0 then ((f_X3_fillReach fu system_objects system_steps reach system_labels system_sources system_targets 16).bind (fun r_31 => ck v1 3 (lt (arrays_sizes v1.toNatClampNeg) (fun v2_43 => lt (if system_objects < v2_43 then system_objects else v2_43) (fun v3_55 => lt (0 : Int32) (fun v4_57 => lp (τ := Int32 → Option (Int32 × (Nat → Int32))) (fun _ => none) (f_X11_compareReachable_L59 system_objects arrays_values r_31 v1 v2_43 v3_55) fu v4_57)))))) else (some ((-11), reach)))) else (some ((-1), reach)))
set_option maxHeartbeats 4000000 in
set_option maxRecDepth 100000 in
theorem k_X11_compareReachable (l : Launch) (D : va_G) (G : Nat → ClassId) (fu : Nat) (h : Nat) (h_order : Nat) (h_system : Nat) (h_rules : Nat) (h_savedOrder : Nat) (h_savedSystem : Nat) (h_savedRules : Nat) (h_peaks : Nat) (h_leftPaths : Nat) (h_rightPaths : Nat) (h_text : Nat) (h_labellings : Nat) (h_input : Nat) (h_explorer : Nat) (h_arrays : Nat) (a_reach : Nat) (a_arrays_sizes : Nat) (a_arrays_values : Nat) (r_arrays_values : Nat → Nat) (a_system_words : Nat) (a_system_sources : Nat) (a_system_targets : Nat) (a_system_labels : Nat) (snapshotSaved : Int32) (system_objects : Int32) (system_steps : Int32) (arrays_sizes : (Nat → Int32)) (arrays_values : (Nat → Nat → Int64)) (reach : (Nat → Int32)) (system_labels : (Nat → Int32)) (system_sources : (Nat → Int32)) (system_targets : (Nat → Int32))  (v1 : Int32) (out : Int32 × (Nat → Int32)) (hf : f_X11_compareReachable fu system_objects system_steps arrays_sizes arrays_values reach system_labels system_sources system_targets v1 = some out) : xMet l yX11_compareReachable wsX11_compareReachable (rM 3 71) D G [.ref h, .int v1] [[(h, .inr (10, [.ref h_order, .ref h_system, .ref h_rules, .ref h_savedOrder, .ref h_savedSystem, .ref h_savedRules, .int snapshotSaved, .ref h_peaks, .ref h_leftPaths, .ref h_rightPaths, .ref h_text, .ref h_labellings, .ref h_input, .ref h_explorer, .ref h_arrays, .ref a_reach]))], [(h_arrays, .inr (5, [.ref a_arrays_sizes, .ref a_arrays_values]))], [(a_arrays_sizes, .inl (G 0, 3, .inl arrays_sizes))], [gO (G 5) a_arrays_values r_arrays_values 3], gJ (G 1) r_arrays_values 3 16 arrays_values, [(a_reach, .inl (G 0, 16, .inl reach))], [(h_system, .inr (3, [.int system_objects, .ref a_system_words, .int system_steps, .ref a_system_sources, .ref a_system_targets, .ref a_system_labels]))], [(a_system_labels, .inl (G 0, 32, .inl system_labels))], [(a_system_sources, .inl (G 0, 32, .inl system_sources))], [(a_system_targets, .inl (G 0, 32, .inl system_targets))]] (xQi D [[(h, .inr (10, [.ref h_order, .ref h_system, .ref h_rules, .ref h_savedOrder, .ref h_savedSystem, .ref h_savedRules, .int snapshotSaved, .ref h_peaks, .ref h_leftPaths, .ref h_rightPaths, .ref h_text, .ref h_labellings, .ref h_input, .ref h_explorer, .ref h_arrays, .ref a_reach]))], [(h_arrays, .inr (5, [.ref a_arrays_sizes, .ref a_arrays_values]))], [(a_arrays_sizes, .inl (G 0, 3, .inl arrays_sizes))], [gO (G 5) a_arrays_values r_arrays_values 3], gJ (G 1) r_arrays_values 3 16 arrays_values, [(a_reach, .inl (G 0, 16, .inl out.2))], [(h_system, .inr (3, [.int system_objects, .ref a_system_words, .int system_steps, .ref a_system_sources, .ref a_system_targets, .ref a_system_labels]))], [(a_system_labels, .inl (G 0, 32, .inl system_labels))], [(a_system_sources, .inl (G 0, 32, .inl system_sources))], [(a_system_targets, .inl (G 0, 32, .inl system_targets))]] out.1) := by
  refine x_ent (cc := cX11_compareReachable) (maxL := 5) (by decide) rfl (Nat.le_of_ble_eq_true rfl) ?_
  intro p e s m blw meth c aa ls args Q H locs hQ hx hb hr hml hown hts hlocks hE hN hl hP hS
  have hown : s.vm.findClass RX11 = some m.cls := hown
  have hl : lv_has ls 5 [(0, .ref h), (1, .int v1)] := hl
  have J98 : ∀ (v2 : Int32) (v3 : Int32) (reach : (Nat → Int32)) (H : Heap) (locs : List Loc) (ls : Array Slot), xW D aa [[(h, .inr (10, [.ref h_order, .ref h_system, .ref h_rules, .ref h_savedOrder, .ref h_savedSystem, .ref h_savedRules, .int snapshotSaved, .ref h_peaks, .ref h_leftPaths, .ref h_rightPaths, .ref h_text, .ref h_labellings, .ref h_input, .ref h_explorer, .ref h_arrays, .ref a_reach]))], [(h_arrays, .inr (5, [.ref a_arrays_sizes, .ref a_arrays_values]))], [(a_arrays_sizes, .inl (G 0, 3, .inl arrays_sizes))], [gO (G 5) a_arrays_values r_arrays_values 3], gJ (G 1) r_arrays_values 3 16 arrays_values, [(a_reach, .inl (G 0, 16, .inl reach))], [(h_system, .inr (3, [.int system_objects, .ref a_system_words, .int system_steps, .ref a_system_sources, .ref a_system_targets, .ref a_system_labels]))], [(a_system_labels, .inl (G 0, 32, .inl system_labels))], [(a_system_sources, .inl (G 0, 32, .inl system_sources))], [(a_system_targets, .inl (G 0, 32, .inl system_targets))]] H → va_S (xA aa) s.heap H locs → lv_has ls 5 [(0, .ref h), (2, .int v2), (3, .int v3)] → f_X11_compareReachable_J98 system_objects v2 v3 reach = some out → W p l e (rM 3 71) s m args blw meth c H locs 0 0 Q (F0 m 98 ls []) := by
    intro v2 v3 reach  H locs ls  hP hS hl hf
    refine lv_iload_n hx hb dX11_compareReachable_98 rfl (lv_at hl 1 rfl) ?_
    refine lv_aload_n hx hb dX11_compareReachable_99 rfl (lv_at hl 0 rfl) ?_
    refine x_get hx hb hts u_X11_compareReachable_X11 hown hE hP 0 rfl rfl 1 (by decide) (hts (.fieldLink RX11 19 "DecreasingDiagrams" "system" "LDecreasingDiagrams$LabelledSystem;") (List.mem_of_getElem? (i := 2) rfl)) rfl dX11_compareReachable_100 ?_
    refine x_getN hx hb hts u_X11_compareReachable_X3 hown hE hP 6 rfl rfl 0 (by decide) (hE.2 (.fieldLinkNest RX11 149 "DecreasingDiagrams$LabelledSystem" "objects" "I" RX11) (List.mem_of_getElem? (i := 5) rfl)) rfl dX11_compareReachable_103 ?_
    refine lv_icmp_ne (tgt := 114) hx hb dX11_compareReachable_106 (by decide) (fun c_106 => ?_) (fun c_106 => ?_)
    · have hf := it_pos c_106 hf
      refine lv_iload_n hx hb dX11_compareReachable_114 rfl (lv_at hl 2 rfl) ?_
      have hf := Option.some.inj hf
      rewrite [← hQ, ← hf]
      exact x_iret hx hb hr hlocks hP hS dX11_compareReachable_115
    · have hf := it_neg (fun h => h c_106) hf
      refine lv_bipush (v := -2) hx hb dX11_compareReachable_109 (by decide) ?_
      refine lv_goto (tgt := 115) hx hb dX11_compareReachable_111 (by decide) ?_
      have hf := Option.some.inj hf
      rewrite [← hQ, ← hf]
      exact x_iret hx hb hr hlocks hP hS dX11_compareReachable_115
  have L59 : ∀ (v2 : Int32) (v3 : Int32) (reach : (Nat → Int32)), ∀ (n_59 : Nat) (v4 : Int32) (H : Heap) (locs : List Loc) (ls : Array Slot), xW D aa [[(h, .inr (10, [.ref h_order, .ref h_system, .ref h_rules, .ref h_savedOrder, .ref h_savedSystem, .ref h_savedRules, .int snapshotSaved, .ref h_peaks, .ref h_leftPaths, .ref h_rightPaths, .ref h_text, .ref h_labellings, .ref h_input, .ref h_explorer, .ref h_arrays, .ref a_reach]))], [(h_arrays, .inr (5, [.ref a_arrays_sizes, .ref a_arrays_values]))], [(a_arrays_sizes, .inl (G 0, 3, .inl arrays_sizes))], [gO (G 5) a_arrays_values r_arrays_values 3], gJ (G 1) r_arrays_values 3 16 arrays_values, [(a_reach, .inl (G 0, 16, .inl reach))], [(h_system, .inr (3, [.int system_objects, .ref a_system_words, .int system_steps, .ref a_system_sources, .ref a_system_targets, .ref a_system_labels]))], [(a_system_labels, .inl (G 0, 32, .inl system_labels))], [(a_system_sources, .inl (G 0, 32, .inl system_sources))], [(a_system_targets, .inl (G 0, 32, .inl system_targets))]] H → va_S (xA aa) s.heap H locs → lv_has ls 5 [(0, .ref h), (1, .int v1), (2, .int v2), (3, .int v3), (4, .int v4)] → lp (τ := Int32 → Option (Int32 × (Nat → Int32))) (fun _ => none) (f_X11_compareReachable_L59 system_objects arrays_values reach v1 v2 v3) n_59 v4 = some out → W p l e (rM 3 71) s m args blw meth c H locs 0 0 Q (F0 m 59 ls []) := by
    intro v2 v3 reach   n_59
    induction n_59 with
    | zero =>
      intro v4 H locs ls hP hS hl hf
      exact no_some hf
    | succ n_59 ih_59 =>
      intro v4 H locs ls hP hS hl hf
      have hf : f_X11_compareReachable_L59 system_objects arrays_values reach v1 v2 v3 (lp (τ := Int32 → Option (Int32 × (Nat → Int32))) (fun _ => none) (f_X11_compareReachable_L59 system_objects arrays_values reach v1 v2 v3) n_59) v4 = some out := hf
      refine lv_iload hx hb dX11_compareReachable_59 (lv_at hl 4 rfl) ?_
      refine lv_iload_n hx hb dX11_compareReachable_61 rfl (lv_at hl 3 rfl) ?_
      refine lv_icmp_ge (tgt := 98) hx hb dX11_compareReachable_62 (by decide) (fun c_62 => ?_) (fun c_62 => ?_)
      · have hf := it_pos c_62 hf
        exact J98 v2 v3 reach  H locs ls  hP hS (lv_sub hl [0, 2, 3] rfl) hf
      · have hf := it_neg c_62 hf
        refine lv_aload_n hx hb dX11_compareReachable_65 rfl (lv_at hl 0 rfl) ?_
        refine x_get hx hb hts u_X11_compareReachable_X11 hown hE hP 0 rfl rfl 14 (by decide) (hts (.fieldLink RX11 91 "DecreasingDiagrams" "arrays" "LDecreasingDiagrams$LongArrays;") (List.mem_of_getElem? (i := 1) rfl)) rfl dX11_compareReachable_66 ?_
        refine x_getN hx hb hts u_X11_compareReachable_X5 hown hE hP 1 rfl rfl 1 (by decide) (hE.2 (.fieldLinkNest RX11 327 "DecreasingDiagrams$LongArrays" "values" "[[J" RX11) (List.mem_of_getElem? (i := 52) rfl)) rfl dX11_compareReachable_69 ?_
        refine lv_iload_n hx hb dX11_compareReachable_72 rfl (lv_at hl 1 rfl) ?_
        obtain ⟨hq_73, hf⟩ := ck_some hf
        refine x_aald hx hb hE hP 3 5 rfl rfl hq_73 dX11_compareReachable_73 ?_
        refine lv_iload hx hb dX11_compareReachable_74 (lv_at hl 4 rfl) ?_
        obtain ⟨hi, hf⟩ := ck_some hf
        refine x_lald2 hx hb hE hP 4 rfl hq_73 hi dX11_compareReachable_76 ?_
        refine lv_aload_n hx hb dX11_compareReachable_77 rfl (lv_at hl 0 rfl) ?_
        refine x_get hx hb hts u_X11_compareReachable_X11 hown hE hP 0 rfl rfl 15 (by decide) (hts (.fieldLink RX11 95 "DecreasingDiagrams" "reach" "[I") (List.mem_of_getElem? (i := 3) rfl)) rfl dX11_compareReachable_78 ?_
        refine lv_iload hx hb dX11_compareReachable_81 (lv_at hl 4 rfl) ?_
        obtain ⟨hi, hf⟩ := ck_some hf
        refine x_iald hx hb hE hP 5 rfl hi dX11_compareReachable_83 ?_
        refine lv_i2l hx hb dX11_compareReachable_84 rfl ?_
        refine W.lcmp hx hb dX11_compareReachable_85 ?_
        refine lv_if_eq (tgt := 92) hx hb dX11_compareReachable_86 (by decide) (fun c_86 => ?_) (fun c_86 => ?_)
        · have hf := it_pos c_86 hf
          obtain ⟨v4_92, e_v4_92, hf⟩ := lt_some hf
          refine lv_iinc (v := v4_92) (lv' := [(4, .int v4_92), (0, .ref h), (1, .int v1), (2, .int v2), (3, .int v3)]) hx hb dX11_compareReachable_92 hl (k := 4) rfl (by rw [e_v4_92]; rfl) (by decide) rfl (fun ls hl => ?_)
          refine lv_goto (tgt := 59) hx hb dX11_compareReachable_95 (by decide) ?_
          exact ih_59 v4_92 H locs ls hP hS (lv_sub hl [1, 2, 3, 4, 0] rfl) hf
        · have hf := it_neg c_86 hf
          refine lv_iload hx hb dX11_compareReachable_89 (lv_at hl 4 rfl) ?_
          have hf := Option.some.inj hf
          rewrite [← hQ, ← hf]
          exact x_iret hx hb hr hlocks hP hS dX11_compareReachable_91
  refine lv_iload_n hx hb dX11_compareReachable_0 rfl (lv_at hl 1 rfl) ?_
  obtain ⟨r_1, hr_1, hf⟩ := bd_some hf
  refine x_goi0 (ps := []) (x_runS (As := [.int v1]) (rest := []) (ps := []) ⟨hx, hb, hml, hown, hts⟩ (k_X11_isArray l D G fu v1 r_1 hr_1) (va_cwS 1 hts gX11_compareReachable_X11_isArray rfl rfl rfl (by decide +kernel) ⟨Nat.le_of_ble_eq_true rfl, Nat.le_of_ble_eq_true rfl⟩) hE hP hN rfl (by decide) rfl hl.1 (Nat.le_of_ble_eq_true rfl) dX11_compareReachable_1 ⟨Nat.zero_le _, Nat.zero_le _⟩) hP hN hS rfl (fun H locs hP hS => ?_)
  refine lv_if_ne (tgt := 9) hx hb dX11_compareReachable_4 (by decide) (fun c_4 => ?_) (fun c_4 => ?_)
  · have hf := it_pos c_4 hf
    refine lv_aload_n hx hb dX11_compareReachable_9 rfl (lv_at hl 0 rfl) ?_
    refine x_get hx hb hts u_X11_compareReachable_X11 hown hE hP 0 rfl rfl 14 (by decide) (hts (.fieldLink RX11 91 "DecreasingDiagrams" "arrays" "LDecreasingDiagrams$LongArrays;") (List.mem_of_getElem? (i := 1) rfl)) rfl dX11_compareReachable_10 ?_
    refine lv_iload_n hx hb dX11_compareReachable_13 rfl (lv_at hl 1 rfl) ?_
    obtain ⟨r_14, hr_14, hf⟩ := bd_some hf
    refine x_goi0 (ps := [1, 2]) (x_runVN (As := [.int v1]) (rest := []) (ps := [1, 2]) ⟨hx, hb, hml, hown, hts⟩ (k_X5_isMissing l D G fu h_arrays a_arrays_sizes a_arrays_values arrays_sizes v1 r_14 hr_14) ⟨va_cnB 1 hts gX11_compareReachable_X5_isMissing_n321 rfl rfl rfl (hE.2 (.methodLinkNest RX11 321 yX5_isMissing RX11) (List.mem_of_getElem? (i := 111) rfl)) (hts (.initialized RX5) (List.mem_of_getElem? (i := 13) rfl)) (by decide +kernel) ⟨Nat.le_of_ble_eq_true rfl, Nat.le_of_ble_eq_true rfl⟩, (hts (.instanceMethod yX5_isMissing) (List.mem_of_getElem? (i := 12) rfl)), (hts (.selects RX5 yX5_isMissing yX5_isMissing) (List.mem_of_getElem? (i := 14) rfl))⟩ hE hP hN rfl (by decide) 1 rfl rfl rfl hl.1 (Nat.le_of_ble_eq_true rfl) dX11_compareReachable_14 ⟨Nat.zero_le _, Nat.zero_le _⟩) hP hN hS rfl (fun H locs hP hS => ?_)
    refine lv_if_eq (tgt := 23) hx hb dX11_compareReachable_17 (by decide) (fun c_17 => ?_) (fun c_17 => ?_)
    · have hf := it_pos c_17 hf
      refine lv_aload_n hx hb dX11_compareReachable_23 rfl (lv_at hl 0 rfl) ?_
      refine x_get hx hb hts u_X11_compareReachable_X11 hown hE hP 0 rfl rfl 1 (by decide) (hts (.fieldLink RX11 19 "DecreasingDiagrams" "system" "LDecreasingDiagrams$LabelledSystem;") (List.mem_of_getElem? (i := 2) rfl)) rfl dX11_compareReachable_24 ?_
      refine lv_aload_n hx hb dX11_compareReachable_27 rfl (lv_at hl 0 rfl) ?_
      refine x_get hx hb hts u_X11_compareReachable_X11 hown hE hP 0 rfl rfl 15 (by decide) (hts (.fieldLink RX11 95 "DecreasingDiagrams" "reach" "[I") (List.mem_of_getElem? (i := 3) rfl)) rfl dX11_compareReachable_28 ?_
      obtain ⟨r_31, hr_31, hf⟩ := bd_some hf
      refine x_gov (ps := [5, 6, 7, 8, 9]) (qs := [0, 1, 2, 3, 4]) (n := 10) (I' := [[(h, .inr (10, [.ref h_order, .ref h_system, .ref h_rules, .ref h_savedOrder, .ref h_savedSystem, .ref h_savedRules, .int snapshotSaved, .ref h_peaks, .ref h_leftPaths, .ref h_rightPaths, .ref h_text, .ref h_labellings, .ref h_input, .ref h_explorer, .ref h_arrays, .ref a_reach]))], [(h_arrays, .inr (5, [.ref a_arrays_sizes, .ref a_arrays_values]))], [(a_arrays_sizes, .inl (G 0, 3, .inl arrays_sizes))], [gO (G 5) a_arrays_values r_arrays_values 3], gJ (G 1) r_arrays_values 3 16 arrays_values, [(a_reach, .inl (G 0, 16, .inl r_31))], [(h_system, .inr (3, [.int system_objects, .ref a_system_words, .int system_steps, .ref a_system_sources, .ref a_system_targets, .ref a_system_labels]))], [(a_system_labels, .inl (G 0, 32, .inl system_labels))], [(a_system_sources, .inl (G 0, 32, .inl system_sources))], [(a_system_targets, .inl (G 0, 32, .inl system_targets))]]) (x_runVN (As := [.ref a_reach]) (rest := []) (ps := [5, 6, 7, 8, 9]) ⟨hx, hb, hml, hown, hts⟩ (k_X3_fillReach l D G fu h_system a_reach a_system_words a_system_sources a_system_targets a_system_labels system_objects system_steps reach system_labels system_sources system_targets 16 r_31 hr_31) ⟨va_cnB 1 hts gX11_compareReachable_X3_fillReach_n191 rfl rfl rfl (hE.2 (.methodLinkNest RX11 191 yX3_fillReach RX11) (List.mem_of_getElem? (i := 72) rfl)) (hts (.initialized RX3) (List.mem_of_getElem? (i := 18) rfl)) (by decide +kernel) ⟨Nat.le_of_ble_eq_true rfl, Nat.le_of_ble_eq_true rfl⟩, (hts (.instanceMethod yX3_fillReach) (List.mem_of_getElem? (i := 17) rfl)), (hts (.selects RX3 yX3_fillReach yX3_fillReach) (List.mem_of_getElem? (i := 19) rfl))⟩ hE hP hN rfl (by decide) 6 rfl rfl rfl hl.1 (Nat.le_of_ble_eq_true rfl) dX11_compareReachable_31 ⟨Nat.zero_le _, Nat.zero_le _⟩) hP hN hS rfl rfl rfl rfl rfl (by decide) (fun H locs hP hS => ?_)
      refine lv_aload_n hx hb dX11_compareReachable_34 rfl (lv_at hl 0 rfl) ?_
      refine x_get hx hb hts u_X11_compareReachable_X11 hown hE hP 0 rfl rfl 14 (by decide) (hts (.fieldLink RX11 91 "DecreasingDiagrams" "arrays" "LDecreasingDiagrams$LongArrays;") (List.mem_of_getElem? (i := 1) rfl)) rfl dX11_compareReachable_35 ?_
      refine x_getN hx hb hts u_X11_compareReachable_X5 hown hE hP 1 rfl rfl 0 (by decide) (hE.2 (.fieldLinkNest RX11 335 "DecreasingDiagrams$LongArrays" "sizes" "[I" RX11) (List.mem_of_getElem? (i := 51) rfl)) rfl dX11_compareReachable_38 ?_
      refine lv_iload_n hx hb dX11_compareReachable_41 rfl (lv_at hl 1 rfl) ?_
      obtain ⟨hi, hf⟩ := ck_some hf
      refine x_iald hx hb hE hP 2 rfl hi dX11_compareReachable_42 ?_
      obtain ⟨v2_43, e_v2_43, hf⟩ := lt_some hf
      refine x_istore_n (v := v2_43) (lv' := [(2, .int v2_43), (0, .ref h), (1, .int v1)]) hx hb dX11_compareReachable_43 e_v2_43 rfl hl (by decide) rfl (fun ls hl => ?_)
      refine lv_iload_n hx hb dX11_compareReachable_44 rfl (lv_at hl 0 rfl) ?_
      refine lv_aload_n hx hb dX11_compareReachable_45 rfl (lv_at hl 1 rfl) ?_
      refine x_get hx hb hts u_X11_compareReachable_X11 hown hE hP 0 rfl rfl 1 (by decide) (hts (.fieldLink RX11 19 "DecreasingDiagrams" "system" "LDecreasingDiagrams$LabelledSystem;") (List.mem_of_getElem? (i := 2) rfl)) rfl dX11_compareReachable_46 ?_
      refine x_getN hx hb hts u_X11_compareReachable_X3 hown hE hP 6 rfl rfl 0 (by decide) (hE.2 (.fieldLinkNest RX11 149 "DecreasingDiagrams$LabelledSystem" "objects" "I" RX11) (List.mem_of_getElem? (i := 5) rfl)) rfl dX11_compareReachable_49 ?_
      refine va_mmin hx hb (hml.trans hl.1.symm) hown (hts (.methodLink RX11 338 Lib.Math.min.name) (List.mem_of_getElem? (i := 4) rfl)) (hts (.static Lib.Math.min.name) (List.mem_of_getElem? (i := 5) rfl)) (hts (.initialized RJ9) (List.mem_of_getElem? (i := 6) rfl)) (hts _ (List.mem_of_getElem? (i := 7) rfl)) (by decide) (by decide) (Nat.zero_le _) (Nat.zero_le _) dX11_compareReachable_52 ?_
      obtain ⟨v3_55, e_v3_55, hf⟩ := lt_some hf
      refine x_istore_n (v := v3_55) (lv' := [(3, .int v3_55), (2, .int v2_43), (0, .ref h), (1, .int v1)]) hx hb dX11_compareReachable_55 e_v3_55 rfl hl (by decide) rfl (fun ls hl => ?_)
      refine lv_iconst (v := 0) hx hb dX11_compareReachable_56 (by decide) ?_
      obtain ⟨v4_57, e_v4_57, hf⟩ := lt_some hf
      refine x_istore (v := v4_57) (lv' := [(4, .int v4_57), (3, .int v3_55), (2, .int v2_43), (0, .ref h), (1, .int v1)]) hx hb dX11_compareReachable_57 e_v4_57 hl (by decide) rfl (fun ls hl => ?_)
      exact L59 v2_43 v3_55 r_31   fu v4_57 H locs ls hP hS (lv_sub hl [3, 4, 2, 1, 0] rfl) hf
    · have hf := it_neg c_17 hf
      refine lv_bipush (v := -11) hx hb dX11_compareReachable_20 (by decide) ?_
      have hf := Option.some.inj hf
      rewrite [← hQ, ← hf]
      exact x_iret hx hb hr hlocks hP hS dX11_compareReachable_22
  · have hf := it_neg (fun h => h c_4) hf
    refine lv_iconst (v := -1) hx hb dX11_compareReachable_7 (by decide) ?_
    have hf := Option.some.inj hf
    rewrite [← hQ, ← hf]
    exact x_iret hx hb hr hlocks hP hS dX11_compareReachable_8

set_option maxRecDepth 20000 in
theorem u_X3_convertible_X3 : ∀ w ∈ wsX30, w ∈ wsX3_convertible := xx_pl _ [8, 9, 10, 11, 12, 13] (by decide +kernel)
def f_X3_convertible_J82 (rec_6 : (Int32 → Int32 → Option (Int32))) (v2 : Int32) (v3 : Int32) : Option (Int32) :=
  lt (v3 + 1) (fun v3_82 => rec_6 v2 v3_82)
def f_X3_convertible_J76 (rec_17 : (Int32 → Int32 → Option (Int32))) (v2 : Int32) (v4 : Int32) : Option (Int32) :=
  lt (v4 + 1) (fun v4_76 => rec_17 v2 v4_76)
def f_X3_convertible_J54 (sources : (Nat → Int32)) (targets : (Nat → Int32)) (rec_17 : (Int32 → Int32 → Option (Int32))) (v2 : Int32) (v4 : Int32) : Option (Int32) :=
  ck v4 32 (ck v4 32 (lt (v2 ||| ((1 <<< ((sources v4.toNatClampNeg) &&& 31)) ||| (1 <<< ((targets v4.toNatClampNeg) &&& 31)))) (fun v2_75 => f_X3_convertible_J76 rec_17 v2_75 v4)))
def f_X3_convertible_L17 (steps : Int32) (sources : (Nat → Int32)) (targets : (Nat → Int32)) (v3 : Int32) (rec_6 : (Int32 → Int32 → Option (Int32))) (rec_17 : Int32 → Int32 → Option (Int32)) (v2 : Int32) (v4 : Int32) : Option (Int32) :=
  if steps ≤ v4 then (f_X3_convertible_J82 rec_6 v2 v3) else (ck v4 32 ((f_X11_isIn v2 (sources v4.toNatClampNeg)).bind (fun r_34 => if ¬ r_34 = 0 then (f_X3_convertible_J54 sources targets rec_17 v2 v4) else (ck v4 32 ((f_X11_isIn v2 (targets v4.toNatClampNeg)).bind (fun r_48 => if r_48 = 0 then (f_X3_convertible_J76 rec_17 v2 v4) else (f_X3_convertible_J54 sources targets rec_17 v2 v4)))))))
def f_X3_convertible_L6 (fu : Nat) (objects : Int32) (steps : Int32) (sources : (Nat → Int32)) (targets : (Nat → Int32)) (rec_6 : Int32 → Int32 → Option (Int32)) (v2 : Int32) (v3 : Int32) : Option (Int32) :=
  if objects ≤ v3 then (some v2) else (lt (0 : Int32) (fun v4_15 => lp (τ := Int32 → Int32 → Option (Int32)) (fun _ _ => none) (f_X3_convertible_L17 steps sources targets v3 rec_6) fu v2 v4_15))
def f_X3_convertible (fu : Nat) (objects : Int32) (steps : Int32) (sources : (Nat → Int32)) (targets : (Nat → Int32)) (v1 : Int32) : Option (Int32) :=
  lt (1 <<< (v1 &&& 31)) (fun v2_3 => lt (0 : Int32) (fun v3_5 => lp (τ := Int32 → Int32 → Option (Int32)) (fun _ _ => none) (f_X3_convertible_L6 fu objects steps sources targets) fu v2_3 v3_5))
set_option maxHeartbeats 4000000 in
set_option maxRecDepth 100000 in
theorem k_X3_convertible (l : Launch) (D : va_G) (G : Nat → ClassId) (fu : Nat) (h : Nat) (a_words : Nat) (a_sources : Nat) (a_targets : Nat) (a_labels : Nat) (objects : Int32) (steps : Int32) (sources : (Nat → Int32)) (targets : (Nat → Int32))  (v1 : Int32) (out : Int32) (hf : f_X3_convertible fu objects steps sources targets v1 = some out) : xMet l yX3_convertible wsX3_convertible (rM 1 21) D G [.ref h, .int v1] [[(h, .inr (3, [.int objects, .ref a_words, .int steps, .ref a_sources, .ref a_targets, .ref a_labels]))], [(a_sources, .inl (G 0, 32, .inl sources))], [(a_targets, .inl (G 0, 32, .inl targets))]] (xQi D [[(h, .inr (3, [.int objects, .ref a_words, .int steps, .ref a_sources, .ref a_targets, .ref a_labels]))], [(a_sources, .inl (G 0, 32, .inl sources))], [(a_targets, .inl (G 0, 32, .inl targets))]] out) := by
  refine x_ent (cc := cX3_convertible) (maxL := 5) (by decide) rfl (Nat.le_of_ble_eq_true rfl) ?_
  intro p e s m blw meth c aa ls args Q H locs hQ hx hb hr hml hown hts hlocks hE hN hl hP hS
  have hown : s.vm.findClass RX3 = some m.cls := hown
  have hl : lv_has ls 5 [(0, .ref h), (1, .int v1)] := hl
  have L6 : ∀ (n_6 : Nat) (v2 : Int32) (v3 : Int32) (H : Heap) (locs : List Loc) (ls : Array Slot), xW D aa [[(h, .inr (3, [.int objects, .ref a_words, .int steps, .ref a_sources, .ref a_targets, .ref a_labels]))], [(a_sources, .inl (G 0, 32, .inl sources))], [(a_targets, .inl (G 0, 32, .inl targets))]] H → va_S (xA aa) s.heap H locs → lv_has ls 5 [(0, .ref h), (2, .int v2), (3, .int v3)] → lp (τ := Int32 → Int32 → Option (Int32)) (fun _ _ => none) (f_X3_convertible_L6 fu objects steps sources targets) n_6 v2 v3 = some out → W p l e (rM 1 21) s m args blw meth c H locs 0 0 Q (F0 m 6 ls []) := by
    intro    n_6
    induction n_6 with
    | zero =>
      intro v2 v3 H locs ls hP hS hl hf
      exact no_some hf
    | succ n_6 ih_6 =>
      intro v2 v3 H locs ls hP hS hl hf
      have hf : f_X3_convertible_L6 fu objects steps sources targets (lp (τ := Int32 → Int32 → Option (Int32)) (fun _ _ => none) (f_X3_convertible_L6 fu objects steps sources targets) n_6) v2 v3 = some out := hf
      have J82 : ∀ (v2 : Int32) (v3 : Int32) (H : Heap) (locs : List Loc) (ls : Array Slot), xW D aa [[(h, .inr (3, [.int objects, .ref a_words, .int steps, .ref a_sources, .ref a_targets, .ref a_labels]))], [(a_sources, .inl (G 0, 32, .inl sources))], [(a_targets, .inl (G 0, 32, .inl targets))]] H → va_S (xA aa) s.heap H locs → lv_has ls 5 [(0, .ref h), (2, .int v2), (3, .int v3)] → f_X3_convertible_J82 (lp (τ := Int32 → Int32 → Option (Int32)) (fun _ _ => none) (f_X3_convertible_L6 fu objects steps sources targets) n_6) v2 v3 = some out → W p l e (rM 1 21) s m args blw meth c H locs 0 0 Q (F0 m 82 ls []) := by
        intro v2 v3  H locs ls  hP hS hl hf
        obtain ⟨v3_82, e_v3_82, hf⟩ := lt_some hf
        refine lv_iinc (v := v3_82) (lv' := [(3, .int v3_82), (0, .ref h), (2, .int v2)]) hx hb dX3_convertible_82 hl (k := 2) rfl (by rw [e_v3_82]; rfl) (by decide) rfl (fun ls hl => ?_)
        refine lv_goto (tgt := 6) hx hb dX3_convertible_85 (by decide) ?_
        exact ih_6 v2 v3_82 H locs ls hP hS (lv_sub hl [1, 2, 0] rfl) hf
      have L17 : ∀ (v3 : Int32), ∀ (n_17 : Nat) (v2 : Int32) (v4 : Int32) (H : Heap) (locs : List Loc) (ls : Array Slot), xW D aa [[(h, .inr (3, [.int objects, .ref a_words, .int steps, .ref a_sources, .ref a_targets, .ref a_labels]))], [(a_sources, .inl (G 0, 32, .inl sources))], [(a_targets, .inl (G 0, 32, .inl targets))]] H → va_S (xA aa) s.heap H locs → lv_has ls 5 [(0, .ref h), (2, .int v2), (3, .int v3), (4, .int v4)] → lp (τ := Int32 → Int32 → Option (Int32)) (fun _ _ => none) (f_X3_convertible_L17 steps sources targets v3 (lp (τ := Int32 → Int32 → Option (Int32)) (fun _ _ => none) (f_X3_convertible_L6 fu objects steps sources targets) n_6)) n_17 v2 v4 = some out → W p l e (rM 1 21) s m args blw meth c H locs 0 0 Q (F0 m 17 ls []) := by
        intro v3   n_17
        induction n_17 with
        | zero =>
          intro v2 v4 H locs ls hP hS hl hf
          exact no_some hf
        | succ n_17 ih_17 =>
          intro v2 v4 H locs ls hP hS hl hf
          have hf : f_X3_convertible_L17 steps sources targets v3 (lp (τ := Int32 → Int32 → Option (Int32)) (fun _ _ => none) (f_X3_convertible_L6 fu objects steps sources targets) n_6) (lp (τ := Int32 → Int32 → Option (Int32)) (fun _ _ => none) (f_X3_convertible_L17 steps sources targets v3 (lp (τ := Int32 → Int32 → Option (Int32)) (fun _ _ => none) (f_X3_convertible_L6 fu objects steps sources targets) n_6)) n_17) v2 v4 = some out := hf
          have J76 : ∀ (v2 : Int32) (v4 : Int32) (H : Heap) (locs : List Loc) (ls : Array Slot), xW D aa [[(h, .inr (3, [.int objects, .ref a_words, .int steps, .ref a_sources, .ref a_targets, .ref a_labels]))], [(a_sources, .inl (G 0, 32, .inl sources))], [(a_targets, .inl (G 0, 32, .inl targets))]] H → va_S (xA aa) s.heap H locs → lv_has ls 5 [(0, .ref h), (2, .int v2), (3, .int v3), (4, .int v4)] → f_X3_convertible_J76 (lp (τ := Int32 → Int32 → Option (Int32)) (fun _ _ => none) (f_X3_convertible_L17 steps sources targets v3 (lp (τ := Int32 → Int32 → Option (Int32)) (fun _ _ => none) (f_X3_convertible_L6 fu objects steps sources targets) n_6)) n_17) v2 v4 = some out → W p l e (rM 1 21) s m args blw meth c H locs 0 0 Q (F0 m 76 ls []) := by
            intro v2 v4  H locs ls  hP hS hl hf
            obtain ⟨v4_76, e_v4_76, hf⟩ := lt_some hf
            refine lv_iinc (v := v4_76) (lv' := [(4, .int v4_76), (0, .ref h), (2, .int v2), (3, .int v3)]) hx hb dX3_convertible_76 hl (k := 3) rfl (by rw [e_v4_76]; rfl) (by decide) rfl (fun ls hl => ?_)
            refine lv_goto (tgt := 17) hx hb dX3_convertible_79 (by decide) ?_
            exact ih_17 v2 v4_76 H locs ls hP hS (lv_sub hl [1, 2, 3, 0] rfl) hf
          have J54 : ∀ (v2 : Int32) (v4 : Int32) (H : Heap) (locs : List Loc) (ls : Array Slot), xW D aa [[(h, .inr (3, [.int objects, .ref a_words, .int steps, .ref a_sources, .ref a_targets, .ref a_labels]))], [(a_sources, .inl (G 0, 32, .inl sources))], [(a_targets, .inl (G 0, 32, .inl targets))]] H → va_S (xA aa) s.heap H locs → lv_has ls 5 [(0, .ref h), (2, .int v2), (3, .int v3), (4, .int v4)] → f_X3_convertible_J54 sources targets (lp (τ := Int32 → Int32 → Option (Int32)) (fun _ _ => none) (f_X3_convertible_L17 steps sources targets v3 (lp (τ := Int32 → Int32 → Option (Int32)) (fun _ _ => none) (f_X3_convertible_L6 fu objects steps sources targets) n_6)) n_17) v2 v4 = some out → W p l e (rM 1 21) s m args blw meth c H locs 0 0 Q (F0 m 54 ls []) := by
            intro v2 v4  H locs ls  hP hS hl hf
            refine lv_iload_n hx hb dX3_convertible_54 rfl (lv_at hl 1 rfl) ?_
            refine lv_iconst (v := 1) hx hb dX3_convertible_55 (by decide) ?_
            refine lv_aload_n hx hb dX3_convertible_56 rfl (lv_at hl 0 rfl) ?_
            refine x_get hx hb hts u_X3_convertible_X3 hown hE hP 0 rfl rfl 3 (by decide) (hts (.fieldLink RX3 22 "DecreasingDiagrams$LabelledSystem" "sources" "[I") (List.mem_of_getElem? (i := 3) rfl)) rfl dX3_convertible_57 ?_
            refine lv_iload hx hb dX3_convertible_60 (lv_at hl 3 rfl) ?_
            obtain ⟨hi, hf⟩ := ck_some hf
            refine x_iald hx hb hE hP 1 rfl hi dX3_convertible_62 ?_
            refine lv_ishl hx hb dX3_convertible_63 ?_
            refine lv_iconst (v := 1) hx hb dX3_convertible_64 (by decide) ?_
            refine lv_aload_n hx hb dX3_convertible_65 rfl (lv_at hl 0 rfl) ?_
            refine x_get hx hb hts u_X3_convertible_X3 hown hE hP 0 rfl rfl 4 (by decide) (hts (.fieldLink RX3 25 "DecreasingDiagrams$LabelledSystem" "targets" "[I") (List.mem_of_getElem? (i := 4) rfl)) rfl dX3_convertible_66 ?_
            refine lv_iload hx hb dX3_convertible_69 (lv_at hl 3 rfl) ?_
            obtain ⟨hi, hf⟩ := ck_some hf
            refine x_iald hx hb hE hP 2 rfl hi dX3_convertible_71 ?_
            refine lv_ishl hx hb dX3_convertible_72 ?_
            refine lv_ior hx hb dX3_convertible_73 ?_
            refine lv_ior hx hb dX3_convertible_74 ?_
            obtain ⟨v2_75, e_v2_75, hf⟩ := lt_some hf
            refine x_istore_n (v := v2_75) (lv' := [(2, .int v2_75), (0, .ref h), (3, .int v3), (4, .int v4)]) hx hb dX3_convertible_75 e_v2_75 rfl hl (by decide) rfl (fun ls hl => ?_)
            exact J76 v2_75 v4  H locs ls  hP hS (lv_sub hl [1, 0, 2, 3] rfl) hf
          refine lv_iload hx hb dX3_convertible_17 (lv_at hl 3 rfl) ?_
          refine lv_aload_n hx hb dX3_convertible_19 rfl (lv_at hl 0 rfl) ?_
          refine x_get hx hb hts u_X3_convertible_X3 hown hE hP 0 rfl rfl 2 (by decide) (hts (.fieldLink RX3 19 "DecreasingDiagrams$LabelledSystem" "steps" "I") (List.mem_of_getElem? (i := 2) rfl)) rfl dX3_convertible_20 ?_
          refine lv_icmp_ge (tgt := 82) hx hb dX3_convertible_23 (by decide) (fun c_23 => ?_) (fun c_23 => ?_)
          · have hf := it_pos c_23 hf
            exact J82 v2 v3  H locs ls  hP hS (lv_sub hl [0, 1, 2] rfl) hf
          · have hf := it_neg c_23 hf
            refine lv_iload_n hx hb dX3_convertible_26 rfl (lv_at hl 1 rfl) ?_
            refine lv_aload_n hx hb dX3_convertible_27 rfl (lv_at hl 0 rfl) ?_
            refine x_get hx hb hts u_X3_convertible_X3 hown hE hP 0 rfl rfl 3 (by decide) (hts (.fieldLink RX3 22 "DecreasingDiagrams$LabelledSystem" "sources" "[I") (List.mem_of_getElem? (i := 3) rfl)) rfl dX3_convertible_28 ?_
            refine lv_iload hx hb dX3_convertible_31 (lv_at hl 3 rfl) ?_
            obtain ⟨hi, hf⟩ := ck_some hf
            refine x_iald hx hb hE hP 1 rfl hi dX3_convertible_33 ?_
            obtain ⟨r_34, hr_34, hf⟩ := bd_some hf
            refine x_goi0 (ps := []) (x_runSN (As := [.int v2, .int (sources v4.toNatClampNeg)]) (rest := []) (ps := []) ⟨hx, hb, hml, hown, hts⟩ (k_X11_isIn l D G fu v2 (sources v4.toNatClampNeg) r_34 hr_34) ⟨va_cnB 2 hts gX3_convertible_X11_isIn_n44 rfl rfl rfl (hE.2 (.methodLinkNest RX3 44 yX11_isIn RX11) (List.mem_of_getElem? (i := 70) rfl)) (hts (.initialized RX11) (List.mem_of_getElem? (i := 6) rfl)) (by decide +kernel) ⟨Nat.le_of_ble_eq_true rfl, Nat.le_of_ble_eq_true rfl⟩, (hts (.static yX11_isIn) (List.mem_of_getElem? (i := 5) rfl)), trivial⟩ hE hP hN rfl (by decide) rfl hl.1 (Nat.le_of_ble_eq_true rfl) dX3_convertible_34 ⟨Nat.zero_le _, Nat.zero_le _⟩) hP hN hS rfl (fun H locs hP hS => ?_)
            refine lv_if_ne (tgt := 54) hx hb dX3_convertible_37 (by decide) (fun c_37 => ?_) (fun c_37 => ?_)
            · have hf := it_pos c_37 hf
              exact J54 v2 v4  H locs ls  hP hS (lv_sub hl [0, 1, 2, 3] rfl) hf
            · have hf := it_neg (fun h => h c_37) hf
              refine lv_iload_n hx hb dX3_convertible_40 rfl (lv_at hl 1 rfl) ?_
              refine lv_aload_n hx hb dX3_convertible_41 rfl (lv_at hl 0 rfl) ?_
              refine x_get hx hb hts u_X3_convertible_X3 hown hE hP 0 rfl rfl 4 (by decide) (hts (.fieldLink RX3 25 "DecreasingDiagrams$LabelledSystem" "targets" "[I") (List.mem_of_getElem? (i := 4) rfl)) rfl dX3_convertible_42 ?_
              refine lv_iload hx hb dX3_convertible_45 (lv_at hl 3 rfl) ?_
              obtain ⟨hi, hf⟩ := ck_some hf
              refine x_iald hx hb hE hP 2 rfl hi dX3_convertible_47 ?_
              obtain ⟨r_48, hr_48, hf⟩ := bd_some hf
              refine x_goi0 (ps := []) (x_runSN (As := [.int v2, .int (targets v4.toNatClampNeg)]) (rest := []) (ps := []) ⟨hx, hb, hml, hown, hts⟩ (k_X11_isIn l D G fu v2 (targets v4.toNatClampNeg) r_48 hr_48) ⟨va_cnB 2 hts gX3_convertible_X11_isIn_n44 rfl rfl rfl (hE.2 (.methodLinkNest RX3 44 yX11_isIn RX11) (List.mem_of_getElem? (i := 70) rfl)) (hts (.initialized RX11) (List.mem_of_getElem? (i := 6) rfl)) (by decide +kernel) ⟨Nat.le_of_ble_eq_true rfl, Nat.le_of_ble_eq_true rfl⟩, (hts (.static yX11_isIn) (List.mem_of_getElem? (i := 5) rfl)), trivial⟩ hE hP hN rfl (by decide) rfl hl.1 (Nat.le_of_ble_eq_true rfl) dX3_convertible_48 ⟨Nat.zero_le _, Nat.zero_le _⟩) hP hN hS rfl (fun H locs hP hS => ?_)
              refine lv_if_eq (tgt := 76) hx hb dX3_convertible_51 (by decide) (fun c_51 => ?_) (fun c_51 => ?_)
              · have hf := it_pos c_51 hf
                exact J76 v2 v4  H locs ls  hP hS (lv_sub hl [0, 1, 2, 3] rfl) hf
              · have hf := it_neg c_51 hf
                exact J54 v2 v4  H locs ls  hP hS (lv_sub hl [0, 1, 2, 3] rfl) hf
      refine lv_iload_n hx hb dX3_convertible_6 rfl (lv_at hl 2 rfl) ?_
      refine lv_aload_n hx hb dX3_convertible_7 rfl (lv_at hl 0 rfl) ?_
      refine x_get hx hb hts u_X3_convertible_X3 hown hE hP 0 rfl rfl 0 (by decide) (hts (.fieldLink RX3 9 "DecreasingDiagrams$LabelledSystem" "objects" "I") (List.mem_of_getElem? (i := 1) rfl)) rfl dX3_convertible_8 ?_
      refine lv_icmp_ge (tgt := 88) hx hb dX3_convertible_11 (by decide) (fun c_11 => ?_) (fun c_11 => ?_)
      · have hf := it_pos c_11 hf
        refine lv_iload_n hx hb dX3_convertible_88 rfl (lv_at hl 1 rfl) ?_
        have hf := Option.some.inj hf
        rewrite [← hQ, ← hf]
        exact x_iret hx hb hr hlocks hP hS dX3_convertible_89
      · have hf := it_neg c_11 hf
        refine lv_iconst (v := 0) hx hb dX3_convertible_14 (by decide) ?_
        obtain ⟨v4_15, e_v4_15, hf⟩ := lt_some hf
        refine x_istore (v := v4_15) (lv' := [(4, .int v4_15), (0, .ref h), (2, .int v2), (3, .int v3)]) hx hb dX3_convertible_15 e_v4_15 hl (by decide) rfl (fun ls hl => ?_)
        exact L17 v3   fu v2 v4_15 H locs ls hP hS (lv_sub hl [1, 2, 3, 0] rfl) hf
  refine lv_iconst (v := 1) hx hb dX3_convertible_0 (by decide) ?_
  refine lv_iload_n hx hb dX3_convertible_1 rfl (lv_at hl 1 rfl) ?_
  refine lv_ishl hx hb dX3_convertible_2 ?_
  obtain ⟨v2_3, e_v2_3, hf⟩ := lt_some hf
  refine x_istore_n (v := v2_3) (lv' := [(2, .int v2_3), (0, .ref h), (1, .int v1)]) hx hb dX3_convertible_3 e_v2_3 rfl hl (by decide) rfl (fun ls hl => ?_)
  refine lv_iconst (v := 0) hx hb dX3_convertible_4 (by decide) ?_
  obtain ⟨v3_5, e_v3_5, hf⟩ := lt_some hf
  refine x_istore_n (v := v3_5) (lv' := [(3, .int v3_5), (2, .int v2_3), (0, .ref h), (1, .int v1)]) hx hb dX3_convertible_5 e_v3_5 rfl hl (by decide) rfl (fun ls hl => ?_)
  exact L6    fu v2_3 v3_5 H locs ls hP hS (lv_sub hl [2, 1, 0] rfl) hf
