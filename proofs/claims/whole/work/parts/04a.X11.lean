def f_X11_isLabel (v0 : Int32) : Option (Int32) :=
  if v0 < 0 then (some 0) else (if 8 ≤ v0 then (some 0) else (some 1))
set_option maxHeartbeats 4000000 in
set_option maxRecDepth 100000 in
theorem k_X11_isLabel (l : Launch) (D : va_G) (G : Nat → ClassId)    (v0 : Int32) (out : Int32) (hf : f_X11_isLabel v0 = some out) : xMet l yX11_isLabel wsX11_isLabel (rM 0 0) D G [.int v0] [] (xQi D [] out) := by
  refine x_ent (cc := cX11_isLabel) (maxL := 1) (by decide) rfl (Nat.le_of_ble_eq_true rfl) ?_
  intro p e s m below meth c aa ls args Q hQ hx hb hr hml hown hts hlocks hE hN hP hl hS
  have hown : s.vm.findClass RX11 = some m.cls := hown
  have hl : lv_has ls 1 [(0, .int v0)] := hl
  rw [f_X11_isLabel] at hf
  obtain ⟨H, hH⟩ : ∃ H : Heap, H = s.heap := ⟨_, rfl⟩
  obtain ⟨locs, hlocs⟩ : ∃ locs : List Loc, locs = [] := ⟨_, rfl⟩
  have hP : xW D aa [] H := by rw [hH]; exact hP
  have hS : va_S (xA aa) s.heap H locs := by rw [hH, hlocs]; exact hS
  suffices GO : W p l e (rM 0 0) s m args below meth c H locs 0 0 Q (F0 m 0 ls []) by
    rw [hH, hlocs] at GO
    exact GO
  clear hH hlocs
  refine lv_iload_n hx hb dX11_isLabel_0 rfl (lv_at hl 0 rfl) ?_
  refine lv_if_lt (tgt := 14) hx hb dX11_isLabel_1 (by decide) (fun c_1 => ?_) (fun c_1 => ?_)
  · have hf := it_pos c_1 hf
    refine lv_iconst (v := 0) hx hb dX11_isLabel_14 (by decide) ?_
    have hf := Option.some.inj hf
    subst hf
    subst hQ
    exact x_zret hx hb hr hlocks rfl hP hS dX11_isLabel_15
  · have hf := it_neg c_1 hf
    refine lv_iload_n hx hb dX11_isLabel_4 rfl (lv_at hl 0 rfl) ?_
    refine lv_bipush (v := 8) hx hb dX11_isLabel_5 (by decide) ?_
    refine lv_icmp_ge (tgt := 14) hx hb dX11_isLabel_7 (by decide) (fun c_7 => ?_) (fun c_7 => ?_)
    · have hf := it_pos c_7 hf
      refine lv_iconst (v := 0) hx hb dX11_isLabel_14 (by decide) ?_
      have hf := Option.some.inj hf
      subst hf
      subst hQ
      exact x_zret hx hb hr hlocks rfl hP hS dX11_isLabel_15
    · have hf := it_neg c_7 hf
      refine lv_iconst (v := 1) hx hb dX11_isLabel_10 (by decide) ?_
      refine lv_goto (tgt := 15) hx hb dX11_isLabel_11 (by decide) ?_
      have hf := Option.some.inj hf
      subst hf
      subst hQ
      exact x_zret hx hb hr hlocks rfl hP hS dX11_isLabel_15

def f_X11_isIn (v0 : Int32) (v1 : Int32) : Option (Int32) :=
  if ((v0 >>> (v1 &&& 31)) &&& 1) = 0 then (some 0) else (some 1)
set_option maxHeartbeats 4000000 in
set_option maxRecDepth 100000 in
theorem k_X11_isIn (l : Launch) (D : va_G) (G : Nat → ClassId)    (v0 : Int32) (v1 : Int32) (out : Int32) (hf : f_X11_isIn v0 v1 = some out) : xMet l yX11_isIn wsX11_isIn (rM 0 0) D G [.int v0, .int v1] [] (xQi D [] out) := by
  refine x_ent (cc := cX11_isIn) (maxL := 2) (by decide) rfl (Nat.le_of_ble_eq_true rfl) ?_
  intro p e s m below meth c aa ls args Q hQ hx hb hr hml hown hts hlocks hE hN hP hl hS
  have hown : s.vm.findClass RX11 = some m.cls := hown
  have hl : lv_has ls 2 [(0, .int v0), (1, .int v1)] := hl
  rw [f_X11_isIn] at hf
  obtain ⟨H, hH⟩ : ∃ H : Heap, H = s.heap := ⟨_, rfl⟩
  obtain ⟨locs, hlocs⟩ : ∃ locs : List Loc, locs = [] := ⟨_, rfl⟩
  have hP : xW D aa [] H := by rw [hH]; exact hP
  have hS : va_S (xA aa) s.heap H locs := by rw [hH, hlocs]; exact hS
  suffices GO : W p l e (rM 0 0) s m args below meth c H locs 0 0 Q (F0 m 0 ls []) by
    rw [hH, hlocs] at GO
    exact GO
  clear hH hlocs
  refine lv_iload_n hx hb dX11_isIn_0 rfl (lv_at hl 0 rfl) ?_
  refine lv_iload_n hx hb dX11_isIn_1 rfl (lv_at hl 1 rfl) ?_
  refine lv_ishr hx hb dX11_isIn_2 ?_
  refine lv_iconst (v := 1) hx hb dX11_isIn_3 (by decide) ?_
  refine lv_iand hx hb dX11_isIn_4 ?_
  refine lv_if_eq (tgt := 12) hx hb dX11_isIn_5 (by decide) (fun c_5 => ?_) (fun c_5 => ?_)
  · have hf := it_pos c_5 hf
    refine lv_iconst (v := 0) hx hb dX11_isIn_12 (by decide) ?_
    have hf := Option.some.inj hf
    subst hf
    subst hQ
    exact x_zret hx hb hr hlocks rfl hP hS dX11_isIn_13
  · have hf := it_neg c_5 hf
    refine lv_iconst (v := 1) hx hb dX11_isIn_8 (by decide) ?_
    refine lv_goto (tgt := 13) hx hb dX11_isIn_9 (by decide) ?_
    have hf := Option.some.inj hf
    subst hf
    subst hQ
    exact x_zret hx hb hr hlocks rfl hP hS dX11_isIn_13

set_option maxRecDepth 20000 in
theorem u_X11_addGreater_X11 : ∀ w ∈ wsX110, w ∈ wsX11_addGreater := xx_pl _ [28, 29, 30, 31, 32, 33, 34, 35, 36, 37, 38, 39, 40, 41, 42, 43] (by decide +kernel)
def f_X11_addGreater (order_below : (Nat → Int32)) (order_pairs : (Nat → Int32)) (v1 : Int32) (v2 : Int32) : Option (Int32 × (Nat → Int32) × (Nat → Int32)) :=
  (f_X11_isLabel v1).bind (fun r_1 => if r_1 = 0 then (some ((-1), order_below, order_pairs)) else ((f_X11_isLabel v2).bind (fun r_8 => if ¬ r_8 = 0 then (if v1 = v2 then (some ((-4), order_below, order_pairs)) else ((f_X2_isAbove order_below v2 v1).bind (fun r_27 => if r_27 = 0 then ((f_X2_hasPair order_pairs v1 v2).bind (fun r_42 => if r_42 = 0 then ((f_X2_put order_below order_pairs v1 v2).bind (fun r_56 => some (1, r_56.1, r_56.2))) else (some (0, order_below, order_pairs)))) else (some ((-4), order_below, order_pairs))))) else (some ((-1), order_below, order_pairs)))))
set_option maxHeartbeats 4000000 in
set_option maxRecDepth 100000 in
theorem k_X11_addGreater (l : Launch) (D : va_G) (G : Nat → ClassId) (h : Nat) (h_order : Nat) (h_system : Nat) (h_rules : Nat) (h_savedOrder : Nat) (h_savedSystem : Nat) (h_savedRules : Nat) (h_peaks : Nat) (h_leftPaths : Nat) (h_rightPaths : Nat) (h_text : Nat) (h_labellings : Nat) (h_input : Nat) (h_explorer : Nat) (h_arrays : Nat) (a_reach : Nat) (a_order_pairs : Nat) (a_order_below : Nat) (snapshotSaved : Int32) (order_below : (Nat → Int32)) (order_pairs : (Nat → Int32))  (v1 : Int32) (v2 : Int32) (out : Int32 × (Nat → Int32) × (Nat → Int32)) (hf : f_X11_addGreater order_below order_pairs v1 v2 = some out) : xMet l yX11_addGreater wsX11_addGreater (rM 3 70) D G [.ref h, .int v1, .int v2] [[(h, .inr (10, [.ref h_order, .ref h_system, .ref h_rules, .ref h_savedOrder, .ref h_savedSystem, .ref h_savedRules, .int snapshotSaved, .ref h_peaks, .ref h_leftPaths, .ref h_rightPaths, .ref h_text, .ref h_labellings, .ref h_input, .ref h_explorer, .ref h_arrays, .ref a_reach]))], [(h_order, .inr (2, [.ref a_order_pairs, .ref a_order_below]))], [(a_order_below, .inl (G 0, 8, .inl order_below))], [(a_order_pairs, .inl (G 0, 8, .inl order_pairs))]] (xQi D [[(h, .inr (10, [.ref h_order, .ref h_system, .ref h_rules, .ref h_savedOrder, .ref h_savedSystem, .ref h_savedRules, .int snapshotSaved, .ref h_peaks, .ref h_leftPaths, .ref h_rightPaths, .ref h_text, .ref h_labellings, .ref h_input, .ref h_explorer, .ref h_arrays, .ref a_reach]))], [(h_order, .inr (2, [.ref a_order_pairs, .ref a_order_below]))], [(a_order_below, .inl (G 0, 8, .inl out.2.1))], [(a_order_pairs, .inl (G 0, 8, .inl out.2.2))]] out.1) := by
  refine x_ent (cc := cX11_addGreater) (maxL := 3) (by decide) rfl (Nat.le_of_ble_eq_true rfl) ?_
  intro p e s m below meth c aa ls args Q hQ hx hb hr hml hown hts hlocks hE hN hP hl hS
  have hown : s.vm.findClass RX11 = some m.cls := hown
  have hl : lv_has ls 3 [(0, .ref h), (1, .int v1), (2, .int v2)] := hl
  rw [f_X11_addGreater] at hf
  obtain ⟨H, hH⟩ : ∃ H : Heap, H = s.heap := ⟨_, rfl⟩
  obtain ⟨locs, hlocs⟩ : ∃ locs : List Loc, locs = [] := ⟨_, rfl⟩
  have hP : xW D aa [[(h, .inr (10, [.ref h_order, .ref h_system, .ref h_rules, .ref h_savedOrder, .ref h_savedSystem, .ref h_savedRules, .int snapshotSaved, .ref h_peaks, .ref h_leftPaths, .ref h_rightPaths, .ref h_text, .ref h_labellings, .ref h_input, .ref h_explorer, .ref h_arrays, .ref a_reach]))], [(h_order, .inr (2, [.ref a_order_pairs, .ref a_order_below]))], [(a_order_below, .inl (G 0, 8, .inl order_below))], [(a_order_pairs, .inl (G 0, 8, .inl order_pairs))]] H := by rw [hH]; exact hP
  have hS : va_S (xA aa) s.heap H locs := by rw [hH, hlocs]; exact hS
  suffices GO : W p l e (rM 3 70) s m args below meth c H locs 0 0 Q (F0 m 0 ls []) by
    rw [hH, hlocs] at GO
    exact GO
  clear hH hlocs
  refine lv_iload_n hx hb dX11_addGreater_0 rfl (lv_at hl 1 rfl) ?_
  obtain ⟨r_1, hr_1, hf⟩ := bd_some hf
  refine x_goi (ps := []) (I' := [[(h, .inr (10, [.ref h_order, .ref h_system, .ref h_rules, .ref h_savedOrder, .ref h_savedSystem, .ref h_savedRules, .int snapshotSaved, .ref h_peaks, .ref h_leftPaths, .ref h_rightPaths, .ref h_text, .ref h_labellings, .ref h_input, .ref h_explorer, .ref h_arrays, .ref a_reach]))], [(h_order, .inr (2, [.ref a_order_pairs, .ref a_order_below]))], [(a_order_below, .inl (G 0, 8, .inl order_below))], [(a_order_pairs, .inl (G 0, 8, .inl order_pairs))]]) (x_runS (As := [.int v1]) (rest := []) (ps := []) ⟨hx, hb, hml, hown, hts⟩ (k_X11_isLabel l D G v1 r_1 hr_1) (va_cwS 1 hts gX11_addGreater_X11_isLabel rfl rfl rfl (by decide +kernel) ⟨Nat.le_of_ble_eq_true rfl, Nat.le_of_ble_eq_true rfl⟩) hE hP hN rfl (by decide) rfl hl.1 (Nat.le_of_ble_eq_true rfl) dX11_addGreater_1 ⟨Nat.zero_le _, Nat.zero_le _⟩) hP hN hS rfl rfl (fun H locs hP hS => ?_)
  refine lv_if_eq (tgt := 14) hx hb dX11_addGreater_4 (by decide) (fun c_4 => ?_) (fun c_4 => ?_)
  · have hf := it_pos c_4 hf
    refine lv_iconst (v := -1) hx hb dX11_addGreater_14 (by decide) ?_
    have hf := Option.some.inj hf
    subst hf
    subst hQ
    exact x_iret hx hb hr hlocks hP hS dX11_addGreater_15
  · have hf := it_neg c_4 hf
    refine lv_iload_n hx hb dX11_addGreater_7 rfl (lv_at hl 2 rfl) ?_
    obtain ⟨r_8, hr_8, hf⟩ := bd_some hf
    refine x_goi (ps := []) (I' := [[(h, .inr (10, [.ref h_order, .ref h_system, .ref h_rules, .ref h_savedOrder, .ref h_savedSystem, .ref h_savedRules, .int snapshotSaved, .ref h_peaks, .ref h_leftPaths, .ref h_rightPaths, .ref h_text, .ref h_labellings, .ref h_input, .ref h_explorer, .ref h_arrays, .ref a_reach]))], [(h_order, .inr (2, [.ref a_order_pairs, .ref a_order_below]))], [(a_order_below, .inl (G 0, 8, .inl order_below))], [(a_order_pairs, .inl (G 0, 8, .inl order_pairs))]]) (x_runS (As := [.int v2]) (rest := []) (ps := []) ⟨hx, hb, hml, hown, hts⟩ (k_X11_isLabel l D G v2 r_8 hr_8) (va_cwS 1 hts gX11_addGreater_X11_isLabel rfl rfl rfl (by decide +kernel) ⟨Nat.le_of_ble_eq_true rfl, Nat.le_of_ble_eq_true rfl⟩) hE hP hN rfl (by decide) rfl hl.1 (Nat.le_of_ble_eq_true rfl) dX11_addGreater_8 ⟨Nat.zero_le _, Nat.zero_le _⟩) hP hN hS rfl rfl (fun H locs hP hS => ?_)
    refine lv_if_ne (tgt := 16) hx hb dX11_addGreater_11 (by decide) (fun c_11 => ?_) (fun c_11 => ?_)
    · have hf := it_pos c_11 hf
      refine lv_iload_n hx hb dX11_addGreater_16 rfl (lv_at hl 1 rfl) ?_
      refine lv_iload_n hx hb dX11_addGreater_17 rfl (lv_at hl 2 rfl) ?_
      refine lv_icmp_eq (tgt := 33) hx hb dX11_addGreater_18 (by decide) (fun c_18 => ?_) (fun c_18 => ?_)
      · have hf := it_pos c_18 hf
        refine lv_bipush (v := -4) hx hb dX11_addGreater_33 (by decide) ?_
        have hf := Option.some.inj hf
        subst hf
        subst hQ
        exact x_iret hx hb hr hlocks hP hS dX11_addGreater_35
      · have hf := it_neg c_18 hf
        refine lv_aload_n hx hb dX11_addGreater_21 rfl (lv_at hl 0 rfl) ?_
        refine x_get hx hb hts u_X11_addGreater_X11 hown hE hP 0 rfl rfl 0 (by decide) (hts (.fieldLink RX11 12 "DecreasingDiagrams" "order" "LDecreasingDiagrams$LabelOrder;") (List.mem_of_getElem? (i := 1) rfl)) rfl dX11_addGreater_22 ?_
        refine lv_iload_n hx hb dX11_addGreater_25 rfl (lv_at hl 2 rfl) ?_
        refine lv_iload_n hx hb dX11_addGreater_26 rfl (lv_at hl 1 rfl) ?_
        obtain ⟨r_27, hr_27, hf⟩ := bd_some hf
        refine x_goi (ps := [1, 2]) (I' := [[(h, .inr (10, [.ref h_order, .ref h_system, .ref h_rules, .ref h_savedOrder, .ref h_savedSystem, .ref h_savedRules, .int snapshotSaved, .ref h_peaks, .ref h_leftPaths, .ref h_rightPaths, .ref h_text, .ref h_labellings, .ref h_input, .ref h_explorer, .ref h_arrays, .ref a_reach]))], [(h_order, .inr (2, [.ref a_order_pairs, .ref a_order_below]))], [(a_order_below, .inl (G 0, 8, .inl order_below))], [(a_order_pairs, .inl (G 0, 8, .inl order_pairs))]]) (x_runVN (As := [.int v2, .int v1]) (rest := []) (ps := [1, 2]) ⟨hx, hb, hml, hown, hts⟩ (k_X2_isAbove l D G h_order a_order_pairs a_order_below order_below v2 v1 r_27 hr_27) ⟨va_cnB 2 hts gX11_addGreater_X2_isAbove_n103 rfl rfl rfl (hE.2 (.methodLinkNest RX11 103 yX2_isAbove RX11) (List.mem_of_getElem? (i := 53) rfl)) (hts (.initialized RX2) (List.mem_of_getElem? (i := 7) rfl)) (by decide +kernel) ⟨Nat.le_of_ble_eq_true rfl, Nat.le_of_ble_eq_true rfl⟩, (hts (.instanceMethod yX2_isAbove) (List.mem_of_getElem? (i := 6) rfl)), (hts (.selects RX2 yX2_isAbove yX2_isAbove) (List.mem_of_getElem? (i := 8) rfl))⟩ hE hP hN rfl (by decide) 1 rfl rfl rfl hl.1 (Nat.le_of_ble_eq_true rfl) dX11_addGreater_27 ⟨Nat.zero_le _, Nat.zero_le _⟩) hP hN hS rfl rfl (fun H locs hP hS => ?_)
        refine lv_if_eq (tgt := 36) hx hb dX11_addGreater_30 (by decide) (fun c_30 => ?_) (fun c_30 => ?_)
        · have hf := it_pos c_30 hf
          refine lv_aload_n hx hb dX11_addGreater_36 rfl (lv_at hl 0 rfl) ?_
          refine x_get hx hb hts u_X11_addGreater_X11 hown hE hP 0 rfl rfl 0 (by decide) (hts (.fieldLink RX11 12 "DecreasingDiagrams" "order" "LDecreasingDiagrams$LabelOrder;") (List.mem_of_getElem? (i := 1) rfl)) rfl dX11_addGreater_37 ?_
          refine lv_iload_n hx hb dX11_addGreater_40 rfl (lv_at hl 1 rfl) ?_
          refine lv_iload_n hx hb dX11_addGreater_41 rfl (lv_at hl 2 rfl) ?_
          obtain ⟨r_42, hr_42, hf⟩ := bd_some hf
          refine x_goi (ps := [1, 3]) (I' := [[(h, .inr (10, [.ref h_order, .ref h_system, .ref h_rules, .ref h_savedOrder, .ref h_savedSystem, .ref h_savedRules, .int snapshotSaved, .ref h_peaks, .ref h_leftPaths, .ref h_rightPaths, .ref h_text, .ref h_labellings, .ref h_input, .ref h_explorer, .ref h_arrays, .ref a_reach]))], [(h_order, .inr (2, [.ref a_order_pairs, .ref a_order_below]))], [(a_order_below, .inl (G 0, 8, .inl order_below))], [(a_order_pairs, .inl (G 0, 8, .inl order_pairs))]]) (x_runVN (As := [.int v1, .int v2]) (rest := []) (ps := [1, 3]) ⟨hx, hb, hml, hown, hts⟩ (k_X2_hasPair l D G h_order a_order_pairs a_order_below order_pairs v1 v2 r_42 hr_42) ⟨va_cnB 2 hts gX11_addGreater_X2_hasPair_n107 rfl rfl rfl (hE.2 (.methodLinkNest RX11 107 yX2_hasPair RX11) (List.mem_of_getElem? (i := 55) rfl)) (hts (.initialized RX2) (List.mem_of_getElem? (i := 7) rfl)) (by decide +kernel) ⟨Nat.le_of_ble_eq_true rfl, Nat.le_of_ble_eq_true rfl⟩, (hts (.instanceMethod yX2_hasPair) (List.mem_of_getElem? (i := 13) rfl)), (hts (.selects RX2 yX2_hasPair yX2_hasPair) (List.mem_of_getElem? (i := 14) rfl))⟩ hE hP hN rfl (by decide) 1 rfl rfl rfl hl.1 (Nat.le_of_ble_eq_true rfl) dX11_addGreater_42 ⟨Nat.zero_le _, Nat.zero_le _⟩) hP hN hS rfl rfl (fun H locs hP hS => ?_)
          refine lv_if_eq (tgt := 50) hx hb dX11_addGreater_45 (by decide) (fun c_45 => ?_) (fun c_45 => ?_)
          · have hf := it_pos c_45 hf
            refine lv_aload_n hx hb dX11_addGreater_50 rfl (lv_at hl 0 rfl) ?_
            refine x_get hx hb hts u_X11_addGreater_X11 hown hE hP 0 rfl rfl 0 (by decide) (hts (.fieldLink RX11 12 "DecreasingDiagrams" "order" "LDecreasingDiagrams$LabelOrder;") (List.mem_of_getElem? (i := 1) rfl)) rfl dX11_addGreater_51 ?_
            refine lv_iload_n hx hb dX11_addGreater_54 rfl (lv_at hl 1 rfl) ?_
            refine lv_iload_n hx hb dX11_addGreater_55 rfl (lv_at hl 2 rfl) ?_
            obtain ⟨r_56, hr_56, hf⟩ := bd_some hf
            refine x_gov (ps := [1, 2, 3]) (I' := [[(h, .inr (10, [.ref h_order, .ref h_system, .ref h_rules, .ref h_savedOrder, .ref h_savedSystem, .ref h_savedRules, .int snapshotSaved, .ref h_peaks, .ref h_leftPaths, .ref h_rightPaths, .ref h_text, .ref h_labellings, .ref h_input, .ref h_explorer, .ref h_arrays, .ref a_reach]))], [(h_order, .inr (2, [.ref a_order_pairs, .ref a_order_below]))], [(a_order_below, .inl (G 0, 8, .inl r_56.1))], [(a_order_pairs, .inl (G 0, 8, .inl r_56.2))]]) (x_runVN (As := [.int v1, .int v2]) (rest := []) (ps := [1, 2, 3]) ⟨hx, hb, hml, hown, hts⟩ (k_X2_put l D G h_order a_order_pairs a_order_below order_below order_pairs v1 v2 r_56 hr_56) ⟨va_cnB 2 hts gX11_addGreater_X2_put_n110 rfl rfl rfl (hE.2 (.methodLinkNest RX11 110 yX2_put RX11) (List.mem_of_getElem? (i := 56) rfl)) (hts (.initialized RX2) (List.mem_of_getElem? (i := 7) rfl)) (by decide +kernel) ⟨Nat.le_of_ble_eq_true rfl, Nat.le_of_ble_eq_true rfl⟩, (hts (.instanceMethod yX2_put) (List.mem_of_getElem? (i := 17) rfl)), (hts (.selects RX2 yX2_put yX2_put) (List.mem_of_getElem? (i := 18) rfl))⟩ hE hP hN rfl (by decide) 1 rfl rfl rfl hl.1 (Nat.le_of_ble_eq_true rfl) dX11_addGreater_56 ⟨Nat.zero_le _, Nat.zero_le _⟩) hP hN hS rfl rfl (fun H locs hP hS => ?_)
            refine lv_iconst (v := 1) hx hb dX11_addGreater_59 (by decide) ?_
            have hf := Option.some.inj hf
            subst hf
            subst hQ
            exact x_iret hx hb hr hlocks hP hS dX11_addGreater_60
          · have hf := it_neg c_45 hf
            refine lv_iconst (v := 0) hx hb dX11_addGreater_48 (by decide) ?_
            have hf := Option.some.inj hf
            subst hf
            subst hQ
            exact x_iret hx hb hr hlocks hP hS dX11_addGreater_49
        · have hf := it_neg c_30 hf
          refine lv_bipush (v := -4) hx hb dX11_addGreater_33 (by decide) ?_
          have hf := Option.some.inj hf
          subst hf
          subst hQ
          exact x_iret hx hb hr hlocks hP hS dX11_addGreater_35
    · have hf := it_neg (fun h => h c_11) hf
      refine lv_iconst (v := -1) hx hb dX11_addGreater_14 (by decide) ?_
      have hf := Option.some.inj hf
      subst hf
      subst hQ
      exact x_iret hx hb hr hlocks hP hS dX11_addGreater_15

set_option maxRecDepth 20000 in
theorem u_X11_addObject_X11 : ∀ w ∈ wsX110, w ∈ wsX11_addObject := xx_pl _ [8, 9, 10, 11, 12, 13, 14, 15, 16, 17, 18, 19, 20, 21, 22, 23] (by decide +kernel)
def f_X11_addObject (system_objects : Int32) (system_words : (Nat → Int32)) : Option (Int32 × Int32 × (Nat → Int32)) :=
  (f_X3_appendObject system_objects system_words (-2)).bind (fun r_6 => some (r_6.1, r_6.2.1, r_6.2.2))
set_option maxHeartbeats 4000000 in
set_option maxRecDepth 100000 in
theorem k_X11_addObject (l : Launch) (D : va_G) (G : Nat → ClassId) (h : Nat) (h_order : Nat) (h_system : Nat) (h_rules : Nat) (h_savedOrder : Nat) (h_savedSystem : Nat) (h_savedRules : Nat) (h_peaks : Nat) (h_leftPaths : Nat) (h_rightPaths : Nat) (h_text : Nat) (h_labellings : Nat) (h_input : Nat) (h_explorer : Nat) (h_arrays : Nat) (a_reach : Nat) (a_system_words : Nat) (a_system_sources : Nat) (a_system_targets : Nat) (a_system_labels : Nat) (snapshotSaved : Int32) (system_objects : Int32) (system_steps : Int32) (system_words : (Nat → Int32))   (out : Int32 × Int32 × (Nat → Int32)) (hf : f_X11_addObject system_objects system_words = some out) : xMet l yX11_addObject wsX11_addObject (rM 1 21) D G [.ref h] [[(h, .inr (10, [.ref h_order, .ref h_system, .ref h_rules, .ref h_savedOrder, .ref h_savedSystem, .ref h_savedRules, .int snapshotSaved, .ref h_peaks, .ref h_leftPaths, .ref h_rightPaths, .ref h_text, .ref h_labellings, .ref h_input, .ref h_explorer, .ref h_arrays, .ref a_reach]))], [(h_system, .inr (3, [.int system_objects, .ref a_system_words, .int system_steps, .ref a_system_sources, .ref a_system_targets, .ref a_system_labels]))], [(a_system_words, .inl (G 0, 16, .inl system_words))]] (xQi D [[(h, .inr (10, [.ref h_order, .ref h_system, .ref h_rules, .ref h_savedOrder, .ref h_savedSystem, .ref h_savedRules, .int snapshotSaved, .ref h_peaks, .ref h_leftPaths, .ref h_rightPaths, .ref h_text, .ref h_labellings, .ref h_input, .ref h_explorer, .ref h_arrays, .ref a_reach]))], [(h_system, .inr (3, [.int out.2.1, .ref a_system_words, .int system_steps, .ref a_system_sources, .ref a_system_targets, .ref a_system_labels]))], [(a_system_words, .inl (G 0, 16, .inl out.2.2))]] out.1) := by
  refine x_ent (cc := cX11_addObject) (maxL := 1) (by decide) rfl (Nat.le_of_ble_eq_true rfl) ?_
  intro p e s m below meth c aa ls args Q hQ hx hb hr hml hown hts hlocks hE hN hP hl hS
  have hown : s.vm.findClass RX11 = some m.cls := hown
  have hl : lv_has ls 1 [(0, .ref h)] := hl
  rw [f_X11_addObject] at hf
  obtain ⟨H, hH⟩ : ∃ H : Heap, H = s.heap := ⟨_, rfl⟩
  obtain ⟨locs, hlocs⟩ : ∃ locs : List Loc, locs = [] := ⟨_, rfl⟩
  have hP : xW D aa [[(h, .inr (10, [.ref h_order, .ref h_system, .ref h_rules, .ref h_savedOrder, .ref h_savedSystem, .ref h_savedRules, .int snapshotSaved, .ref h_peaks, .ref h_leftPaths, .ref h_rightPaths, .ref h_text, .ref h_labellings, .ref h_input, .ref h_explorer, .ref h_arrays, .ref a_reach]))], [(h_system, .inr (3, [.int system_objects, .ref a_system_words, .int system_steps, .ref a_system_sources, .ref a_system_targets, .ref a_system_labels]))], [(a_system_words, .inl (G 0, 16, .inl system_words))]] H := by rw [hH]; exact hP
  have hS : va_S (xA aa) s.heap H locs := by rw [hH, hlocs]; exact hS
  suffices GO : W p l e (rM 1 21) s m args below meth c H locs 0 0 Q (F0 m 0 ls []) by
    rw [hH, hlocs] at GO
    exact GO
  clear hH hlocs
  refine lv_aload_n hx hb dX11_addObject_0 rfl (lv_at hl 0 rfl) ?_
  refine x_get hx hb hts u_X11_addObject_X11 hown hE hP 0 rfl rfl 1 (by decide) (hts (.fieldLink RX11 19 "DecreasingDiagrams" "system" "LDecreasingDiagrams$LabelledSystem;") (List.mem_of_getElem? (i := 1) rfl)) rfl dX11_addObject_1 ?_
  refine lv_bipush (v := -2) hx hb dX11_addObject_4 (by decide) ?_
  obtain ⟨r_6, hr_6, hf⟩ := bd_some hf
  refine x_goi (ps := [1, 2]) (I' := [[(h, .inr (10, [.ref h_order, .ref h_system, .ref h_rules, .ref h_savedOrder, .ref h_savedSystem, .ref h_savedRules, .int snapshotSaved, .ref h_peaks, .ref h_leftPaths, .ref h_rightPaths, .ref h_text, .ref h_labellings, .ref h_input, .ref h_explorer, .ref h_arrays, .ref a_reach]))], [(h_system, .inr (3, [.int r_6.2.1, .ref a_system_words, .int system_steps, .ref a_system_sources, .ref a_system_targets, .ref a_system_labels]))], [(a_system_words, .inl (G 0, 16, .inl r_6.2.2))]]) (x_runVN (As := [.int (-2)]) (rest := []) (ps := [1, 2]) ⟨hx, hb, hml, hown, hts⟩ (k_X3_appendObject l D G h_system a_system_words a_system_sources a_system_targets a_system_labels system_objects system_steps system_words (-2) r_6 hr_6) ⟨va_cnB 1 hts gX11_addObject_X3_appendObject_n124 rfl rfl rfl (hE.2 (.methodLinkNest RX11 124 yX3_appendObject RX11) (List.mem_of_getElem? (i := 60) rfl)) (hts (.initialized RX3) (List.mem_of_getElem? (i := 3) rfl)) (by decide +kernel) ⟨Nat.le_of_ble_eq_true rfl, Nat.le_of_ble_eq_true rfl⟩, (hts (.instanceMethod yX3_appendObject) (List.mem_of_getElem? (i := 2) rfl)), (hts (.selects RX3 yX3_appendObject yX3_appendObject) (List.mem_of_getElem? (i := 4) rfl))⟩ hE hP hN rfl (by decide) 1 rfl rfl rfl hl.1 (Nat.le_of_ble_eq_true rfl) dX11_addObject_6 ⟨Nat.zero_le _, Nat.zero_le _⟩) hP hN hS rfl rfl (fun H locs hP hS => ?_)
  have hf := Option.some.inj hf
  subst hf
  subst hQ
  exact x_iret hx hb hr hlocks hP hS dX11_addObject_9

set_option maxRecDepth 20000 in
theorem u_X11_addRule_X11 : ∀ w ∈ wsX110, w ∈ wsX11_addRule := xx_pl _ [28, 29, 30, 31, 32, 33, 34, 35, 36, 37, 38, 39, 40, 41, 42, 43] (by decide +kernel)
set_option maxRecDepth 20000 in
theorem u_X11_addRule_X1 : ∀ w ∈ wsX10, w ∈ wsX11_addRule := xx_pl _ [47, 48] (by decide +kernel)
set_option maxRecDepth 20000 in
theorem u_X11_addRule_X8 : ∀ w ∈ wsX80, w ∈ wsX11_addRule := xx_pl _ [44, 45, 46] (by decide +kernel)
def f_X11_addRule_J93  (t0 : Int32) (v1 : Int32) (v2 : Int32) (v3 : Int32) (v4 : Int32) (v5 : Int32) (input_length : Int32) (rules_count : Int32) (rules_lefts : (Nat → Int32)) (rules_rights : (Nat → Int32)) : Option (Int32 × Int32 × Int32 × (Nat → Int32) × (Nat → Int32)) :=
  lt t0 (fun v6_93 => (f_X1_clear).bind (fun r_99 => if ¬ v5 = 0 then (if v6_93 = 0 then (some ((-100) - v4, r_99, rules_count, rules_lefts, rules_rights)) else ((f_X8_append rules_count rules_lefts rules_rights v1 v3).bind (fun r_123 => some (r_123.1, r_99, r_123.2.1, r_123.2.2.1, r_123.2.2.2)))) else (some ((-100) - v2, r_99, rules_count, rules_lefts, rules_rights))))
def f_X11_addRule_J74  (t0 : Int32) (v1 : Int32) (v2 : Int32) (v3 : Int32) (v4 : Int32) (input_length : Int32) (rules_count : Int32) (rules_lefts : (Nat → Int32)) (rules_rights : (Nat → Int32)) : Option (Int32 × Int32 × Int32 × (Nat → Int32) × (Nat → Int32)) :=
  lt t0 (fun v5_74 => if ¬ v4 = input_length then (f_X11_addRule_J93 0 v1 v2 v3 v4 v5_74 input_length rules_count rules_lefts rules_rights) else (f_X11_addRule_J93 1 v1 v2 v3 v4 v5_74 input_length rules_count rules_lefts rules_rights))
def f_X11_addRule_J73  (v1 : Int32) (v2 : Int32) (v3 : Int32) (v4 : Int32) (input_length : Int32) (rules_count : Int32) (rules_lefts : (Nat → Int32)) (rules_rights : (Nat → Int32)) : Option (Int32 × Int32 × Int32 × (Nat → Int32) × (Nat → Int32)) :=
  f_X11_addRule_J74 0 v1 v2 v3 v4 input_length rules_count rules_lefts rules_rights
def f_X11_addRule (input_length : Int32) (rules_count : Int32) (input_bytes : (Nat → Int32)) (rules_lefts : (Nat → Int32)) (rules_rights : (Nat → Int32)) : Option (Int32 × Int32 × Int32 × (Nat → Int32) × (Nat → Int32)) :=
  if rules_count < 6 then ((f_X1_wordAt input_length input_bytes 0 4).bind (fun r_21 => lt r_21 (fun v1_24 => (f_X10_lengthOf v1_24).bind (fun r_26 => lt r_26 (fun v2_29 => (f_X1_wordAt input_length input_bytes (v2_29 + 1) 4).bind (fun r_38 => lt r_38 (fun v3_41 => (f_X10_lengthOf v3_41).bind (fun r_46 => lt ((v2_29 + 1) + r_46) (fun v4_50 => if v2_29 ≤ 0 then (f_X11_addRule_J73 v1_24 v2_29 v3_41 v4_50 input_length rules_count rules_lefts rules_rights) else ((f_X1_byteAt input_length input_bytes v2_29).bind (fun r_61 => if ¬ r_61 = 62 then (f_X11_addRule_J73 v1_24 v2_29 v3_41 v4_50 input_length rules_count rules_lefts rules_rights) else (f_X11_addRule_J74 1 v1_24 v2_29 v3_41 v4_50 input_length rules_count rules_lefts rules_rights)))))))))))) else (some ((-3), input_length, rules_count, rules_lefts, rules_rights))
set_option maxHeartbeats 4000000 in
set_option maxRecDepth 100000 in
theorem k_X11_addRule (l : Launch) (D : va_G) (G : Nat → ClassId) (h : Nat) (h_order : Nat) (h_system : Nat) (h_rules : Nat) (h_savedOrder : Nat) (h_savedSystem : Nat) (h_savedRules : Nat) (h_peaks : Nat) (h_leftPaths : Nat) (h_rightPaths : Nat) (h_text : Nat) (h_labellings : Nat) (h_input : Nat) (h_explorer : Nat) (h_arrays : Nat) (a_reach : Nat) (a_input_bytes : Nat) (a_rules_lefts : Nat) (a_rules_rights : Nat) (snapshotSaved : Int32) (input_length : Int32) (rules_count : Int32) (input_bytes : (Nat → Int32)) (rules_lefts : (Nat → Int32)) (rules_rights : (Nat → Int32))   (out : Int32 × Int32 × Int32 × (Nat → Int32) × (Nat → Int32)) (hf : f_X11_addRule input_length rules_count input_bytes rules_lefts rules_rights = some out) : xMet l yX11_addRule wsX11_addRule (rM 2 47) D G [.ref h] [[(h, .inr (10, [.ref h_order, .ref h_system, .ref h_rules, .ref h_savedOrder, .ref h_savedSystem, .ref h_savedRules, .int snapshotSaved, .ref h_peaks, .ref h_leftPaths, .ref h_rightPaths, .ref h_text, .ref h_labellings, .ref h_input, .ref h_explorer, .ref h_arrays, .ref a_reach]))], [(h_input, .inr (1, [.int input_length, .ref a_input_bytes]))], [(a_input_bytes, .inl (G 0, 20, .inl input_bytes))], [(h_rules, .inr (8, [.int rules_count, .ref a_rules_lefts, .ref a_rules_rights]))], [(a_rules_lefts, .inl (G 0, 6, .inl rules_lefts))], [(a_rules_rights, .inl (G 0, 6, .inl rules_rights))]] (xQi D [[(h, .inr (10, [.ref h_order, .ref h_system, .ref h_rules, .ref h_savedOrder, .ref h_savedSystem, .ref h_savedRules, .int snapshotSaved, .ref h_peaks, .ref h_leftPaths, .ref h_rightPaths, .ref h_text, .ref h_labellings, .ref h_input, .ref h_explorer, .ref h_arrays, .ref a_reach]))], [(h_input, .inr (1, [.int out.2.1, .ref a_input_bytes]))], [(a_input_bytes, .inl (G 0, 20, .inl input_bytes))], [(h_rules, .inr (8, [.int out.2.2.1, .ref a_rules_lefts, .ref a_rules_rights]))], [(a_rules_lefts, .inl (G 0, 6, .inl out.2.2.2.1))], [(a_rules_rights, .inl (G 0, 6, .inl out.2.2.2.2))]] out.1) := by
  refine x_ent (cc := cX11_addRule) (maxL := 7) (by decide) rfl (Nat.le_of_ble_eq_true rfl) ?_
  intro p e s m below meth c aa ls args Q hQ hx hb hr hml hown hts hlocks hE hN hP hl hS
  have hown : s.vm.findClass RX11 = some m.cls := hown
  have hl : lv_has ls 7 [(0, .ref h)] := hl
  have J93 : ∀ (t0 : Int32) (v1 : Int32) (v2 : Int32) (v3 : Int32) (v4 : Int32) (v5 : Int32) (input_length : Int32) (rules_count : Int32) (rules_lefts : (Nat → Int32)) (rules_rights : (Nat → Int32)) (H : Heap) (locs : List Loc) (ls : Array Slot), xW D aa [[(h, .inr (10, [.ref h_order, .ref h_system, .ref h_rules, .ref h_savedOrder, .ref h_savedSystem, .ref h_savedRules, .int snapshotSaved, .ref h_peaks, .ref h_leftPaths, .ref h_rightPaths, .ref h_text, .ref h_labellings, .ref h_input, .ref h_explorer, .ref h_arrays, .ref a_reach]))], [(h_input, .inr (1, [.int input_length, .ref a_input_bytes]))], [(a_input_bytes, .inl (G 0, 20, .inl input_bytes))], [(h_rules, .inr (8, [.int rules_count, .ref a_rules_lefts, .ref a_rules_rights]))], [(a_rules_lefts, .inl (G 0, 6, .inl rules_lefts))], [(a_rules_rights, .inl (G 0, 6, .inl rules_rights))]] H → va_S (xA aa) s.heap H locs → lv_has ls 7 [(0, .ref h), (1, .int v1), (2, .int v2), (3, .int v3), (4, .int v4), (5, .int v5)] → f_X11_addRule_J93  t0 v1 v2 v3 v4 v5 input_length rules_count rules_lefts rules_rights = some out → W p l e (rM 2 47) s m args below meth c H locs 0 0 Q (F0 m 93 ls [.int t0]) := by
    intro t0 v1 v2 v3 v4 v5 input_length rules_count rules_lefts rules_rights  H locs ls  hP hS hl hf
    rw [f_X11_addRule_J93] at hf
    obtain ⟨v6_93, e_v6_93, hf⟩ := lt_some hf
    refine x_istore (v := v6_93) (lv' := [(6, .int v6_93), (0, .ref h), (1, .int v1), (2, .int v2), (3, .int v3), (4, .int v4), (5, .int v5)]) hx hb dX11_addRule_93 e_v6_93 hl (by decide) rfl (fun ls hl => ?_)
    refine lv_aload_n hx hb dX11_addRule_95 rfl (lv_at hl 1 rfl) ?_
    refine x_get hx hb hts u_X11_addRule_X11 hown hE hP 0 rfl rfl 12 (by decide) (hts (.fieldLink RX11 77 "DecreasingDiagrams" "input" "LDecreasingDiagrams$InputLine;") (List.mem_of_getElem? (i := 2) rfl)) rfl dX11_addRule_96 ?_
    obtain ⟨r_99, hr_99, hf⟩ := bd_some hf
    refine x_gov (ps := [1]) (I' := [[(h, .inr (10, [.ref h_order, .ref h_system, .ref h_rules, .ref h_savedOrder, .ref h_savedSystem, .ref h_savedRules, .int snapshotSaved, .ref h_peaks, .ref h_leftPaths, .ref h_rightPaths, .ref h_text, .ref h_labellings, .ref h_input, .ref h_explorer, .ref h_arrays, .ref a_reach]))], [(h_input, .inr (1, [.int r_99, .ref a_input_bytes]))], [(a_input_bytes, .inl (G 0, 20, .inl input_bytes))], [(h_rules, .inr (8, [.int rules_count, .ref a_rules_lefts, .ref a_rules_rights]))], [(a_rules_lefts, .inl (G 0, 6, .inl rules_lefts))], [(a_rules_rights, .inl (G 0, 6, .inl rules_rights))]]) (x_runVN (As := []) (rest := []) (ps := [1]) ⟨hx, hb, hml, hown, hts⟩ (k_X1_clear l D G h_input a_input_bytes input_length r_99 hr_99) ⟨va_cnB 0 hts gX11_addRule_X1_clear_n287 rfl rfl rfl (hE.2 (.methodLinkNest RX11 287 yX1_clear RX11) (List.mem_of_getElem? (i := 97) rfl)) (hts (.initialized RX1) (List.mem_of_getElem? (i := 4) rfl)) (by decide +kernel) ⟨Nat.le_of_ble_eq_true rfl, Nat.le_of_ble_eq_true rfl⟩, (hts (.instanceMethod yX1_clear) (List.mem_of_getElem? (i := 18) rfl)), (hts (.selects RX1 yX1_clear yX1_clear) (List.mem_of_getElem? (i := 19) rfl))⟩ hE hP hN rfl (by decide) 1 rfl rfl rfl hl.1 (Nat.le_of_ble_eq_true rfl) dX11_addRule_99 ⟨Nat.zero_le _, Nat.zero_le _⟩) hP hN hS rfl rfl (fun H locs hP hS => ?_)
    refine lv_iload hx hb dX11_addRule_102 (lv_at hl 6 rfl) ?_
    refine lv_if_ne (tgt := 112) hx hb dX11_addRule_104 (by decide) (fun c_104 => ?_) (fun c_104 => ?_)
    · have hf := it_pos c_104 hf
      refine lv_iload hx hb dX11_addRule_112 (lv_at hl 0 rfl) ?_
      refine lv_if_eq (tgt := 129) hx hb dX11_addRule_114 (by decide) (fun c_114 => ?_) (fun c_114 => ?_)
      · have hf := it_pos c_114 hf
        refine lv_bipush (v := -100) hx hb dX11_addRule_129 (by decide) ?_
        refine lv_iload hx hb dX11_addRule_131 (lv_at hl 5 rfl) ?_
        refine lv_isub hx hb dX11_addRule_133 ?_
        have hf := Option.some.inj hf
        subst hf
        subst hQ
        exact x_iret hx hb hr hlocks hP hS dX11_addRule_134
      · have hf := it_neg c_114 hf
        refine lv_aload_n hx hb dX11_addRule_117 rfl (lv_at hl 1 rfl) ?_
        refine x_get hx hb hts u_X11_addRule_X11 hown hE hP 0 rfl rfl 2 (by decide) (hts (.fieldLink RX11 26 "DecreasingDiagrams" "rules" "LDecreasingDiagrams$RuleSet;") (List.mem_of_getElem? (i := 1) rfl)) rfl dX11_addRule_118 ?_
        refine lv_iload_n hx hb dX11_addRule_121 rfl (lv_at hl 2 rfl) ?_
        refine lv_iload_n hx hb dX11_addRule_122 rfl (lv_at hl 4 rfl) ?_
        obtain ⟨r_123, hr_123, hf⟩ := bd_some hf
        refine x_goi (ps := [3, 4, 5]) (I' := [[(h, .inr (10, [.ref h_order, .ref h_system, .ref h_rules, .ref h_savedOrder, .ref h_savedSystem, .ref h_savedRules, .int snapshotSaved, .ref h_peaks, .ref h_leftPaths, .ref h_rightPaths, .ref h_text, .ref h_labellings, .ref h_input, .ref h_explorer, .ref h_arrays, .ref a_reach]))], [(h_input, .inr (1, [.int r_99, .ref a_input_bytes]))], [(a_input_bytes, .inl (G 0, 20, .inl input_bytes))], [(h_rules, .inr (8, [.int r_123.2.1, .ref a_rules_lefts, .ref a_rules_rights]))], [(a_rules_lefts, .inl (G 0, 6, .inl r_123.2.2.1))], [(a_rules_rights, .inl (G 0, 6, .inl r_123.2.2.2))]]) (x_runVN (As := [.int v1, .int v3]) (rest := []) (ps := [3, 4, 5]) ⟨hx, hb, hml, hown, hts⟩ (k_X8_append l D G h_rules a_rules_lefts a_rules_rights rules_count rules_lefts rules_rights v1 v3 r_123 hr_123) ⟨va_cnB 2 hts gX11_addRule_X8_append_n288 rfl rfl rfl (hE.2 (.methodLinkNest RX11 288 yX8_append RX11) (List.mem_of_getElem? (i := 98) rfl)) (hts (.initialized RX8) (List.mem_of_getElem? (i := 22) rfl)) (by decide +kernel) ⟨Nat.le_of_ble_eq_true rfl, Nat.le_of_ble_eq_true rfl⟩, (hts (.instanceMethod yX8_append) (List.mem_of_getElem? (i := 21) rfl)), (hts (.selects RX8 yX8_append yX8_append) (List.mem_of_getElem? (i := 23) rfl))⟩ hE hP hN rfl (by decide) 3 rfl rfl rfl hl.1 (Nat.le_of_ble_eq_true rfl) dX11_addRule_123 ⟨Nat.zero_le _, Nat.zero_le _⟩) hP hN hS rfl rfl (fun H locs hP hS => ?_)
        refine lv_goto (tgt := 134) hx hb dX11_addRule_126 (by decide) ?_
        have hf := Option.some.inj hf
        subst hf
        subst hQ
        exact x_iret hx hb hr hlocks hP hS dX11_addRule_134
    · have hf := it_neg (fun h => h c_104) hf
      refine lv_bipush (v := -100) hx hb dX11_addRule_107 (by decide) ?_
      refine lv_iload_n hx hb dX11_addRule_109 rfl (lv_at hl 3 rfl) ?_
      refine lv_isub hx hb dX11_addRule_110 ?_
      have hf := Option.some.inj hf
      subst hf
      subst hQ
      exact x_iret hx hb hr hlocks hP hS dX11_addRule_111
  have J74 : ∀ (t0 : Int32) (v1 : Int32) (v2 : Int32) (v3 : Int32) (v4 : Int32) (input_length : Int32) (rules_count : Int32) (rules_lefts : (Nat → Int32)) (rules_rights : (Nat → Int32)) (H : Heap) (locs : List Loc) (ls : Array Slot), xW D aa [[(h, .inr (10, [.ref h_order, .ref h_system, .ref h_rules, .ref h_savedOrder, .ref h_savedSystem, .ref h_savedRules, .int snapshotSaved, .ref h_peaks, .ref h_leftPaths, .ref h_rightPaths, .ref h_text, .ref h_labellings, .ref h_input, .ref h_explorer, .ref h_arrays, .ref a_reach]))], [(h_input, .inr (1, [.int input_length, .ref a_input_bytes]))], [(a_input_bytes, .inl (G 0, 20, .inl input_bytes))], [(h_rules, .inr (8, [.int rules_count, .ref a_rules_lefts, .ref a_rules_rights]))], [(a_rules_lefts, .inl (G 0, 6, .inl rules_lefts))], [(a_rules_rights, .inl (G 0, 6, .inl rules_rights))]] H → va_S (xA aa) s.heap H locs → lv_has ls 7 [(0, .ref h), (1, .int v1), (2, .int v2), (3, .int v3), (4, .int v4)] → f_X11_addRule_J74  t0 v1 v2 v3 v4 input_length rules_count rules_lefts rules_rights = some out → W p l e (rM 2 47) s m args below meth c H locs 0 0 Q (F0 m 74 ls [.int t0]) := by
    intro t0 v1 v2 v3 v4 input_length rules_count rules_lefts rules_rights  H locs ls  hP hS hl hf
    rw [f_X11_addRule_J74] at hf
    obtain ⟨v5_74, e_v5_74, hf⟩ := lt_some hf
    refine x_istore (v := v5_74) (lv' := [(5, .int v5_74), (0, .ref h), (1, .int v1), (2, .int v2), (3, .int v3), (4, .int v4)]) hx hb dX11_addRule_74 e_v5_74 hl (by decide) rfl (fun ls hl => ?_)
    refine lv_iload hx hb dX11_addRule_76 (lv_at hl 5 rfl) ?_
    refine lv_aload_n hx hb dX11_addRule_78 rfl (lv_at hl 1 rfl) ?_
    refine x_get hx hb hts u_X11_addRule_X11 hown hE hP 0 rfl rfl 12 (by decide) (hts (.fieldLink RX11 77 "DecreasingDiagrams" "input" "LDecreasingDiagrams$InputLine;") (List.mem_of_getElem? (i := 2) rfl)) rfl dX11_addRule_79 ?_
    refine x_getN hx hb hts u_X11_addRule_X1 hown hE hP 1 rfl rfl 0 (by decide) (hE.2 (.fieldLinkNest RX11 271 "DecreasingDiagrams$InputLine" "length" "I" RX11) (List.mem_of_getElem? (i := 43) rfl)) rfl dX11_addRule_82 ?_
    refine lv_icmp_ne (tgt := 92) hx hb dX11_addRule_85 (by decide) (fun c_85 => ?_) (fun c_85 => ?_)
    · have hf := it_pos c_85 hf
      refine lv_iconst (v := 0) hx hb dX11_addRule_92 (by decide) ?_
      exact J93 0 v1 v2 v3 v4 v5_74 input_length rules_count rules_lefts rules_rights  H locs ls  hP hS (lv_sub hl [1, 2, 3, 4, 5, 0] rfl) hf
    · have hf := it_neg (fun h => h c_85) hf
      refine lv_iconst (v := 1) hx hb dX11_addRule_88 (by decide) ?_
      refine lv_goto (tgt := 93) hx hb dX11_addRule_89 (by decide) ?_
      exact J93 1 v1 v2 v3 v4 v5_74 input_length rules_count rules_lefts rules_rights  H locs ls  hP hS (lv_sub hl [1, 2, 3, 4, 5, 0] rfl) hf
  have J73 : ∀ (v1 : Int32) (v2 : Int32) (v3 : Int32) (v4 : Int32) (input_length : Int32) (rules_count : Int32) (rules_lefts : (Nat → Int32)) (rules_rights : (Nat → Int32)) (H : Heap) (locs : List Loc) (ls : Array Slot), xW D aa [[(h, .inr (10, [.ref h_order, .ref h_system, .ref h_rules, .ref h_savedOrder, .ref h_savedSystem, .ref h_savedRules, .int snapshotSaved, .ref h_peaks, .ref h_leftPaths, .ref h_rightPaths, .ref h_text, .ref h_labellings, .ref h_input, .ref h_explorer, .ref h_arrays, .ref a_reach]))], [(h_input, .inr (1, [.int input_length, .ref a_input_bytes]))], [(a_input_bytes, .inl (G 0, 20, .inl input_bytes))], [(h_rules, .inr (8, [.int rules_count, .ref a_rules_lefts, .ref a_rules_rights]))], [(a_rules_lefts, .inl (G 0, 6, .inl rules_lefts))], [(a_rules_rights, .inl (G 0, 6, .inl rules_rights))]] H → va_S (xA aa) s.heap H locs → lv_has ls 7 [(0, .ref h), (1, .int v1), (2, .int v2), (3, .int v3), (4, .int v4)] → f_X11_addRule_J73  v1 v2 v3 v4 input_length rules_count rules_lefts rules_rights = some out → W p l e (rM 2 47) s m args below meth c H locs 0 0 Q (F0 m 73 ls []) := by
    intro v1 v2 v3 v4 input_length rules_count rules_lefts rules_rights  H locs ls  hP hS hl hf
    rw [f_X11_addRule_J73] at hf
    refine lv_iconst (v := 0) hx hb dX11_addRule_73 (by decide) ?_
    exact J74 0 v1 v2 v3 v4 input_length rules_count rules_lefts rules_rights  H locs ls  hP hS (lv_sub hl [0, 1, 2, 3, 4] rfl) hf
  rw [f_X11_addRule] at hf
  obtain ⟨H, hH⟩ : ∃ H : Heap, H = s.heap := ⟨_, rfl⟩
  obtain ⟨locs, hlocs⟩ : ∃ locs : List Loc, locs = [] := ⟨_, rfl⟩
  have hP : xW D aa [[(h, .inr (10, [.ref h_order, .ref h_system, .ref h_rules, .ref h_savedOrder, .ref h_savedSystem, .ref h_savedRules, .int snapshotSaved, .ref h_peaks, .ref h_leftPaths, .ref h_rightPaths, .ref h_text, .ref h_labellings, .ref h_input, .ref h_explorer, .ref h_arrays, .ref a_reach]))], [(h_input, .inr (1, [.int input_length, .ref a_input_bytes]))], [(a_input_bytes, .inl (G 0, 20, .inl input_bytes))], [(h_rules, .inr (8, [.int rules_count, .ref a_rules_lefts, .ref a_rules_rights]))], [(a_rules_lefts, .inl (G 0, 6, .inl rules_lefts))], [(a_rules_rights, .inl (G 0, 6, .inl rules_rights))]] H := by rw [hH]; exact hP
  have hS : va_S (xA aa) s.heap H locs := by rw [hH, hlocs]; exact hS
  suffices GO : W p l e (rM 2 47) s m args below meth c H locs 0 0 Q (F0 m 0 ls []) by
    rw [hH, hlocs] at GO
    exact GO
  clear hH hlocs
  refine lv_aload_n hx hb dX11_addRule_0 rfl (lv_at hl 0 rfl) ?_
  refine x_get hx hb hts u_X11_addRule_X11 hown hE hP 0 rfl rfl 2 (by decide) (hts (.fieldLink RX11 26 "DecreasingDiagrams" "rules" "LDecreasingDiagrams$RuleSet;") (List.mem_of_getElem? (i := 1) rfl)) rfl dX11_addRule_1 ?_
  refine x_getN hx hb hts u_X11_addRule_X8 hown hE hP 3 rfl rfl 0 (by decide) (hE.2 (.fieldLinkNest RX11 275 "DecreasingDiagrams$RuleSet" "count" "I" RX11) (List.mem_of_getElem? (i := 24) rfl)) rfl dX11_addRule_4 ?_
  refine lv_bipush (v := 6) hx hb dX11_addRule_7 (by decide) ?_
  refine lv_icmp_lt (tgt := 15) hx hb dX11_addRule_9 (by decide) (fun c_9 => ?_) (fun c_9 => ?_)
  · have hf := it_pos c_9 hf
    refine lv_aload_n hx hb dX11_addRule_15 rfl (lv_at hl 0 rfl) ?_
    refine x_get hx hb hts u_X11_addRule_X11 hown hE hP 0 rfl rfl 12 (by decide) (hts (.fieldLink RX11 77 "DecreasingDiagrams" "input" "LDecreasingDiagrams$InputLine;") (List.mem_of_getElem? (i := 2) rfl)) rfl dX11_addRule_16 ?_
    refine lv_iconst (v := 0) hx hb dX11_addRule_19 (by decide) ?_
    refine lv_iconst (v := 4) hx hb dX11_addRule_20 (by decide) ?_
    obtain ⟨r_21, hr_21, hf⟩ := bd_some hf
    refine x_goi (ps := [1, 2]) (I' := [[(h, .inr (10, [.ref h_order, .ref h_system, .ref h_rules, .ref h_savedOrder, .ref h_savedSystem, .ref h_savedRules, .int snapshotSaved, .ref h_peaks, .ref h_leftPaths, .ref h_rightPaths, .ref h_text, .ref h_labellings, .ref h_input, .ref h_explorer, .ref h_arrays, .ref a_reach]))], [(h_input, .inr (1, [.int input_length, .ref a_input_bytes]))], [(a_input_bytes, .inl (G 0, 20, .inl input_bytes))], [(h_rules, .inr (8, [.int rules_count, .ref a_rules_lefts, .ref a_rules_rights]))], [(a_rules_lefts, .inl (G 0, 6, .inl rules_lefts))], [(a_rules_rights, .inl (G 0, 6, .inl rules_rights))]]) (x_runVN (As := [.int 0, .int 4]) (rest := []) (ps := [1, 2]) ⟨hx, hb, hml, hown, hts⟩ (k_X1_wordAt l D G h_input a_input_bytes input_length input_bytes 0 4 r_21 hr_21) ⟨va_cnB 2 hts gX11_addRule_X1_wordAt_n276 rfl rfl rfl (hE.2 (.methodLinkNest RX11 276 yX1_wordAt RX11) (List.mem_of_getElem? (i := 93) rfl)) (hts (.initialized RX1) (List.mem_of_getElem? (i := 4) rfl)) (by decide +kernel) ⟨Nat.le_of_ble_eq_true rfl, Nat.le_of_ble_eq_true rfl⟩, (hts (.instanceMethod yX1_wordAt) (List.mem_of_getElem? (i := 3) rfl)), (hts (.selects RX1 yX1_wordAt yX1_wordAt) (List.mem_of_getElem? (i := 5) rfl))⟩ hE hP hN rfl (by decide) 1 rfl rfl rfl hl.1 (Nat.le_of_ble_eq_true rfl) dX11_addRule_21 ⟨Nat.zero_le _, Nat.zero_le _⟩) hP hN hS rfl rfl (fun H locs hP hS => ?_)
    obtain ⟨v1_24, e_v1_24, hf⟩ := lt_some hf
    refine x_istore_n (v := v1_24) (lv' := [(1, .int v1_24), (0, .ref h)]) hx hb dX11_addRule_24 e_v1_24 rfl hl (by decide) rfl (fun ls hl => ?_)
    refine lv_iload_n hx hb dX11_addRule_25 rfl (lv_at hl 0 rfl) ?_
    obtain ⟨r_26, hr_26, hf⟩ := bd_some hf
    refine x_goi (ps := []) (I' := [[(h, .inr (10, [.ref h_order, .ref h_system, .ref h_rules, .ref h_savedOrder, .ref h_savedSystem, .ref h_savedRules, .int snapshotSaved, .ref h_peaks, .ref h_leftPaths, .ref h_rightPaths, .ref h_text, .ref h_labellings, .ref h_input, .ref h_explorer, .ref h_arrays, .ref a_reach]))], [(h_input, .inr (1, [.int input_length, .ref a_input_bytes]))], [(a_input_bytes, .inl (G 0, 20, .inl input_bytes))], [(h_rules, .inr (8, [.int rules_count, .ref a_rules_lefts, .ref a_rules_rights]))], [(a_rules_lefts, .inl (G 0, 6, .inl rules_lefts))], [(a_rules_rights, .inl (G 0, 6, .inl rules_rights))]]) (x_runSN (As := [.int v1_24]) (rest := []) (ps := []) ⟨hx, hb, hml, hown, hts⟩ (k_X10_lengthOf l D G v1_24 r_26 hr_26) ⟨va_cnB 1 hts gX11_addRule_X10_lengthOf_n279 rfl rfl rfl (hE.2 (.methodLinkNest RX11 279 yX10_lengthOf RX11) (List.mem_of_getElem? (i := 95) rfl)) (hts (.initialized RX10) (List.mem_of_getElem? (i := 14) rfl)) (by decide +kernel) ⟨Nat.le_of_ble_eq_true rfl, Nat.le_of_ble_eq_true rfl⟩, (hts (.static yX10_lengthOf) (List.mem_of_getElem? (i := 16) rfl)), trivial⟩ hE hP hN rfl (by decide) rfl hl.1 (Nat.le_of_ble_eq_true rfl) dX11_addRule_26 ⟨Nat.zero_le _, Nat.zero_le _⟩) hP hN hS rfl rfl (fun H locs hP hS => ?_)
    obtain ⟨v2_29, e_v2_29, hf⟩ := lt_some hf
    refine x_istore_n (v := v2_29) (lv' := [(2, .int v2_29), (1, .int v1_24), (0, .ref h)]) hx hb dX11_addRule_29 e_v2_29 rfl hl (by decide) rfl (fun ls hl => ?_)
    refine lv_aload_n hx hb dX11_addRule_30 rfl (lv_at hl 2 rfl) ?_
    refine x_get hx hb hts u_X11_addRule_X11 hown hE hP 0 rfl rfl 12 (by decide) (hts (.fieldLink RX11 77 "DecreasingDiagrams" "input" "LDecreasingDiagrams$InputLine;") (List.mem_of_getElem? (i := 2) rfl)) rfl dX11_addRule_31 ?_
    refine lv_iload_n hx hb dX11_addRule_34 rfl (lv_at hl 0 rfl) ?_
    refine lv_iconst (v := 1) hx hb dX11_addRule_35 (by decide) ?_
    refine lv_iadd hx hb dX11_addRule_36 ?_
    refine lv_iconst (v := 4) hx hb dX11_addRule_37 (by decide) ?_
    obtain ⟨r_38, hr_38, hf⟩ := bd_some hf
    refine x_goi (ps := [1, 2]) (I' := [[(h, .inr (10, [.ref h_order, .ref h_system, .ref h_rules, .ref h_savedOrder, .ref h_savedSystem, .ref h_savedRules, .int snapshotSaved, .ref h_peaks, .ref h_leftPaths, .ref h_rightPaths, .ref h_text, .ref h_labellings, .ref h_input, .ref h_explorer, .ref h_arrays, .ref a_reach]))], [(h_input, .inr (1, [.int input_length, .ref a_input_bytes]))], [(a_input_bytes, .inl (G 0, 20, .inl input_bytes))], [(h_rules, .inr (8, [.int rules_count, .ref a_rules_lefts, .ref a_rules_rights]))], [(a_rules_lefts, .inl (G 0, 6, .inl rules_lefts))], [(a_rules_rights, .inl (G 0, 6, .inl rules_rights))]]) (x_runVN (As := [.int (v2_29 + 1), .int 4]) (rest := []) (ps := [1, 2]) ⟨hx, hb, hml, hown, hts⟩ (k_X1_wordAt l D G h_input a_input_bytes input_length input_bytes (v2_29 + 1) 4 r_38 hr_38) ⟨va_cnB 2 hts gX11_addRule_X1_wordAt_n276 rfl rfl rfl (hE.2 (.methodLinkNest RX11 276 yX1_wordAt RX11) (List.mem_of_getElem? (i := 93) rfl)) (hts (.initialized RX1) (List.mem_of_getElem? (i := 4) rfl)) (by decide +kernel) ⟨Nat.le_of_ble_eq_true rfl, Nat.le_of_ble_eq_true rfl⟩, (hts (.instanceMethod yX1_wordAt) (List.mem_of_getElem? (i := 3) rfl)), (hts (.selects RX1 yX1_wordAt yX1_wordAt) (List.mem_of_getElem? (i := 5) rfl))⟩ hE hP hN rfl (by decide) 1 rfl rfl rfl hl.1 (Nat.le_of_ble_eq_true rfl) dX11_addRule_38 ⟨Nat.zero_le _, Nat.zero_le _⟩) hP hN hS rfl rfl (fun H locs hP hS => ?_)
    obtain ⟨v3_41, e_v3_41, hf⟩ := lt_some hf
    refine x_istore_n (v := v3_41) (lv' := [(3, .int v3_41), (2, .int v2_29), (1, .int v1_24), (0, .ref h)]) hx hb dX11_addRule_41 e_v3_41 rfl hl (by decide) rfl (fun ls hl => ?_)
    refine lv_iload_n hx hb dX11_addRule_42 rfl (lv_at hl 1 rfl) ?_
    refine lv_iconst (v := 1) hx hb dX11_addRule_43 (by decide) ?_
    refine lv_iadd hx hb dX11_addRule_44 ?_
    refine lv_iload_n hx hb dX11_addRule_45 rfl (lv_at hl 0 rfl) ?_
    obtain ⟨r_46, hr_46, hf⟩ := bd_some hf
    refine x_goi (ps := []) (I' := [[(h, .inr (10, [.ref h_order, .ref h_system, .ref h_rules, .ref h_savedOrder, .ref h_savedSystem, .ref h_savedRules, .int snapshotSaved, .ref h_peaks, .ref h_leftPaths, .ref h_rightPaths, .ref h_text, .ref h_labellings, .ref h_input, .ref h_explorer, .ref h_arrays, .ref a_reach]))], [(h_input, .inr (1, [.int input_length, .ref a_input_bytes]))], [(a_input_bytes, .inl (G 0, 20, .inl input_bytes))], [(h_rules, .inr (8, [.int rules_count, .ref a_rules_lefts, .ref a_rules_rights]))], [(a_rules_lefts, .inl (G 0, 6, .inl rules_lefts))], [(a_rules_rights, .inl (G 0, 6, .inl rules_rights))]]) (x_runSN (As := [.int v3_41]) (rest := [.int (v2_29 + 1)]) (ps := []) ⟨hx, hb, hml, hown, hts⟩ (k_X10_lengthOf l D G v3_41 r_46 hr_46) ⟨va_cnB 1 hts gX11_addRule_X10_lengthOf_n279 rfl rfl rfl (hE.2 (.methodLinkNest RX11 279 yX10_lengthOf RX11) (List.mem_of_getElem? (i := 95) rfl)) (hts (.initialized RX10) (List.mem_of_getElem? (i := 14) rfl)) (by decide +kernel) ⟨Nat.le_of_ble_eq_true rfl, Nat.le_of_ble_eq_true rfl⟩, (hts (.static yX10_lengthOf) (List.mem_of_getElem? (i := 16) rfl)), trivial⟩ hE hP hN rfl (by decide) rfl hl.1 (Nat.le_of_ble_eq_true rfl) dX11_addRule_46 ⟨Nat.zero_le _, Nat.zero_le _⟩) hP hN hS rfl rfl (fun H locs hP hS => ?_)
    refine lv_iadd hx hb dX11_addRule_49 ?_
    obtain ⟨v4_50, e_v4_50, hf⟩ := lt_some hf
    refine x_istore (v := v4_50) (lv' := [(4, .int v4_50), (3, .int v3_41), (2, .int v2_29), (1, .int v1_24), (0, .ref h)]) hx hb dX11_addRule_50 e_v4_50 hl (by decide) rfl (fun ls hl => ?_)
    refine lv_iload_n hx hb dX11_addRule_52 rfl (lv_at hl 2 rfl) ?_
    refine lv_if_le (tgt := 73) hx hb dX11_addRule_53 (by decide) (fun c_53 => ?_) (fun c_53 => ?_)
    · have hf := it_pos c_53 hf
      exact J73 v1_24 v2_29 v3_41 v4_50 input_length rules_count rules_lefts rules_rights  H locs ls  hP hS (lv_sub hl [4, 3, 2, 1, 0] rfl) hf
    · have hf := it_neg c_53 hf
      refine lv_aload_n hx hb dX11_addRule_56 rfl (lv_at hl 4 rfl) ?_
      refine x_get hx hb hts u_X11_addRule_X11 hown hE hP 0 rfl rfl 12 (by decide) (hts (.fieldLink RX11 77 "DecreasingDiagrams" "input" "LDecreasingDiagrams$InputLine;") (List.mem_of_getElem? (i := 2) rfl)) rfl dX11_addRule_57 ?_
      refine lv_iload_n hx hb dX11_addRule_60 rfl (lv_at hl 2 rfl) ?_
      obtain ⟨r_61, hr_61, hf⟩ := bd_some hf
      refine x_goi (ps := [1, 2]) (I' := [[(h, .inr (10, [.ref h_order, .ref h_system, .ref h_rules, .ref h_savedOrder, .ref h_savedSystem, .ref h_savedRules, .int snapshotSaved, .ref h_peaks, .ref h_leftPaths, .ref h_rightPaths, .ref h_text, .ref h_labellings, .ref h_input, .ref h_explorer, .ref h_arrays, .ref a_reach]))], [(h_input, .inr (1, [.int input_length, .ref a_input_bytes]))], [(a_input_bytes, .inl (G 0, 20, .inl input_bytes))], [(h_rules, .inr (8, [.int rules_count, .ref a_rules_lefts, .ref a_rules_rights]))], [(a_rules_lefts, .inl (G 0, 6, .inl rules_lefts))], [(a_rules_rights, .inl (G 0, 6, .inl rules_rights))]]) (x_runVN (As := [.int v2_29]) (rest := []) (ps := [1, 2]) ⟨hx, hb, hml, hown, hts⟩ (k_X1_byteAt l D G h_input a_input_bytes input_length input_bytes v2_29 r_61 hr_61) ⟨va_cnB 1 hts gX11_addRule_X1_byteAt_n284 rfl rfl rfl (hE.2 (.methodLinkNest RX11 284 yX1_byteAt RX11) (List.mem_of_getElem? (i := 96) rfl)) (hts (.initialized RX1) (List.mem_of_getElem? (i := 4) rfl)) (by decide +kernel) ⟨Nat.le_of_ble_eq_true rfl, Nat.le_of_ble_eq_true rfl⟩, (hts (.instanceMethod yX1_byteAt) (List.mem_of_getElem? (i := 8) rfl)), (hts (.selects RX1 yX1_byteAt yX1_byteAt) (List.mem_of_getElem? (i := 9) rfl))⟩ hE hP hN rfl (by decide) 1 rfl rfl rfl hl.1 (Nat.le_of_ble_eq_true rfl) dX11_addRule_61 ⟨Nat.zero_le _, Nat.zero_le _⟩) hP hN hS rfl rfl (fun H locs hP hS => ?_)
      refine lv_bipush (v := 62) hx hb dX11_addRule_64 (by decide) ?_
      refine lv_icmp_ne (tgt := 73) hx hb dX11_addRule_66 (by decide) (fun c_66 => ?_) (fun c_66 => ?_)
      · have hf := it_pos c_66 hf
        exact J73 v1_24 v2_29 v3_41 v4_50 input_length rules_count rules_lefts rules_rights  H locs ls  hP hS (lv_sub hl [4, 3, 2, 1, 0] rfl) hf
      · have hf := it_neg (fun h => h c_66) hf
        refine lv_iconst (v := 1) hx hb dX11_addRule_69 (by decide) ?_
        refine lv_goto (tgt := 74) hx hb dX11_addRule_70 (by decide) ?_
        exact J74 1 v1_24 v2_29 v3_41 v4_50 input_length rules_count rules_lefts rules_rights  H locs ls  hP hS (lv_sub hl [4, 3, 2, 1, 0] rfl) hf
  · have hf := it_neg c_9 hf
    refine lv_bipush (v := -3) hx hb dX11_addRule_12 (by decide) ?_
    have hf := Option.some.inj hf
    subst hf
    subst hQ
    exact x_iret hx hb hr hlocks hP hS dX11_addRule_14

set_option maxRecDepth 20000 in
theorem u_X11_addStep_X11 : ∀ w ∈ wsX110, w ∈ wsX11_addStep := xx_pl _ [18, 19, 20, 21, 22, 23, 24, 25, 26, 27, 28, 29, 30, 31, 32, 33] (by decide +kernel)
def f_X11_addStep (system_objects : Int32) (system_steps : Int32) (system_labels : (Nat → Int32)) (system_sources : (Nat → Int32)) (system_targets : (Nat → Int32)) (v1 : Int32) (v2 : Int32) (v3 : Int32) : Option (Int32 × (Nat → Int32) × (Nat → Int32) × Int32 × (Nat → Int32)) :=
  (f_X3_hasObject system_objects v1).bind (fun r_5 => if r_5 = 0 then (some ((-1), system_labels, system_sources, system_steps, system_targets)) else ((f_X3_hasObject system_objects v2).bind (fun r_16 => if r_16 = 0 then (some ((-1), system_labels, system_sources, system_steps, system_targets)) else ((f_X11_isLabel v3).bind (fun r_23 => if ¬ r_23 = 0 then ((f_X3_appendStep system_steps system_labels system_sources system_targets v1 v2 v3).bind (fun r_38 => some (r_38.1, r_38.2.1, r_38.2.2.1, r_38.2.2.2.1, r_38.2.2.2.2))) else (some ((-1), system_labels, system_sources, system_steps, system_targets)))))))
set_option maxHeartbeats 4000000 in
set_option maxRecDepth 100000 in
theorem k_X11_addStep (l : Launch) (D : va_G) (G : Nat → ClassId) (h : Nat) (h_order : Nat) (h_system : Nat) (h_rules : Nat) (h_savedOrder : Nat) (h_savedSystem : Nat) (h_savedRules : Nat) (h_peaks : Nat) (h_leftPaths : Nat) (h_rightPaths : Nat) (h_text : Nat) (h_labellings : Nat) (h_input : Nat) (h_explorer : Nat) (h_arrays : Nat) (a_reach : Nat) (a_system_words : Nat) (a_system_sources : Nat) (a_system_targets : Nat) (a_system_labels : Nat) (snapshotSaved : Int32) (system_objects : Int32) (system_steps : Int32) (system_labels : (Nat → Int32)) (system_sources : (Nat → Int32)) (system_targets : (Nat → Int32))  (v1 : Int32) (v2 : Int32) (v3 : Int32) (out : Int32 × (Nat → Int32) × (Nat → Int32) × Int32 × (Nat → Int32)) (hf : f_X11_addStep system_objects system_steps system_labels system_sources system_targets v1 v2 v3 = some out) : xMet l yX11_addStep wsX11_addStep (rM 1 23) D G [.ref h, .int v1, .int v2, .int v3] [[(h, .inr (10, [.ref h_order, .ref h_system, .ref h_rules, .ref h_savedOrder, .ref h_savedSystem, .ref h_savedRules, .int snapshotSaved, .ref h_peaks, .ref h_leftPaths, .ref h_rightPaths, .ref h_text, .ref h_labellings, .ref h_input, .ref h_explorer, .ref h_arrays, .ref a_reach]))], [(h_system, .inr (3, [.int system_objects, .ref a_system_words, .int system_steps, .ref a_system_sources, .ref a_system_targets, .ref a_system_labels]))], [(a_system_labels, .inl (G 0, 32, .inl system_labels))], [(a_system_sources, .inl (G 0, 32, .inl system_sources))], [(a_system_targets, .inl (G 0, 32, .inl system_targets))]] (xQi D [[(h, .inr (10, [.ref h_order, .ref h_system, .ref h_rules, .ref h_savedOrder, .ref h_savedSystem, .ref h_savedRules, .int snapshotSaved, .ref h_peaks, .ref h_leftPaths, .ref h_rightPaths, .ref h_text, .ref h_labellings, .ref h_input, .ref h_explorer, .ref h_arrays, .ref a_reach]))], [(h_system, .inr (3, [.int system_objects, .ref a_system_words, .int out.2.2.2.1, .ref a_system_sources, .ref a_system_targets, .ref a_system_labels]))], [(a_system_labels, .inl (G 0, 32, .inl out.2.1))], [(a_system_sources, .inl (G 0, 32, .inl out.2.2.1))], [(a_system_targets, .inl (G 0, 32, .inl out.2.2.2.2))]] out.1) := by
  refine x_ent (cc := cX11_addStep) (maxL := 4) (by decide) rfl (Nat.le_of_ble_eq_true rfl) ?_
  intro p e s m below meth c aa ls args Q hQ hx hb hr hml hown hts hlocks hE hN hP hl hS
  have hown : s.vm.findClass RX11 = some m.cls := hown
  have hl : lv_has ls 4 [(0, .ref h), (1, .int v1), (2, .int v2), (3, .int v3)] := hl
  rw [f_X11_addStep] at hf
  obtain ⟨H, hH⟩ : ∃ H : Heap, H = s.heap := ⟨_, rfl⟩
  obtain ⟨locs, hlocs⟩ : ∃ locs : List Loc, locs = [] := ⟨_, rfl⟩
  have hP : xW D aa [[(h, .inr (10, [.ref h_order, .ref h_system, .ref h_rules, .ref h_savedOrder, .ref h_savedSystem, .ref h_savedRules, .int snapshotSaved, .ref h_peaks, .ref h_leftPaths, .ref h_rightPaths, .ref h_text, .ref h_labellings, .ref h_input, .ref h_explorer, .ref h_arrays, .ref a_reach]))], [(h_system, .inr (3, [.int system_objects, .ref a_system_words, .int system_steps, .ref a_system_sources, .ref a_system_targets, .ref a_system_labels]))], [(a_system_labels, .inl (G 0, 32, .inl system_labels))], [(a_system_sources, .inl (G 0, 32, .inl system_sources))], [(a_system_targets, .inl (G 0, 32, .inl system_targets))]] H := by rw [hH]; exact hP
  have hS : va_S (xA aa) s.heap H locs := by rw [hH, hlocs]; exact hS
  suffices GO : W p l e (rM 1 23) s m args below meth c H locs 0 0 Q (F0 m 0 ls []) by
    rw [hH, hlocs] at GO
    exact GO
  clear hH hlocs
  refine lv_aload_n hx hb dX11_addStep_0 rfl (lv_at hl 0 rfl) ?_
  refine x_get hx hb hts u_X11_addStep_X11 hown hE hP 0 rfl rfl 1 (by decide) (hts (.fieldLink RX11 19 "DecreasingDiagrams" "system" "LDecreasingDiagrams$LabelledSystem;") (List.mem_of_getElem? (i := 1) rfl)) rfl dX11_addStep_1 ?_
  refine lv_iload_n hx hb dX11_addStep_4 rfl (lv_at hl 1 rfl) ?_
  obtain ⟨r_5, hr_5, hf⟩ := bd_some hf
  refine x_goi (ps := [1]) (I' := [[(h, .inr (10, [.ref h_order, .ref h_system, .ref h_rules, .ref h_savedOrder, .ref h_savedSystem, .ref h_savedRules, .int snapshotSaved, .ref h_peaks, .ref h_leftPaths, .ref h_rightPaths, .ref h_text, .ref h_labellings, .ref h_input, .ref h_explorer, .ref h_arrays, .ref a_reach]))], [(h_system, .inr (3, [.int system_objects, .ref a_system_words, .int system_steps, .ref a_system_sources, .ref a_system_targets, .ref a_system_labels]))], [(a_system_labels, .inl (G 0, 32, .inl system_labels))], [(a_system_sources, .inl (G 0, 32, .inl system_sources))], [(a_system_targets, .inl (G 0, 32, .inl system_targets))]]) (x_runVN (As := [.int v1]) (rest := []) (ps := [1]) ⟨hx, hb, hml, hown, hts⟩ (k_X3_hasObject l D G h_system a_system_words a_system_sources a_system_targets a_system_labels system_objects system_steps v1 r_5 hr_5) ⟨va_cnB 1 hts gX11_addStep_X3_hasObject_n128 rfl rfl rfl (hE.2 (.methodLinkNest RX11 128 yX3_hasObject RX11) (List.mem_of_getElem? (i := 61) rfl)) (hts (.initialized RX3) (List.mem_of_getElem? (i := 3) rfl)) (by decide +kernel) ⟨Nat.le_of_ble_eq_true rfl, Nat.le_of_ble_eq_true rfl⟩, (hts (.instanceMethod yX3_hasObject) (List.mem_of_getElem? (i := 2) rfl)), (hts (.selects RX3 yX3_hasObject yX3_hasObject) (List.mem_of_getElem? (i := 4) rfl))⟩ hE hP hN rfl (by decide) 1 rfl rfl rfl hl.1 (Nat.le_of_ble_eq_true rfl) dX11_addStep_5 ⟨Nat.zero_le _, Nat.zero_le _⟩) hP hN hS rfl rfl (fun H locs hP hS => ?_)
  refine lv_if_eq (tgt := 29) hx hb dX11_addStep_8 (by decide) (fun c_8 => ?_) (fun c_8 => ?_)
  · have hf := it_pos c_8 hf
    refine lv_iconst (v := -1) hx hb dX11_addStep_29 (by decide) ?_
    have hf := Option.some.inj hf
    subst hf
    subst hQ
    exact x_iret hx hb hr hlocks hP hS dX11_addStep_30
  · have hf := it_neg c_8 hf
    refine lv_aload_n hx hb dX11_addStep_11 rfl (lv_at hl 0 rfl) ?_
    refine x_get hx hb hts u_X11_addStep_X11 hown hE hP 0 rfl rfl 1 (by decide) (hts (.fieldLink RX11 19 "DecreasingDiagrams" "system" "LDecreasingDiagrams$LabelledSystem;") (List.mem_of_getElem? (i := 1) rfl)) rfl dX11_addStep_12 ?_
    refine lv_iload_n hx hb dX11_addStep_15 rfl (lv_at hl 2 rfl) ?_
    obtain ⟨r_16, hr_16, hf⟩ := bd_some hf
    refine x_goi (ps := [1]) (I' := [[(h, .inr (10, [.ref h_order, .ref h_system, .ref h_rules, .ref h_savedOrder, .ref h_savedSystem, .ref h_savedRules, .int snapshotSaved, .ref h_peaks, .ref h_leftPaths, .ref h_rightPaths, .ref h_text, .ref h_labellings, .ref h_input, .ref h_explorer, .ref h_arrays, .ref a_reach]))], [(h_system, .inr (3, [.int system_objects, .ref a_system_words, .int system_steps, .ref a_system_sources, .ref a_system_targets, .ref a_system_labels]))], [(a_system_labels, .inl (G 0, 32, .inl system_labels))], [(a_system_sources, .inl (G 0, 32, .inl system_sources))], [(a_system_targets, .inl (G 0, 32, .inl system_targets))]]) (x_runVN (As := [.int v2]) (rest := []) (ps := [1]) ⟨hx, hb, hml, hown, hts⟩ (k_X3_hasObject l D G h_system a_system_words a_system_sources a_system_targets a_system_labels system_objects system_steps v2 r_16 hr_16) ⟨va_cnB 1 hts gX11_addStep_X3_hasObject_n128 rfl rfl rfl (hE.2 (.methodLinkNest RX11 128 yX3_hasObject RX11) (List.mem_of_getElem? (i := 61) rfl)) (hts (.initialized RX3) (List.mem_of_getElem? (i := 3) rfl)) (by decide +kernel) ⟨Nat.le_of_ble_eq_true rfl, Nat.le_of_ble_eq_true rfl⟩, (hts (.instanceMethod yX3_hasObject) (List.mem_of_getElem? (i := 2) rfl)), (hts (.selects RX3 yX3_hasObject yX3_hasObject) (List.mem_of_getElem? (i := 4) rfl))⟩ hE hP hN rfl (by decide) 1 rfl rfl rfl hl.1 (Nat.le_of_ble_eq_true rfl) dX11_addStep_16 ⟨Nat.zero_le _, Nat.zero_le _⟩) hP hN hS rfl rfl (fun H locs hP hS => ?_)
    refine lv_if_eq (tgt := 29) hx hb dX11_addStep_19 (by decide) (fun c_19 => ?_) (fun c_19 => ?_)
    · have hf := it_pos c_19 hf
      refine lv_iconst (v := -1) hx hb dX11_addStep_29 (by decide) ?_
      have hf := Option.some.inj hf
      subst hf
      subst hQ
      exact x_iret hx hb hr hlocks hP hS dX11_addStep_30
    · have hf := it_neg c_19 hf
      refine lv_iload_n hx hb dX11_addStep_22 rfl (lv_at hl 3 rfl) ?_
      obtain ⟨r_23, hr_23, hf⟩ := bd_some hf
      refine x_goi (ps := []) (I' := [[(h, .inr (10, [.ref h_order, .ref h_system, .ref h_rules, .ref h_savedOrder, .ref h_savedSystem, .ref h_savedRules, .int snapshotSaved, .ref h_peaks, .ref h_leftPaths, .ref h_rightPaths, .ref h_text, .ref h_labellings, .ref h_input, .ref h_explorer, .ref h_arrays, .ref a_reach]))], [(h_system, .inr (3, [.int system_objects, .ref a_system_words, .int system_steps, .ref a_system_sources, .ref a_system_targets, .ref a_system_labels]))], [(a_system_labels, .inl (G 0, 32, .inl system_labels))], [(a_system_sources, .inl (G 0, 32, .inl system_sources))], [(a_system_targets, .inl (G 0, 32, .inl system_targets))]]) (x_runS (As := [.int v3]) (rest := []) (ps := []) ⟨hx, hb, hml, hown, hts⟩ (k_X11_isLabel l D G v3 r_23 hr_23) (va_cwS 1 hts gX11_addStep_X11_isLabel rfl rfl rfl (by decide +kernel) ⟨Nat.le_of_ble_eq_true rfl, Nat.le_of_ble_eq_true rfl⟩) hE hP hN rfl (by decide) rfl hl.1 (Nat.le_of_ble_eq_true rfl) dX11_addStep_23 ⟨Nat.zero_le _, Nat.zero_le _⟩) hP hN hS rfl rfl (fun H locs hP hS => ?_)
      refine lv_if_ne (tgt := 31) hx hb dX11_addStep_26 (by decide) (fun c_26 => ?_) (fun c_26 => ?_)
      · have hf := it_pos c_26 hf
        refine lv_aload_n hx hb dX11_addStep_31 rfl (lv_at hl 0 rfl) ?_
        refine x_get hx hb hts u_X11_addStep_X11 hown hE hP 0 rfl rfl 1 (by decide) (hts (.fieldLink RX11 19 "DecreasingDiagrams" "system" "LDecreasingDiagrams$LabelledSystem;") (List.mem_of_getElem? (i := 1) rfl)) rfl dX11_addStep_32 ?_
        refine lv_iload_n hx hb dX11_addStep_35 rfl (lv_at hl 1 rfl) ?_
        refine lv_iload_n hx hb dX11_addStep_36 rfl (lv_at hl 2 rfl) ?_
        refine lv_iload_n hx hb dX11_addStep_37 rfl (lv_at hl 3 rfl) ?_
        obtain ⟨r_38, hr_38, hf⟩ := bd_some hf
        refine x_goi (ps := [1, 2, 3, 4]) (I' := [[(h, .inr (10, [.ref h_order, .ref h_system, .ref h_rules, .ref h_savedOrder, .ref h_savedSystem, .ref h_savedRules, .int snapshotSaved, .ref h_peaks, .ref h_leftPaths, .ref h_rightPaths, .ref h_text, .ref h_labellings, .ref h_input, .ref h_explorer, .ref h_arrays, .ref a_reach]))], [(h_system, .inr (3, [.int system_objects, .ref a_system_words, .int r_38.2.2.2.1, .ref a_system_sources, .ref a_system_targets, .ref a_system_labels]))], [(a_system_labels, .inl (G 0, 32, .inl r_38.2.1))], [(a_system_sources, .inl (G 0, 32, .inl r_38.2.2.1))], [(a_system_targets, .inl (G 0, 32, .inl r_38.2.2.2.2))]]) (x_runVN (As := [.int v1, .int v2, .int v3]) (rest := []) (ps := [1, 2, 3, 4]) ⟨hx, hb, hml, hown, hts⟩ (k_X3_appendStep l D G h_system a_system_words a_system_sources a_system_targets a_system_labels system_objects system_steps system_labels system_sources system_targets v1 v2 v3 r_38 hr_38) ⟨va_cnB 3 hts gX11_addStep_X3_appendStep_n131 rfl rfl rfl (hE.2 (.methodLinkNest RX11 131 yX3_appendStep RX11) (List.mem_of_getElem? (i := 62) rfl)) (hts (.initialized RX3) (List.mem_of_getElem? (i := 3) rfl)) (by decide +kernel) ⟨Nat.le_of_ble_eq_true rfl, Nat.le_of_ble_eq_true rfl⟩, (hts (.instanceMethod yX3_appendStep) (List.mem_of_getElem? (i := 11) rfl)), (hts (.selects RX3 yX3_appendStep yX3_appendStep) (List.mem_of_getElem? (i := 12) rfl))⟩ hE hP hN rfl (by decide) 1 rfl rfl rfl hl.1 (Nat.le_of_ble_eq_true rfl) dX11_addStep_38 ⟨Nat.zero_le _, Nat.zero_le _⟩) hP hN hS rfl rfl (fun H locs hP hS => ?_)
        have hf := Option.some.inj hf
        subst hf
        subst hQ
        exact x_iret hx hb hr hlocks hP hS dX11_addStep_41
      · have hf := it_neg (fun h => h c_26) hf
        refine lv_iconst (v := -1) hx hb dX11_addStep_29 (by decide) ?_
        have hf := Option.some.inj hf
        subst hf
        subst hQ
        exact x_iret hx hb hr hlocks hP hS dX11_addStep_30

set_option maxRecDepth 20000 in
theorem u_X11_applyLabelling_X11 : ∀ w ∈ wsX110, w ∈ wsX11_applyLabelling := xx_pl _ [10, 11, 12, 13, 14, 15, 16, 17, 18, 19, 20, 21, 22, 23, 24, 25] (by decide +kernel)
set_option maxRecDepth 20000 in
theorem u_X11_applyLabelling_X4 : ∀ w ∈ wsX40, w ∈ wsX11_applyLabelling := xx_pl _ [26, 27, 28, 29, 30] (by decide +kernel)
set_option maxRecDepth 20000 in
theorem u_X11_applyLabelling_X3 : ∀ w ∈ wsX30, w ∈ wsX11_applyLabelling := xx_pl _ [31, 32, 33, 34, 35, 36] (by decide +kernel)
def f_X11_applyLabelling_J83  (v1 : Int32) (order_below : (Nat → Int32)) (order_pairs : (Nat → Int32)) (system_labels : (Nat → Int32)) : Option (Int32 × (Nat → Int32) × (Nat → Int32) × (Nat → Int32)) :=
  (f_X2_makeNatural order_below order_pairs).bind (fun r_87 => some (v1, r_87.1, r_87.2, system_labels))
def f_X11_applyLabelling_J77 (rec_24 : (Int32 → Int32 → (Nat → Int32) → Option (Int32 × (Nat → Int32) × (Nat → Int32) × (Nat → Int32)))) (v1 : Int32) (v2 : Int32) (system_labels : (Nat → Int32)) : Option (Int32 × (Nat → Int32) × (Nat → Int32) × (Nat → Int32)) :=
  lt (v2 + 1) (fun v2_77 => rec_24 v1 v2_77 system_labels)
def f_X11_applyLabelling_L24 (labellings_foundSteps : Int32) (labellings_found : (Nat → Int32)) (order_below : (Nat → Int32)) (order_pairs : (Nat → Int32)) (rec_24 : Int32 → Int32 → (Nat → Int32) → Option (Int32 × (Nat → Int32) × (Nat → Int32) × (Nat → Int32))) (v1 : Int32) (v2 : Int32) (system_labels : (Nat → Int32)) : Option (Int32 × (Nat → Int32) × (Nat → Int32) × (Nat → Int32)) :=
  if labellings_foundSteps ≤ v2 then (f_X11_applyLabelling_J83 v1 order_below order_pairs system_labels) else (ck v2 32 (ck v2 8 (if (system_labels v2.toNatClampNeg) = (labellings_found v2.toNatClampNeg) then (f_X11_applyLabelling_J77 rec_24 v1 v2 system_labels) else (ck v2 8 (ck v2 32 (lt (upd system_labels v2.toNatClampNeg (labellings_found v2.toNatClampNeg)) (fun system_labels_73 => lt (v1 + 1) (fun v1_74 => f_X11_applyLabelling_J77 rec_24 v1_74 v2 system_labels_73))))))))
def f_X11_applyLabelling (labellings_foundSteps : Int32) (system_steps : Int32) (labellings_found : (Nat → Int32)) (order_below : (Nat → Int32)) (order_pairs : (Nat → Int32)) (system_labels : (Nat → Int32)) : Option (Int32 × (Nat → Int32) × (Nat → Int32) × (Nat → Int32)) :=
  if labellings_foundSteps = system_steps then (lt 0 (fun v1_21 => lt 0 (fun v2_23 => lp (τ := Int32 → Int32 → (Nat → Int32) → Option (Int32 × (Nat → Int32) × (Nat → Int32) × (Nat → Int32))) (fun _ _ _ => none) (f_X11_applyLabelling_L24 labellings_foundSteps labellings_found order_below order_pairs) fuel v1_21 v2_23 system_labels))) else (some ((-2), order_below, order_pairs, system_labels))
set_option maxHeartbeats 4000000 in
set_option maxRecDepth 100000 in
theorem k_X11_applyLabelling (l : Launch) (D : va_G) (G : Nat → ClassId) (h : Nat) (h_order : Nat) (h_system : Nat) (h_rules : Nat) (h_savedOrder : Nat) (h_savedSystem : Nat) (h_savedRules : Nat) (h_peaks : Nat) (h_leftPaths : Nat) (h_rightPaths : Nat) (h_text : Nat) (h_labellings : Nat) (h_input : Nat) (h_explorer : Nat) (h_arrays : Nat) (a_reach : Nat) (h_labellings_trial : Nat) (h_labellings_natural : Nat) (h_labellings_trialPeaks : Nat) (a_labellings_found : Nat) (a_order_pairs : Nat) (a_order_below : Nat) (a_system_words : Nat) (a_system_sources : Nat) (a_system_targets : Nat) (a_system_labels : Nat) (snapshotSaved : Int32) (labellings_foundSteps : Int32) (system_objects : Int32) (system_steps : Int32) (labellings_found : (Nat → Int32)) (order_below : (Nat → Int32)) (order_pairs : (Nat → Int32)) (system_labels : (Nat → Int32))   (out : Int32 × (Nat → Int32) × (Nat → Int32) × (Nat → Int32)) (hf : f_X11_applyLabelling labellings_foundSteps system_steps labellings_found order_below order_pairs system_labels = some out) : xMet l yX11_applyLabelling wsX11_applyLabelling (rM 1 21) D G [.ref h] [[(h, .inr (10, [.ref h_order, .ref h_system, .ref h_rules, .ref h_savedOrder, .ref h_savedSystem, .ref h_savedRules, .int snapshotSaved, .ref h_peaks, .ref h_leftPaths, .ref h_rightPaths, .ref h_text, .ref h_labellings, .ref h_input, .ref h_explorer, .ref h_arrays, .ref a_reach]))], [(h_labellings, .inr (4, [.ref h_labellings_trial, .ref h_labellings_natural, .ref h_labellings_trialPeaks, .ref a_labellings_found, .int labellings_foundSteps]))], [(a_labellings_found, .inl (G 0, 8, .inl labellings_found))], [(h_order, .inr (2, [.ref a_order_pairs, .ref a_order_below]))], [(a_order_below, .inl (G 0, 8, .inl order_below))], [(a_order_pairs, .inl (G 0, 8, .inl order_pairs))], [(h_system, .inr (3, [.int system_objects, .ref a_system_words, .int system_steps, .ref a_system_sources, .ref a_system_targets, .ref a_system_labels]))], [(a_system_labels, .inl (G 0, 32, .inl system_labels))]] (xQi D [[(h, .inr (10, [.ref h_order, .ref h_system, .ref h_rules, .ref h_savedOrder, .ref h_savedSystem, .ref h_savedRules, .int snapshotSaved, .ref h_peaks, .ref h_leftPaths, .ref h_rightPaths, .ref h_text, .ref h_labellings, .ref h_input, .ref h_explorer, .ref h_arrays, .ref a_reach]))], [(h_labellings, .inr (4, [.ref h_labellings_trial, .ref h_labellings_natural, .ref h_labellings_trialPeaks, .ref a_labellings_found, .int labellings_foundSteps]))], [(a_labellings_found, .inl (G 0, 8, .inl labellings_found))], [(h_order, .inr (2, [.ref a_order_pairs, .ref a_order_below]))], [(a_order_below, .inl (G 0, 8, .inl out.2.1))], [(a_order_pairs, .inl (G 0, 8, .inl out.2.2.1))], [(h_system, .inr (3, [.int system_objects, .ref a_system_words, .int system_steps, .ref a_system_sources, .ref a_system_targets, .ref a_system_labels]))], [(a_system_labels, .inl (G 0, 32, .inl out.2.2.2))]] out.1) := by
  refine x_ent (cc := cX11_applyLabelling) (maxL := 3) (by decide) rfl (Nat.le_of_ble_eq_true rfl) ?_
  intro p e s m below meth c aa ls args Q hQ hx hb hr hml hown hts hlocks hE hN hP hl hS
  have hown : s.vm.findClass RX11 = some m.cls := hown
  have hl : lv_has ls 3 [(0, .ref h)] := hl
  have J83 : ∀ (v1 : Int32) (order_below : (Nat → Int32)) (order_pairs : (Nat → Int32)) (system_labels : (Nat → Int32)) (H : Heap) (locs : List Loc) (ls : Array Slot), xW D aa [[(h, .inr (10, [.ref h_order, .ref h_system, .ref h_rules, .ref h_savedOrder, .ref h_savedSystem, .ref h_savedRules, .int snapshotSaved, .ref h_peaks, .ref h_leftPaths, .ref h_rightPaths, .ref h_text, .ref h_labellings, .ref h_input, .ref h_explorer, .ref h_arrays, .ref a_reach]))], [(h_labellings, .inr (4, [.ref h_labellings_trial, .ref h_labellings_natural, .ref h_labellings_trialPeaks, .ref a_labellings_found, .int labellings_foundSteps]))], [(a_labellings_found, .inl (G 0, 8, .inl labellings_found))], [(h_order, .inr (2, [.ref a_order_pairs, .ref a_order_below]))], [(a_order_below, .inl (G 0, 8, .inl order_below))], [(a_order_pairs, .inl (G 0, 8, .inl order_pairs))], [(h_system, .inr (3, [.int system_objects, .ref a_system_words, .int system_steps, .ref a_system_sources, .ref a_system_targets, .ref a_system_labels]))], [(a_system_labels, .inl (G 0, 32, .inl system_labels))]] H → va_S (xA aa) s.heap H locs → lv_has ls 3 [(0, .ref h), (1, .int v1)] → f_X11_applyLabelling_J83  v1 order_below order_pairs system_labels = some out → W p l e (rM 1 21) s m args below meth c H locs 0 0 Q (F0 m 83 ls []) := by
    intro v1 order_below order_pairs system_labels  H locs ls  hP hS hl hf
    rw [f_X11_applyLabelling_J83] at hf
    refine lv_aload_n hx hb dX11_applyLabelling_83 rfl (lv_at hl 0 rfl) ?_
    refine x_get hx hb hts u_X11_applyLabelling_X11 hown hE hP 0 rfl rfl 0 (by decide) (hts (.fieldLink RX11 12 "DecreasingDiagrams" "order" "LDecreasingDiagrams$LabelOrder;") (List.mem_of_getElem? (i := 3) rfl)) rfl dX11_applyLabelling_84 ?_
    obtain ⟨r_87, hr_87, hf⟩ := bd_some hf
    refine x_gov (ps := [3, 4, 5]) (I' := [[(h, .inr (10, [.ref h_order, .ref h_system, .ref h_rules, .ref h_savedOrder, .ref h_savedSystem, .ref h_savedRules, .int snapshotSaved, .ref h_peaks, .ref h_leftPaths, .ref h_rightPaths, .ref h_text, .ref h_labellings, .ref h_input, .ref h_explorer, .ref h_arrays, .ref a_reach]))], [(h_labellings, .inr (4, [.ref h_labellings_trial, .ref h_labellings_natural, .ref h_labellings_trialPeaks, .ref a_labellings_found, .int labellings_foundSteps]))], [(a_labellings_found, .inl (G 0, 8, .inl labellings_found))], [(h_order, .inr (2, [.ref a_order_pairs, .ref a_order_below]))], [(a_order_below, .inl (G 0, 8, .inl r_87.1))], [(a_order_pairs, .inl (G 0, 8, .inl r_87.2))], [(h_system, .inr (3, [.int system_objects, .ref a_system_words, .int system_steps, .ref a_system_sources, .ref a_system_targets, .ref a_system_labels]))], [(a_system_labels, .inl (G 0, 32, .inl system_labels))]]) (x_runVN (As := []) (rest := []) (ps := [3, 4, 5]) ⟨hx, hb, hml, hown, hts⟩ (k_X2_makeNatural l D G h_order a_order_pairs a_order_below order_below order_pairs r_87 hr_87) ⟨va_cnB 0 hts gX11_applyLabelling_X2_makeNatural_n121 rfl rfl rfl (hE.2 (.methodLinkNest RX11 121 yX2_makeNatural RX11) (List.mem_of_getElem? (i := 59) rfl)) (hts (.initialized RX2) (List.mem_of_getElem? (i := 5) rfl)) (by decide +kernel) ⟨Nat.le_of_ble_eq_true rfl, Nat.le_of_ble_eq_true rfl⟩, (hts (.instanceMethod yX2_makeNatural) (List.mem_of_getElem? (i := 4) rfl)), (hts (.selects RX2 yX2_makeNatural yX2_makeNatural) (List.mem_of_getElem? (i := 6) rfl))⟩ hE hP hN rfl (by decide) 3 rfl rfl rfl hl.1 (Nat.le_of_ble_eq_true rfl) dX11_applyLabelling_87 ⟨Nat.zero_le _, Nat.zero_le _⟩) hP hN hS rfl rfl (fun H locs hP hS => ?_)
    refine lv_iload_n hx hb dX11_applyLabelling_90 rfl (lv_at hl 1 rfl) ?_
    have hf := Option.some.inj hf
    subst hf
    subst hQ
    exact x_iret hx hb hr hlocks hP hS dX11_applyLabelling_91
  have L24 : ∀ (order_below : (Nat → Int32)) (order_pairs : (Nat → Int32)), ∀ (n_24 : Nat) (v1 : Int32) (v2 : Int32) (system_labels : (Nat → Int32)) (H : Heap) (locs : List Loc) (ls : Array Slot), xW D aa [[(h, .inr (10, [.ref h_order, .ref h_system, .ref h_rules, .ref h_savedOrder, .ref h_savedSystem, .ref h_savedRules, .int snapshotSaved, .ref h_peaks, .ref h_leftPaths, .ref h_rightPaths, .ref h_text, .ref h_labellings, .ref h_input, .ref h_explorer, .ref h_arrays, .ref a_reach]))], [(h_labellings, .inr (4, [.ref h_labellings_trial, .ref h_labellings_natural, .ref h_labellings_trialPeaks, .ref a_labellings_found, .int labellings_foundSteps]))], [(a_labellings_found, .inl (G 0, 8, .inl labellings_found))], [(h_order, .inr (2, [.ref a_order_pairs, .ref a_order_below]))], [(a_order_below, .inl (G 0, 8, .inl order_below))], [(a_order_pairs, .inl (G 0, 8, .inl order_pairs))], [(h_system, .inr (3, [.int system_objects, .ref a_system_words, .int system_steps, .ref a_system_sources, .ref a_system_targets, .ref a_system_labels]))], [(a_system_labels, .inl (G 0, 32, .inl system_labels))]] H → va_S (xA aa) s.heap H locs → lv_has ls 3 [(0, .ref h), (1, .int v1), (2, .int v2)] → lp (τ := Int32 → Int32 → (Nat → Int32) → Option (Int32 × (Nat → Int32) × (Nat → Int32) × (Nat → Int32))) (fun _ _ _ => none) (f_X11_applyLabelling_L24 labellings_foundSteps labellings_found order_below order_pairs) n_24 v1 v2 system_labels = some out → W p l e (rM 1 21) s m args below meth c H locs 0 0 Q (F0 m 24 ls []) := by
    intro order_below order_pairs   n_24
    induction n_24 with
    | zero =>
      intro v1 v2 system_labels H locs ls hP hS hl hf
      exact no_some hf
    | succ n_24 ih_24 =>
      intro v1 v2 system_labels H locs ls hP hS hl hf
      have hf : f_X11_applyLabelling_L24 labellings_foundSteps labellings_found order_below order_pairs (lp (τ := Int32 → Int32 → (Nat → Int32) → Option (Int32 × (Nat → Int32) × (Nat → Int32) × (Nat → Int32))) (fun _ _ _ => none) (f_X11_applyLabelling_L24 labellings_foundSteps labellings_found order_below order_pairs) n_24) v1 v2 system_labels = some out := hf
      rw [f_X11_applyLabelling_L24] at hf
      have J77 : ∀ (v1 : Int32) (v2 : Int32) (system_labels : (Nat → Int32)) (H : Heap) (locs : List Loc) (ls : Array Slot), xW D aa [[(h, .inr (10, [.ref h_order, .ref h_system, .ref h_rules, .ref h_savedOrder, .ref h_savedSystem, .ref h_savedRules, .int snapshotSaved, .ref h_peaks, .ref h_leftPaths, .ref h_rightPaths, .ref h_text, .ref h_labellings, .ref h_input, .ref h_explorer, .ref h_arrays, .ref a_reach]))], [(h_labellings, .inr (4, [.ref h_labellings_trial, .ref h_labellings_natural, .ref h_labellings_trialPeaks, .ref a_labellings_found, .int labellings_foundSteps]))], [(a_labellings_found, .inl (G 0, 8, .inl labellings_found))], [(h_order, .inr (2, [.ref a_order_pairs, .ref a_order_below]))], [(a_order_below, .inl (G 0, 8, .inl order_below))], [(a_order_pairs, .inl (G 0, 8, .inl order_pairs))], [(h_system, .inr (3, [.int system_objects, .ref a_system_words, .int system_steps, .ref a_system_sources, .ref a_system_targets, .ref a_system_labels]))], [(a_system_labels, .inl (G 0, 32, .inl system_labels))]] H → va_S (xA aa) s.heap H locs → lv_has ls 3 [(0, .ref h), (1, .int v1), (2, .int v2)] → f_X11_applyLabelling_J77 (lp (τ := Int32 → Int32 → (Nat → Int32) → Option (Int32 × (Nat → Int32) × (Nat → Int32) × (Nat → Int32))) (fun _ _ _ => none) (f_X11_applyLabelling_L24 labellings_foundSteps labellings_found order_below order_pairs) n_24) v1 v2 system_labels = some out → W p l e (rM 1 21) s m args below meth c H locs 0 0 Q (F0 m 77 ls []) := by
        intro v1 v2 system_labels  H locs ls  hP hS hl hf
        rw [f_X11_applyLabelling_J77] at hf
        obtain ⟨v2_77, e_v2_77, hf⟩ := lt_some hf
        refine lv_iinc (v := v2_77) (lv' := [(2, .int v2_77), (0, .ref h), (1, .int v1)]) hx hb dX11_applyLabelling_77 hl (k := 2) rfl (by rw [e_v2_77]; rfl) (by decide) rfl (fun ls hl => ?_)
        refine lv_goto (tgt := 24) hx hb dX11_applyLabelling_80 (by decide) ?_
        exact ih_24 v1 v2_77 system_labels H locs ls hP hS (lv_sub hl [1, 2, 0] rfl) hf
      refine lv_iload_n hx hb dX11_applyLabelling_24 rfl (lv_at hl 2 rfl) ?_
      refine lv_aload_n hx hb dX11_applyLabelling_25 rfl (lv_at hl 0 rfl) ?_
      refine x_get hx hb hts u_X11_applyLabelling_X11 hown hE hP 0 rfl rfl 11 (by decide) (hts (.fieldLink RX11 70 "DecreasingDiagrams" "labellings" "LDecreasingDiagrams$LabellingSearch;") (List.mem_of_getElem? (i := 1) rfl)) rfl dX11_applyLabelling_26 ?_
      refine x_getN hx hb hts u_X11_applyLabelling_X4 hown hE hP 1 rfl rfl 4 (by decide) (hE.2 (.fieldLinkNest RX11 265 "DecreasingDiagrams$LabellingSearch" "foundSteps" "I" RX11) (List.mem_of_getElem? (i := 41) rfl)) rfl dX11_applyLabelling_29 ?_
      refine lv_icmp_ge (tgt := 83) hx hb dX11_applyLabelling_32 (by decide) (fun c_32 => ?_) (fun c_32 => ?_)
      · have hf := it_pos c_32 hf
        exact J83 v1 order_below order_pairs system_labels  H locs ls  hP hS (lv_sub hl [0, 1] rfl) hf
      · have hf := it_neg c_32 hf
        refine lv_aload_n hx hb dX11_applyLabelling_35 rfl (lv_at hl 0 rfl) ?_
        refine x_get hx hb hts u_X11_applyLabelling_X11 hown hE hP 0 rfl rfl 1 (by decide) (hts (.fieldLink RX11 19 "DecreasingDiagrams" "system" "LDecreasingDiagrams$LabelledSystem;") (List.mem_of_getElem? (i := 2) rfl)) rfl dX11_applyLabelling_36 ?_
        refine x_getN hx hb hts u_X11_applyLabelling_X3 hown hE hP 6 rfl rfl 5 (by decide) (hE.2 (.fieldLinkNest RX11 146 "DecreasingDiagrams$LabelledSystem" "labels" "[I" RX11) (List.mem_of_getElem? (i := 21) rfl)) rfl dX11_applyLabelling_39 ?_
        refine lv_iload_n hx hb dX11_applyLabelling_42 rfl (lv_at hl 2 rfl) ?_
        obtain ⟨hi, hf⟩ := ck_some hf
        refine x_iald hx hb hE hP 7 rfl hi dX11_applyLabelling_43 ?_
        refine lv_aload_n hx hb dX11_applyLabelling_44 rfl (lv_at hl 0 rfl) ?_
        refine x_get hx hb hts u_X11_applyLabelling_X11 hown hE hP 0 rfl rfl 11 (by decide) (hts (.fieldLink RX11 70 "DecreasingDiagrams" "labellings" "LDecreasingDiagrams$LabellingSearch;") (List.mem_of_getElem? (i := 1) rfl)) rfl dX11_applyLabelling_45 ?_
        refine x_getN hx hb hts u_X11_applyLabelling_X4 hown hE hP 1 rfl rfl 3 (by decide) (hE.2 (.fieldLinkNest RX11 268 "DecreasingDiagrams$LabellingSearch" "found" "[I" RX11) (List.mem_of_getElem? (i := 40) rfl)) rfl dX11_applyLabelling_48 ?_
        refine lv_iload_n hx hb dX11_applyLabelling_51 rfl (lv_at hl 2 rfl) ?_
        obtain ⟨hi, hf⟩ := ck_some hf
        refine x_iald hx hb hE hP 2 rfl hi dX11_applyLabelling_52 ?_
        refine lv_icmp_eq (tgt := 77) hx hb dX11_applyLabelling_53 (by decide) (fun c_53 => ?_) (fun c_53 => ?_)
        · have hf := it_pos c_53 hf
          exact J77 v1 v2 system_labels  H locs ls  hP hS (lv_sub hl [0, 1, 2] rfl) hf
        · have hf := it_neg c_53 hf
          refine lv_aload_n hx hb dX11_applyLabelling_56 rfl (lv_at hl 0 rfl) ?_
          refine x_get hx hb hts u_X11_applyLabelling_X11 hown hE hP 0 rfl rfl 1 (by decide) (hts (.fieldLink RX11 19 "DecreasingDiagrams" "system" "LDecreasingDiagrams$LabelledSystem;") (List.mem_of_getElem? (i := 2) rfl)) rfl dX11_applyLabelling_57 ?_
          refine x_getN hx hb hts u_X11_applyLabelling_X3 hown hE hP 6 rfl rfl 5 (by decide) (hE.2 (.fieldLinkNest RX11 146 "DecreasingDiagrams$LabelledSystem" "labels" "[I" RX11) (List.mem_of_getElem? (i := 21) rfl)) rfl dX11_applyLabelling_60 ?_
          refine lv_iload_n hx hb dX11_applyLabelling_63 rfl (lv_at hl 2 rfl) ?_
          refine lv_aload_n hx hb dX11_applyLabelling_64 rfl (lv_at hl 0 rfl) ?_
          refine x_get hx hb hts u_X11_applyLabelling_X11 hown hE hP 0 rfl rfl 11 (by decide) (hts (.fieldLink RX11 70 "DecreasingDiagrams" "labellings" "LDecreasingDiagrams$LabellingSearch;") (List.mem_of_getElem? (i := 1) rfl)) rfl dX11_applyLabelling_65 ?_
          refine x_getN hx hb hts u_X11_applyLabelling_X4 hown hE hP 1 rfl rfl 3 (by decide) (hE.2 (.fieldLinkNest RX11 268 "DecreasingDiagrams$LabellingSearch" "found" "[I" RX11) (List.mem_of_getElem? (i := 40) rfl)) rfl dX11_applyLabelling_68 ?_
          refine lv_iload_n hx hb dX11_applyLabelling_71 rfl (lv_at hl 2 rfl) ?_
          obtain ⟨hi, hf⟩ := ck_some hf
          refine x_iald hx hb hE hP 2 rfl hi dX11_applyLabelling_72 ?_
          obtain ⟨hi, hf⟩ := ck_some hf
          obtain ⟨system_labels_73, e_system_labels_73, hf⟩ := lt_some hf
          refine x_iast (I' := [[(h, .inr (10, [.ref h_order, .ref h_system, .ref h_rules, .ref h_savedOrder, .ref h_savedSystem, .ref h_savedRules, .int snapshotSaved, .ref h_peaks, .ref h_leftPaths, .ref h_rightPaths, .ref h_text, .ref h_labellings, .ref h_input, .ref h_explorer, .ref h_arrays, .ref a_reach]))], [(h_labellings, .inr (4, [.ref h_labellings_trial, .ref h_labellings_natural, .ref h_labellings_trialPeaks, .ref a_labellings_found, .int labellings_foundSteps]))], [(a_labellings_found, .inl (G 0, 8, .inl labellings_found))], [(h_order, .inr (2, [.ref a_order_pairs, .ref a_order_below]))], [(a_order_below, .inl (G 0, 8, .inl order_below))], [(a_order_pairs, .inl (G 0, 8, .inl order_pairs))], [(h_system, .inr (3, [.int system_objects, .ref a_system_words, .int system_steps, .ref a_system_sources, .ref a_system_targets, .ref a_system_labels]))], [(a_system_labels, .inl (G 0, 32, .inl system_labels_73))]]) hx hb hE hP hN hS 7 rfl hi e_system_labels_73 rfl dX11_applyLabelling_73 (fun H locs hP hS => ?_)
          obtain ⟨v1_74, e_v1_74, hf⟩ := lt_some hf
          refine lv_iinc (v := v1_74) (lv' := [(1, .int v1_74), (0, .ref h), (2, .int v2)]) hx hb dX11_applyLabelling_74 hl (k := 1) rfl (by rw [e_v1_74]; rfl) (by decide) rfl (fun ls hl => ?_)
          exact J77 v1_74 v2 system_labels_73  H locs ls  hP hS (lv_sub hl [1, 0, 2] rfl) hf
  rw [f_X11_applyLabelling] at hf
  obtain ⟨H, hH⟩ : ∃ H : Heap, H = s.heap := ⟨_, rfl⟩
  obtain ⟨locs, hlocs⟩ : ∃ locs : List Loc, locs = [] := ⟨_, rfl⟩
  have hP : xW D aa [[(h, .inr (10, [.ref h_order, .ref h_system, .ref h_rules, .ref h_savedOrder, .ref h_savedSystem, .ref h_savedRules, .int snapshotSaved, .ref h_peaks, .ref h_leftPaths, .ref h_rightPaths, .ref h_text, .ref h_labellings, .ref h_input, .ref h_explorer, .ref h_arrays, .ref a_reach]))], [(h_labellings, .inr (4, [.ref h_labellings_trial, .ref h_labellings_natural, .ref h_labellings_trialPeaks, .ref a_labellings_found, .int labellings_foundSteps]))], [(a_labellings_found, .inl (G 0, 8, .inl labellings_found))], [(h_order, .inr (2, [.ref a_order_pairs, .ref a_order_below]))], [(a_order_below, .inl (G 0, 8, .inl order_below))], [(a_order_pairs, .inl (G 0, 8, .inl order_pairs))], [(h_system, .inr (3, [.int system_objects, .ref a_system_words, .int system_steps, .ref a_system_sources, .ref a_system_targets, .ref a_system_labels]))], [(a_system_labels, .inl (G 0, 32, .inl system_labels))]] H := by rw [hH]; exact hP
  have hS : va_S (xA aa) s.heap H locs := by rw [hH, hlocs]; exact hS
  suffices GO : W p l e (rM 1 21) s m args below meth c H locs 0 0 Q (F0 m 0 ls []) by
    rw [hH, hlocs] at GO
    exact GO
  clear hH hlocs
  refine lv_aload_n hx hb dX11_applyLabelling_0 rfl (lv_at hl 0 rfl) ?_
  refine x_get hx hb hts u_X11_applyLabelling_X11 hown hE hP 0 rfl rfl 11 (by decide) (hts (.fieldLink RX11 70 "DecreasingDiagrams" "labellings" "LDecreasingDiagrams$LabellingSearch;") (List.mem_of_getElem? (i := 1) rfl)) rfl dX11_applyLabelling_1 ?_
  refine x_getN hx hb hts u_X11_applyLabelling_X4 hown hE hP 1 rfl rfl 4 (by decide) (hE.2 (.fieldLinkNest RX11 265 "DecreasingDiagrams$LabellingSearch" "foundSteps" "I" RX11) (List.mem_of_getElem? (i := 41) rfl)) rfl dX11_applyLabelling_4 ?_
  refine lv_aload_n hx hb dX11_applyLabelling_7 rfl (lv_at hl 0 rfl) ?_
  refine x_get hx hb hts u_X11_applyLabelling_X11 hown hE hP 0 rfl rfl 1 (by decide) (hts (.fieldLink RX11 19 "DecreasingDiagrams" "system" "LDecreasingDiagrams$LabelledSystem;") (List.mem_of_getElem? (i := 2) rfl)) rfl dX11_applyLabelling_8 ?_
  refine x_getN hx hb hts u_X11_applyLabelling_X3 hown hE hP 6 rfl rfl 2 (by decide) (hE.2 (.fieldLinkNest RX11 142 "DecreasingDiagrams$LabelledSystem" "steps" "I" RX11) (List.mem_of_getElem? (i := 11) rfl)) rfl dX11_applyLabelling_11 ?_
  refine lv_icmp_eq (tgt := 20) hx hb dX11_applyLabelling_14 (by decide) (fun c_14 => ?_) (fun c_14 => ?_)
  · have hf := it_pos c_14 hf
    refine lv_iconst (v := 0) hx hb dX11_applyLabelling_20 (by decide) ?_
    obtain ⟨v1_21, e_v1_21, hf⟩ := lt_some hf
    refine x_istore_n (v := v1_21) (lv' := [(1, .int v1_21), (0, .ref h)]) hx hb dX11_applyLabelling_21 e_v1_21 rfl hl (by decide) rfl (fun ls hl => ?_)
    refine lv_iconst (v := 0) hx hb dX11_applyLabelling_22 (by decide) ?_
    obtain ⟨v2_23, e_v2_23, hf⟩ := lt_some hf
    refine x_istore_n (v := v2_23) (lv' := [(2, .int v2_23), (1, .int v1_21), (0, .ref h)]) hx hb dX11_applyLabelling_23 e_v2_23 rfl hl (by decide) rfl (fun ls hl => ?_)
    exact L24 order_below order_pairs   fuel v1_21 v2_23 system_labels H locs ls hP hS (lv_sub hl [2, 1, 0] rfl) hf
  · have hf := it_neg c_14 hf
    refine lv_bipush (v := -2) hx hb dX11_applyLabelling_17 (by decide) ?_
    have hf := Option.some.inj hf
    subst hf
    subst hQ
    exact x_iret hx hb hr hlocks hP hS dX11_applyLabelling_19

set_option maxRecDepth 20000 in
theorem u_X11_clearRules_X11 : ∀ w ∈ wsX110, w ∈ wsX11_clearRules := xx_pl _ [2, 3, 4, 5, 6, 7, 8, 9, 10, 11, 12, 13, 14, 15, 16, 17] (by decide +kernel)
set_option maxRecDepth 20000 in
theorem u_X11_clearRules_X8 : ∀ w ∈ wsX80, w ∈ wsX11_clearRules := xx_pl _ [18, 19, 20] (by decide +kernel)
def f_X11_clearRules (rules_count : Int32) : Option (Int32 × Int32) :=
  lt rules_count (fun v1_7 => lt 0 (fun rules_count_13 => some (v1_7, rules_count_13)))
set_option maxHeartbeats 4000000 in
set_option maxRecDepth 100000 in
theorem k_X11_clearRules (l : Launch) (D : va_G) (G : Nat → ClassId) (h : Nat) (h_order : Nat) (h_system : Nat) (h_rules : Nat) (h_savedOrder : Nat) (h_savedSystem : Nat) (h_savedRules : Nat) (h_peaks : Nat) (h_leftPaths : Nat) (h_rightPaths : Nat) (h_text : Nat) (h_labellings : Nat) (h_input : Nat) (h_explorer : Nat) (h_arrays : Nat) (a_reach : Nat) (a_rules_lefts : Nat) (a_rules_rights : Nat) (snapshotSaved : Int32) (rules_count : Int32)   (out : Int32 × Int32) (hf : f_X11_clearRules rules_count = some out) : xMet l yX11_clearRules wsX11_clearRules (rM 0 0) D G [.ref h] [[(h, .inr (10, [.ref h_order, .ref h_system, .ref h_rules, .ref h_savedOrder, .ref h_savedSystem, .ref h_savedRules, .int snapshotSaved, .ref h_peaks, .ref h_leftPaths, .ref h_rightPaths, .ref h_text, .ref h_labellings, .ref h_input, .ref h_explorer, .ref h_arrays, .ref a_reach]))], [(h_rules, .inr (8, [.int rules_count, .ref a_rules_lefts, .ref a_rules_rights]))]] (xQi D [[(h, .inr (10, [.ref h_order, .ref h_system, .ref h_rules, .ref h_savedOrder, .ref h_savedSystem, .ref h_savedRules, .int snapshotSaved, .ref h_peaks, .ref h_leftPaths, .ref h_rightPaths, .ref h_text, .ref h_labellings, .ref h_input, .ref h_explorer, .ref h_arrays, .ref a_reach]))], [(h_rules, .inr (8, [.int out.2, .ref a_rules_lefts, .ref a_rules_rights]))]] out.1) := by
  refine x_ent (cc := cX11_clearRules) (maxL := 2) (by decide) rfl (Nat.le_of_ble_eq_true rfl) ?_
  intro p e s m below meth c aa ls args Q hQ hx hb hr hml hown hts hlocks hE hN hP hl hS
  have hown : s.vm.findClass RX11 = some m.cls := hown
  have hl : lv_has ls 2 [(0, .ref h)] := hl
  rw [f_X11_clearRules] at hf
  obtain ⟨H, hH⟩ : ∃ H : Heap, H = s.heap := ⟨_, rfl⟩
  obtain ⟨locs, hlocs⟩ : ∃ locs : List Loc, locs = [] := ⟨_, rfl⟩
  have hP : xW D aa [[(h, .inr (10, [.ref h_order, .ref h_system, .ref h_rules, .ref h_savedOrder, .ref h_savedSystem, .ref h_savedRules, .int snapshotSaved, .ref h_peaks, .ref h_leftPaths, .ref h_rightPaths, .ref h_text, .ref h_labellings, .ref h_input, .ref h_explorer, .ref h_arrays, .ref a_reach]))], [(h_rules, .inr (8, [.int rules_count, .ref a_rules_lefts, .ref a_rules_rights]))]] H := by rw [hH]; exact hP
  have hS : va_S (xA aa) s.heap H locs := by rw [hH, hlocs]; exact hS
  suffices GO : W p l e (rM 0 0) s m args below meth c H locs 0 0 Q (F0 m 0 ls []) by
    rw [hH, hlocs] at GO
    exact GO
  clear hH hlocs
  refine lv_aload_n hx hb dX11_clearRules_0 rfl (lv_at hl 0 rfl) ?_
  refine x_get hx hb hts u_X11_clearRules_X11 hown hE hP 0 rfl rfl 2 (by decide) (hts (.fieldLink RX11 26 "DecreasingDiagrams" "rules" "LDecreasingDiagrams$RuleSet;") (List.mem_of_getElem? (i := 1) rfl)) rfl dX11_clearRules_1 ?_
  refine x_getN hx hb hts u_X11_clearRules_X8 hown hE hP 1 rfl rfl 0 (by decide) (hE.2 (.fieldLinkNest RX11 275 "DecreasingDiagrams$RuleSet" "count" "I" RX11) (List.mem_of_getElem? (i := 24) rfl)) rfl dX11_clearRules_4 ?_
  obtain ⟨v1_7, e_v1_7, hf⟩ := lt_some hf
  refine x_istore_n (v := v1_7) (lv' := [(1, .int v1_7), (0, .ref h)]) hx hb dX11_clearRules_7 e_v1_7 rfl hl (by decide) rfl (fun ls hl => ?_)
  refine lv_aload_n hx hb dX11_clearRules_8 rfl (lv_at hl 1 rfl) ?_
  refine x_get hx hb hts u_X11_clearRules_X11 hown hE hP 0 rfl rfl 2 (by decide) (hts (.fieldLink RX11 26 "DecreasingDiagrams" "rules" "LDecreasingDiagrams$RuleSet;") (List.mem_of_getElem? (i := 1) rfl)) rfl dX11_clearRules_9 ?_
  refine lv_iconst (v := 0) hx hb dX11_clearRules_12 (by decide) ?_
  obtain ⟨rules_count_13, e_rules_count_13, hf⟩ := lt_some hf
  refine x_putN (w := .int rules_count_13) (ty := .int) (I' := [[(h, .inr (10, [.ref h_order, .ref h_system, .ref h_rules, .ref h_savedOrder, .ref h_savedSystem, .ref h_savedRules, .int snapshotSaved, .ref h_peaks, .ref h_leftPaths, .ref h_rightPaths, .ref h_text, .ref h_labellings, .ref h_input, .ref h_explorer, .ref h_arrays, .ref a_reach]))], [(h_rules, .inr (8, [.int rules_count_13, .ref a_rules_lefts, .ref a_rules_rights]))]]) hx hb hts u_X11_clearRules_X8 tyX8 tyX8_ok nmX8 hown hE hP hN hS 1 rfl rfl 0 (by decide) (hE.2 (.fieldLinkNest RX11 275 "DecreasingDiagrams$RuleSet" "count" "I" RX11) (List.mem_of_getElem? (i := 24) rfl)) rfl (congrArg Value.int e_rules_count_13) (by decide +kernel) rfl rfl (Nat.le_of_ble_eq_true rfl) rfl dX11_clearRules_13 (fun H locs hP hS => ?_)
  refine lv_iload_n hx hb dX11_clearRules_16 rfl (lv_at hl 0 rfl) ?_
  have hf := Option.some.inj hf
  subst hf
  subst hQ
  exact x_iret hx hb hr hlocks hP hS dX11_clearRules_17

set_option maxRecDepth 20000 in
theorem u_X11_clearSystem_X11 : ∀ w ∈ wsX110, w ∈ wsX11_clearSystem := xx_pl _ [8, 9, 10, 11, 12, 13, 14, 15, 16, 17, 18, 19, 20, 21, 22, 23] (by decide +kernel)
set_option maxRecDepth 20000 in
theorem u_X11_clearSystem_X3 : ∀ w ∈ wsX30, w ∈ wsX11_clearSystem := xx_pl _ [24, 25, 26, 27, 28, 29] (by decide +kernel)
def f_X11_clearSystem (system_objects : Int32) : Option (Int32 × Int32 × Int32) :=
  lt system_objects (fun v1_7 => (f_X3_clear).bind (fun r_12 => some (v1_7, r_12.1, r_12.2)))
set_option maxHeartbeats 4000000 in
set_option maxRecDepth 100000 in
theorem k_X11_clearSystem (l : Launch) (D : va_G) (G : Nat → ClassId) (h : Nat) (h_order : Nat) (h_system : Nat) (h_rules : Nat) (h_savedOrder : Nat) (h_savedSystem : Nat) (h_savedRules : Nat) (h_peaks : Nat) (h_leftPaths : Nat) (h_rightPaths : Nat) (h_text : Nat) (h_labellings : Nat) (h_input : Nat) (h_explorer : Nat) (h_arrays : Nat) (a_reach : Nat) (a_system_words : Nat) (a_system_sources : Nat) (a_system_targets : Nat) (a_system_labels : Nat) (snapshotSaved : Int32) (system_objects : Int32) (system_steps : Int32)   (out : Int32 × Int32 × Int32) (hf : f_X11_clearSystem system_objects = some out) : xMet l yX11_clearSystem wsX11_clearSystem (rM 1 20) D G [.ref h] [[(h, .inr (10, [.ref h_order, .ref h_system, .ref h_rules, .ref h_savedOrder, .ref h_savedSystem, .ref h_savedRules, .int snapshotSaved, .ref h_peaks, .ref h_leftPaths, .ref h_rightPaths, .ref h_text, .ref h_labellings, .ref h_input, .ref h_explorer, .ref h_arrays, .ref a_reach]))], [(h_system, .inr (3, [.int system_objects, .ref a_system_words, .int system_steps, .ref a_system_sources, .ref a_system_targets, .ref a_system_labels]))]] (xQi D [[(h, .inr (10, [.ref h_order, .ref h_system, .ref h_rules, .ref h_savedOrder, .ref h_savedSystem, .ref h_savedRules, .int snapshotSaved, .ref h_peaks, .ref h_leftPaths, .ref h_rightPaths, .ref h_text, .ref h_labellings, .ref h_input, .ref h_explorer, .ref h_arrays, .ref a_reach]))], [(h_system, .inr (3, [.int out.2.1, .ref a_system_words, .int out.2.2, .ref a_system_sources, .ref a_system_targets, .ref a_system_labels]))]] out.1) := by
  refine x_ent (cc := cX11_clearSystem) (maxL := 2) (by decide) rfl (Nat.le_of_ble_eq_true rfl) ?_
  intro p e s m below meth c aa ls args Q hQ hx hb hr hml hown hts hlocks hE hN hP hl hS
  have hown : s.vm.findClass RX11 = some m.cls := hown
  have hl : lv_has ls 2 [(0, .ref h)] := hl
  rw [f_X11_clearSystem] at hf
  obtain ⟨H, hH⟩ : ∃ H : Heap, H = s.heap := ⟨_, rfl⟩
  obtain ⟨locs, hlocs⟩ : ∃ locs : List Loc, locs = [] := ⟨_, rfl⟩
  have hP : xW D aa [[(h, .inr (10, [.ref h_order, .ref h_system, .ref h_rules, .ref h_savedOrder, .ref h_savedSystem, .ref h_savedRules, .int snapshotSaved, .ref h_peaks, .ref h_leftPaths, .ref h_rightPaths, .ref h_text, .ref h_labellings, .ref h_input, .ref h_explorer, .ref h_arrays, .ref a_reach]))], [(h_system, .inr (3, [.int system_objects, .ref a_system_words, .int system_steps, .ref a_system_sources, .ref a_system_targets, .ref a_system_labels]))]] H := by rw [hH]; exact hP
  have hS : va_S (xA aa) s.heap H locs := by rw [hH, hlocs]; exact hS
  suffices GO : W p l e (rM 1 20) s m args below meth c H locs 0 0 Q (F0 m 0 ls []) by
    rw [hH, hlocs] at GO
    exact GO
  clear hH hlocs
  refine lv_aload_n hx hb dX11_clearSystem_0 rfl (lv_at hl 0 rfl) ?_
  refine x_get hx hb hts u_X11_clearSystem_X11 hown hE hP 0 rfl rfl 1 (by decide) (hts (.fieldLink RX11 19 "DecreasingDiagrams" "system" "LDecreasingDiagrams$LabelledSystem;") (List.mem_of_getElem? (i := 1) rfl)) rfl dX11_clearSystem_1 ?_
  refine x_getN hx hb hts u_X11_clearSystem_X3 hown hE hP 1 rfl rfl 0 (by decide) (hE.2 (.fieldLinkNest RX11 149 "DecreasingDiagrams$LabelledSystem" "objects" "I" RX11) (List.mem_of_getElem? (i := 5) rfl)) rfl dX11_clearSystem_4 ?_
  obtain ⟨v1_7, e_v1_7, hf⟩ := lt_some hf
  refine x_istore_n (v := v1_7) (lv' := [(1, .int v1_7), (0, .ref h)]) hx hb dX11_clearSystem_7 e_v1_7 rfl hl (by decide) rfl (fun ls hl => ?_)
  refine lv_aload_n hx hb dX11_clearSystem_8 rfl (lv_at hl 1 rfl) ?_
  refine x_get hx hb hts u_X11_clearSystem_X11 hown hE hP 0 rfl rfl 1 (by decide) (hts (.fieldLink RX11 19 "DecreasingDiagrams" "system" "LDecreasingDiagrams$LabelledSystem;") (List.mem_of_getElem? (i := 1) rfl)) rfl dX11_clearSystem_9 ?_
  obtain ⟨r_12, hr_12, hf⟩ := bd_some hf
  refine x_gov (ps := [1]) (I' := [[(h, .inr (10, [.ref h_order, .ref h_system, .ref h_rules, .ref h_savedOrder, .ref h_savedSystem, .ref h_savedRules, .int snapshotSaved, .ref h_peaks, .ref h_leftPaths, .ref h_rightPaths, .ref h_text, .ref h_labellings, .ref h_input, .ref h_explorer, .ref h_arrays, .ref a_reach]))], [(h_system, .inr (3, [.int r_12.1, .ref a_system_words, .int r_12.2, .ref a_system_sources, .ref a_system_targets, .ref a_system_labels]))]]) (x_runVN (As := []) (rest := []) (ps := [1]) ⟨hx, hb, hml, hown, hts⟩ (k_X3_clear l D G h_system a_system_words a_system_sources a_system_targets a_system_labels system_objects system_steps r_12 hr_12) ⟨va_cnB 0 hts gX11_clearSystem_X3_clear_n152 rfl rfl rfl (hE.2 (.methodLinkNest RX11 152 yX3_clear RX11) (List.mem_of_getElem? (i := 65) rfl)) (hts (.initialized RX3) (List.mem_of_getElem? (i := 3) rfl)) (by decide +kernel) ⟨Nat.le_of_ble_eq_true rfl, Nat.le_of_ble_eq_true rfl⟩, (hts (.instanceMethod yX3_clear) (List.mem_of_getElem? (i := 2) rfl)), (hts (.selects RX3 yX3_clear yX3_clear) (List.mem_of_getElem? (i := 4) rfl))⟩ hE hP hN rfl (by decide) 1 rfl rfl rfl hl.1 (Nat.le_of_ble_eq_true rfl) dX11_clearSystem_12 ⟨Nat.zero_le _, Nat.zero_le _⟩) hP hN hS rfl rfl (fun H locs hP hS => ?_)
  refine lv_iload_n hx hb dX11_clearSystem_15 rfl (lv_at hl 0 rfl) ?_
  have hf := Option.some.inj hf
  subst hf
  subst hQ
  exact x_iret hx hb hr hlocks hP hS dX11_clearSystem_16

def f_X11_isArray (v0 : Int32) : Option (Int32) :=
  if v0 < 0 then (some 0) else (if 3 ≤ v0 then (some 0) else (some 1))
set_option maxHeartbeats 4000000 in
set_option maxRecDepth 100000 in
theorem k_X11_isArray (l : Launch) (D : va_G) (G : Nat → ClassId)    (v0 : Int32) (out : Int32) (hf : f_X11_isArray v0 = some out) : xMet l yX11_isArray wsX11_isArray (rM 0 0) D G [.int v0] [] (xQi D [] out) := by
  refine x_ent (cc := cX11_isArray) (maxL := 1) (by decide) rfl (Nat.le_of_ble_eq_true rfl) ?_
  intro p e s m below meth c aa ls args Q hQ hx hb hr hml hown hts hlocks hE hN hP hl hS
  have hown : s.vm.findClass RX11 = some m.cls := hown
  have hl : lv_has ls 1 [(0, .int v0)] := hl
  rw [f_X11_isArray] at hf
  obtain ⟨H, hH⟩ : ∃ H : Heap, H = s.heap := ⟨_, rfl⟩
  obtain ⟨locs, hlocs⟩ : ∃ locs : List Loc, locs = [] := ⟨_, rfl⟩
  have hP : xW D aa [] H := by rw [hH]; exact hP
  have hS : va_S (xA aa) s.heap H locs := by rw [hH, hlocs]; exact hS
  suffices GO : W p l e (rM 0 0) s m args below meth c H locs 0 0 Q (F0 m 0 ls []) by
    rw [hH, hlocs] at GO
    exact GO
  clear hH hlocs
  refine lv_iload_n hx hb dX11_isArray_0 rfl (lv_at hl 0 rfl) ?_
  refine lv_if_lt (tgt := 13) hx hb dX11_isArray_1 (by decide) (fun c_1 => ?_) (fun c_1 => ?_)
  · have hf := it_pos c_1 hf
    refine lv_iconst (v := 0) hx hb dX11_isArray_13 (by decide) ?_
    have hf := Option.some.inj hf
    subst hf
    subst hQ
    exact x_zret hx hb hr hlocks rfl hP hS dX11_isArray_14
  · have hf := it_neg c_1 hf
    refine lv_iload_n hx hb dX11_isArray_4 rfl (lv_at hl 0 rfl) ?_
    refine lv_iconst (v := 3) hx hb dX11_isArray_5 (by decide) ?_
    refine lv_icmp_ge (tgt := 13) hx hb dX11_isArray_6 (by decide) (fun c_6 => ?_) (fun c_6 => ?_)
    · have hf := it_pos c_6 hf
      refine lv_iconst (v := 0) hx hb dX11_isArray_13 (by decide) ?_
      have hf := Option.some.inj hf
      subst hf
      subst hQ
      exact x_zret hx hb hr hlocks rfl hP hS dX11_isArray_14
    · have hf := it_neg c_6 hf
      refine lv_iconst (v := 1) hx hb dX11_isArray_9 (by decide) ?_
      refine lv_goto (tgt := 14) hx hb dX11_isArray_10 (by decide) ?_
      have hf := Option.some.inj hf
      subst hf
      subst hQ
      exact x_zret hx hb hr hlocks rfl hP hS dX11_isArray_14

set_option maxRecDepth 20000 in
theorem u_X11_compareReachable_X11 : ∀ w ∈ wsX110, w ∈ wsX11_compareReachable := xx_pl _ [34, 35, 36, 37, 38, 39, 40, 41, 42, 43, 44, 45, 46, 47, 48, 49] (by decide +kernel)
set_option maxRecDepth 20000 in
theorem u_X11_compareReachable_X3 : ∀ w ∈ wsX30, w ∈ wsX11_compareReachable := xx_pl _ [52, 53, 54, 55, 56, 57] (by decide +kernel)
set_option maxRecDepth 20000 in
theorem u_X11_compareReachable_X5 : ∀ w ∈ wsX50, w ∈ wsX11_compareReachable := xx_pl _ [50, 51] (by decide +kernel)
def f_X11_compareReachable_J98 (system_objects : Int32) (v2 : Int32) (v3 : Int32) (reach : (Nat → Int32)) : Option (Int32 × (Nat → Int32)) :=
  if ¬ v2 = system_objects then (some (v3, reach)) else (some ((-2), reach))
def f_X11_compareReachable_L59 (system_objects : Int32) (arrays_values : (Nat → Nat → Int64)) (reach : (Nat → Int32)) (v1 : Int32) (v2 : Int32) (v3 : Int32) (rec_59 : Int32 → Option (Int32 × (Nat → Int32))) (v4 : Int32) : Option (Int32 × (Nat → Int32)) :=
  if v3 ≤ v4 then (f_X11_compareReachable_J98 system_objects v2 v3 reach) else (ck v1 3 (ck v4 16 (ck v4 16 (if (lg_cmp (arrays_values v1.toNatClampNeg v4.toNatClampNeg) ((reach v4.toNatClampNeg).toInt64)) = 0 then (lt (v4 + 1) (fun v4_92 => rec_59 v4_92)) else (some (v4, reach))))))
def f_X11_compareReachable (system_objects : Int32) (system_steps : Int32) (arrays_sizes : (Nat → Int32)) (arrays_values : (Nat → Nat → Int64)) (reach : (Nat → Int32)) (system_labels : (Nat → Int32)) (system_sources : (Nat → Int32)) (system_targets : (Nat → Int32)) (v1 : Int32) : Option (Int32 × (Nat → Int32)) :=
  (f_X11_isArray v1).bind (fun r_1 => if ¬ r_1 = 0 then ((f_X5_isMissing arrays_sizes v1).bind (fun r_14 => if r_14 = 0 then ((f_X3_fillReach system_objects system_steps reach system_labels system_sources system_targets 16).bind (fun r_31 => ck v1 3 (lt (arrays_sizes v1.toNatClampNeg) (fun v2_43 => lt (if system_objects < v2_43 then system_objects else v2_43) (fun v3_55 => lt 0 (fun v4_57 => lp (τ := Int32 → Option (Int32 × (Nat → Int32))) (fun _ => none) (f_X11_compareReachable_L59 system_objects arrays_values r_31 v1 v2_43 v3_55) fuel v4_57)))))) else (some ((-11), reach)))) else (some ((-1), reach)))
set_option maxHeartbeats 4000000 in
set_option maxRecDepth 100000 in
theorem k_X11_compareReachable (l : Launch) (D : va_G) (G : Nat → ClassId) (h : Nat) (h_order : Nat) (h_system : Nat) (h_rules : Nat) (h_savedOrder : Nat) (h_savedSystem : Nat) (h_savedRules : Nat) (h_peaks : Nat) (h_leftPaths : Nat) (h_rightPaths : Nat) (h_text : Nat) (h_labellings : Nat) (h_input : Nat) (h_explorer : Nat) (h_arrays : Nat) (a_reach : Nat) (a_arrays_sizes : Nat) (a_arrays_values : Nat) (r_arrays_values : Nat → Nat) (a_system_words : Nat) (a_system_sources : Nat) (a_system_targets : Nat) (a_system_labels : Nat) (snapshotSaved : Int32) (system_objects : Int32) (system_steps : Int32) (arrays_sizes : (Nat → Int32)) (arrays_values : (Nat → Nat → Int64)) (reach : (Nat → Int32)) (system_labels : (Nat → Int32)) (system_sources : (Nat → Int32)) (system_targets : (Nat → Int32))  (v1 : Int32) (out : Int32 × (Nat → Int32)) (hf : f_X11_compareReachable system_objects system_steps arrays_sizes arrays_values reach system_labels system_sources system_targets v1 = some out) : xMet l yX11_compareReachable wsX11_compareReachable (rM 3 71) D G [.ref h, .int v1] [[(h, .inr (10, [.ref h_order, .ref h_system, .ref h_rules, .ref h_savedOrder, .ref h_savedSystem, .ref h_savedRules, .int snapshotSaved, .ref h_peaks, .ref h_leftPaths, .ref h_rightPaths, .ref h_text, .ref h_labellings, .ref h_input, .ref h_explorer, .ref h_arrays, .ref a_reach]))], [(h_arrays, .inr (5, [.ref a_arrays_sizes, .ref a_arrays_values]))], [(a_arrays_sizes, .inl (G 0, 3, .inl arrays_sizes))], [gO (G 5) a_arrays_values r_arrays_values 3], gJ (G 1) r_arrays_values 3 16 arrays_values, [(a_reach, .inl (G 0, 16, .inl reach))], [(h_system, .inr (3, [.int system_objects, .ref a_system_words, .int system_steps, .ref a_system_sources, .ref a_system_targets, .ref a_system_labels]))], [(a_system_labels, .inl (G 0, 32, .inl system_labels))], [(a_system_sources, .inl (G 0, 32, .inl system_sources))], [(a_system_targets, .inl (G 0, 32, .inl system_targets))]] (xQi D [[(h, .inr (10, [.ref h_order, .ref h_system, .ref h_rules, .ref h_savedOrder, .ref h_savedSystem, .ref h_savedRules, .int snapshotSaved, .ref h_peaks, .ref h_leftPaths, .ref h_rightPaths, .ref h_text, .ref h_labellings, .ref h_input, .ref h_explorer, .ref h_arrays, .ref a_reach]))], [(h_arrays, .inr (5, [.ref a_arrays_sizes, .ref a_arrays_values]))], [(a_arrays_sizes, .inl (G 0, 3, .inl arrays_sizes))], [gO (G 5) a_arrays_values r_arrays_values 3], gJ (G 1) r_arrays_values 3 16 arrays_values, [(a_reach, .inl (G 0, 16, .inl out.2))], [(h_system, .inr (3, [.int system_objects, .ref a_system_words, .int system_steps, .ref a_system_sources, .ref a_system_targets, .ref a_system_labels]))], [(a_system_labels, .inl (G 0, 32, .inl system_labels))], [(a_system_sources, .inl (G 0, 32, .inl system_sources))], [(a_system_targets, .inl (G 0, 32, .inl system_targets))]] out.1) := by
  refine x_ent (cc := cX11_compareReachable) (maxL := 5) (by decide) rfl (Nat.le_of_ble_eq_true rfl) ?_
  intro p e s m below meth c aa ls args Q hQ hx hb hr hml hown hts hlocks hE hN hP hl hS
  have hown : s.vm.findClass RX11 = some m.cls := hown
  have hl : lv_has ls 5 [(0, .ref h), (1, .int v1)] := hl
  have J98 : ∀ (v2 : Int32) (v3 : Int32) (reach : (Nat → Int32)) (H : Heap) (locs : List Loc) (ls : Array Slot), xW D aa [[(h, .inr (10, [.ref h_order, .ref h_system, .ref h_rules, .ref h_savedOrder, .ref h_savedSystem, .ref h_savedRules, .int snapshotSaved, .ref h_peaks, .ref h_leftPaths, .ref h_rightPaths, .ref h_text, .ref h_labellings, .ref h_input, .ref h_explorer, .ref h_arrays, .ref a_reach]))], [(h_arrays, .inr (5, [.ref a_arrays_sizes, .ref a_arrays_values]))], [(a_arrays_sizes, .inl (G 0, 3, .inl arrays_sizes))], [gO (G 5) a_arrays_values r_arrays_values 3], gJ (G 1) r_arrays_values 3 16 arrays_values, [(a_reach, .inl (G 0, 16, .inl reach))], [(h_system, .inr (3, [.int system_objects, .ref a_system_words, .int system_steps, .ref a_system_sources, .ref a_system_targets, .ref a_system_labels]))], [(a_system_labels, .inl (G 0, 32, .inl system_labels))], [(a_system_sources, .inl (G 0, 32, .inl system_sources))], [(a_system_targets, .inl (G 0, 32, .inl system_targets))]] H → va_S (xA aa) s.heap H locs → lv_has ls 5 [(0, .ref h), (2, .int v2), (3, .int v3)] → f_X11_compareReachable_J98 system_objects v2 v3 reach = some out → W p l e (rM 3 71) s m args below meth c H locs 0 0 Q (F0 m 98 ls []) := by
    intro v2 v3 reach  H locs ls  hP hS hl hf
    rw [f_X11_compareReachable_J98] at hf
    refine lv_iload_n hx hb dX11_compareReachable_98 rfl (lv_at hl 1 rfl) ?_
    refine lv_aload_n hx hb dX11_compareReachable_99 rfl (lv_at hl 0 rfl) ?_
    refine x_get hx hb hts u_X11_compareReachable_X11 hown hE hP 0 rfl rfl 1 (by decide) (hts (.fieldLink RX11 19 "DecreasingDiagrams" "system" "LDecreasingDiagrams$LabelledSystem;") (List.mem_of_getElem? (i := 2) rfl)) rfl dX11_compareReachable_100 ?_
    refine x_getN hx hb hts u_X11_compareReachable_X3 hown hE hP 6 rfl rfl 0 (by decide) (hE.2 (.fieldLinkNest RX11 149 "DecreasingDiagrams$LabelledSystem" "objects" "I" RX11) (List.mem_of_getElem? (i := 5) rfl)) rfl dX11_compareReachable_103 ?_
    refine lv_icmp_ne (tgt := 114) hx hb dX11_compareReachable_106 (by decide) (fun c_106 => ?_) (fun c_106 => ?_)
    · have hf := it_pos c_106 hf
      refine lv_iload_n hx hb dX11_compareReachable_114 rfl (lv_at hl 2 rfl) ?_
      have hf := Option.some.inj hf
      subst hf
      subst hQ
      exact x_iret hx hb hr hlocks hP hS dX11_compareReachable_115
    · have hf := it_neg (fun h => h c_106) hf
      refine lv_bipush (v := -2) hx hb dX11_compareReachable_109 (by decide) ?_
      refine lv_goto (tgt := 115) hx hb dX11_compareReachable_111 (by decide) ?_
      have hf := Option.some.inj hf
      subst hf
      subst hQ
      exact x_iret hx hb hr hlocks hP hS dX11_compareReachable_115
  have L59 : ∀ (v2 : Int32) (v3 : Int32) (reach : (Nat → Int32)), ∀ (n_59 : Nat) (v4 : Int32) (H : Heap) (locs : List Loc) (ls : Array Slot), xW D aa [[(h, .inr (10, [.ref h_order, .ref h_system, .ref h_rules, .ref h_savedOrder, .ref h_savedSystem, .ref h_savedRules, .int snapshotSaved, .ref h_peaks, .ref h_leftPaths, .ref h_rightPaths, .ref h_text, .ref h_labellings, .ref h_input, .ref h_explorer, .ref h_arrays, .ref a_reach]))], [(h_arrays, .inr (5, [.ref a_arrays_sizes, .ref a_arrays_values]))], [(a_arrays_sizes, .inl (G 0, 3, .inl arrays_sizes))], [gO (G 5) a_arrays_values r_arrays_values 3], gJ (G 1) r_arrays_values 3 16 arrays_values, [(a_reach, .inl (G 0, 16, .inl reach))], [(h_system, .inr (3, [.int system_objects, .ref a_system_words, .int system_steps, .ref a_system_sources, .ref a_system_targets, .ref a_system_labels]))], [(a_system_labels, .inl (G 0, 32, .inl system_labels))], [(a_system_sources, .inl (G 0, 32, .inl system_sources))], [(a_system_targets, .inl (G 0, 32, .inl system_targets))]] H → va_S (xA aa) s.heap H locs → lv_has ls 5 [(0, .ref h), (1, .int v1), (2, .int v2), (3, .int v3), (4, .int v4)] → lp (τ := Int32 → Option (Int32 × (Nat → Int32))) (fun _ => none) (f_X11_compareReachable_L59 system_objects arrays_values reach v1 v2 v3) n_59 v4 = some out → W p l e (rM 3 71) s m args below meth c H locs 0 0 Q (F0 m 59 ls []) := by
    intro v2 v3 reach   n_59
    induction n_59 with
    | zero =>
      intro v4 H locs ls hP hS hl hf
      exact no_some hf
    | succ n_59 ih_59 =>
      intro v4 H locs ls hP hS hl hf
      have hf : f_X11_compareReachable_L59 system_objects arrays_values reach v1 v2 v3 (lp (τ := Int32 → Option (Int32 × (Nat → Int32))) (fun _ => none) (f_X11_compareReachable_L59 system_objects arrays_values reach v1 v2 v3) n_59) v4 = some out := hf
      rw [f_X11_compareReachable_L59] at hf
      refine lv_iload hx hb dX11_compareReachable_59 (lv_at hl 4 rfl) ?_
      refine lv_iload_n hx hb dX11_compareReachable_61 rfl (lv_at hl 3 rfl) ?_
      refine lv_icmp_ge (tgt := 98) hx hb dX11_compareReachable_62 (by decide) (fun c_62 => ?_) (fun c_62 => ?_)
      · have hf := it_pos c_62 hf
        exact J98 v2 v3 reach  H locs ls  hP hS (lv_sub hl [0, 2, 3] rfl) hf
      · have hf := it_neg c_62 hf
        refine lv_aload_n hx hb dX11_compareReachable_65 rfl (lv_at hl 0 rfl) ?_
        refine x_get hx hb hts u_X11_compareReachable_X11 hown hE hP 0 rfl rfl 14 (by decide) (hts (.fieldLink RX11 91 "DecreasingDiagrams" "arrays" "LDecreasingDiagrams$LongArrays;") (List.mem_of_getElem? (i := 1) rfl)) rfl dX11_compareReachable_66 ?_
        refine x_getN hx hb hts u_X11_compareReachable_X5 hown hE hP 1 rfl rfl 1 (by decide) (hE.2 (.fieldLinkNest RX11 327 "DecreasingDiagrams$LongArrays" "values" "[[J" RX11) (List.mem_of_getElem? (i := 52) rfl)) rfl dX11_compareReachable_69 ?_
        refine lv_iload_n hx hb dX11_compareReachable_72 rfl (lv_at hl 1 rfl) ?_
        obtain ⟨hq_73, hf⟩ := ck_some hf
        refine x_aald hx hb hE hP 3 5 rfl rfl hq_73 dX11_compareReachable_73 ?_
        refine lv_iload hx hb dX11_compareReachable_74 (lv_at hl 4 rfl) ?_
        obtain ⟨hi, hf⟩ := ck_some hf
        refine x_lald2 hx hb hE hP 4 rfl hq_73 hi dX11_compareReachable_76 ?_
        refine lv_aload_n hx hb dX11_compareReachable_77 rfl (lv_at hl 0 rfl) ?_
        refine x_get hx hb hts u_X11_compareReachable_X11 hown hE hP 0 rfl rfl 15 (by decide) (hts (.fieldLink RX11 95 "DecreasingDiagrams" "reach" "[I") (List.mem_of_getElem? (i := 3) rfl)) rfl dX11_compareReachable_78 ?_
        refine lv_iload hx hb dX11_compareReachable_81 (lv_at hl 4 rfl) ?_
        obtain ⟨hi, hf⟩ := ck_some hf
        refine x_iald hx hb hE hP 5 rfl hi dX11_compareReachable_83 ?_
        refine lv_i2l hx hb dX11_compareReachable_84 rfl ?_
        refine W.lcmp hx hb dX11_compareReachable_85 ?_
        refine lv_if_eq (tgt := 92) hx hb dX11_compareReachable_86 (by decide) (fun c_86 => ?_) (fun c_86 => ?_)
        · have hf := it_pos c_86 hf
          obtain ⟨v4_92, e_v4_92, hf⟩ := lt_some hf
          refine lv_iinc (v := v4_92) (lv' := [(4, .int v4_92), (0, .ref h), (1, .int v1), (2, .int v2), (3, .int v3)]) hx hb dX11_compareReachable_92 hl (k := 4) rfl (by rw [e_v4_92]; rfl) (by decide) rfl (fun ls hl => ?_)
          refine lv_goto (tgt := 59) hx hb dX11_compareReachable_95 (by decide) ?_
          exact ih_59 v4_92 H locs ls hP hS (lv_sub hl [1, 2, 3, 4, 0] rfl) hf
        · have hf := it_neg c_86 hf
          refine lv_iload hx hb dX11_compareReachable_89 (lv_at hl 4 rfl) ?_
          have hf := Option.some.inj hf
          subst hf
          subst hQ
          exact x_iret hx hb hr hlocks hP hS dX11_compareReachable_91
  rw [f_X11_compareReachable] at hf
  obtain ⟨H, hH⟩ : ∃ H : Heap, H = s.heap := ⟨_, rfl⟩
  obtain ⟨locs, hlocs⟩ : ∃ locs : List Loc, locs = [] := ⟨_, rfl⟩
  have hP : xW D aa [[(h, .inr (10, [.ref h_order, .ref h_system, .ref h_rules, .ref h_savedOrder, .ref h_savedSystem, .ref h_savedRules, .int snapshotSaved, .ref h_peaks, .ref h_leftPaths, .ref h_rightPaths, .ref h_text, .ref h_labellings, .ref h_input, .ref h_explorer, .ref h_arrays, .ref a_reach]))], [(h_arrays, .inr (5, [.ref a_arrays_sizes, .ref a_arrays_values]))], [(a_arrays_sizes, .inl (G 0, 3, .inl arrays_sizes))], [gO (G 5) a_arrays_values r_arrays_values 3], gJ (G 1) r_arrays_values 3 16 arrays_values, [(a_reach, .inl (G 0, 16, .inl reach))], [(h_system, .inr (3, [.int system_objects, .ref a_system_words, .int system_steps, .ref a_system_sources, .ref a_system_targets, .ref a_system_labels]))], [(a_system_labels, .inl (G 0, 32, .inl system_labels))], [(a_system_sources, .inl (G 0, 32, .inl system_sources))], [(a_system_targets, .inl (G 0, 32, .inl system_targets))]] H := by rw [hH]; exact hP
  have hS : va_S (xA aa) s.heap H locs := by rw [hH, hlocs]; exact hS
  suffices GO : W p l e (rM 3 71) s m args below meth c H locs 0 0 Q (F0 m 0 ls []) by
    rw [hH, hlocs] at GO
    exact GO
  clear hH hlocs
  refine lv_iload_n hx hb dX11_compareReachable_0 rfl (lv_at hl 1 rfl) ?_
  obtain ⟨r_1, hr_1, hf⟩ := bd_some hf
  refine x_goi (ps := []) (I' := [[(h, .inr (10, [.ref h_order, .ref h_system, .ref h_rules, .ref h_savedOrder, .ref h_savedSystem, .ref h_savedRules, .int snapshotSaved, .ref h_peaks, .ref h_leftPaths, .ref h_rightPaths, .ref h_text, .ref h_labellings, .ref h_input, .ref h_explorer, .ref h_arrays, .ref a_reach]))], [(h_arrays, .inr (5, [.ref a_arrays_sizes, .ref a_arrays_values]))], [(a_arrays_sizes, .inl (G 0, 3, .inl arrays_sizes))], [gO (G 5) a_arrays_values r_arrays_values 3], gJ (G 1) r_arrays_values 3 16 arrays_values, [(a_reach, .inl (G 0, 16, .inl reach))], [(h_system, .inr (3, [.int system_objects, .ref a_system_words, .int system_steps, .ref a_system_sources, .ref a_system_targets, .ref a_system_labels]))], [(a_system_labels, .inl (G 0, 32, .inl system_labels))], [(a_system_sources, .inl (G 0, 32, .inl system_sources))], [(a_system_targets, .inl (G 0, 32, .inl system_targets))]]) (x_runS (As := [.int v1]) (rest := []) (ps := []) ⟨hx, hb, hml, hown, hts⟩ (k_X11_isArray l D G v1 r_1 hr_1) (va_cwS 1 hts gX11_compareReachable_X11_isArray rfl rfl rfl (by decide +kernel) ⟨Nat.le_of_ble_eq_true rfl, Nat.le_of_ble_eq_true rfl⟩) hE hP hN rfl (by decide) rfl hl.1 (Nat.le_of_ble_eq_true rfl) dX11_compareReachable_1 ⟨Nat.zero_le _, Nat.zero_le _⟩) hP hN hS rfl rfl (fun H locs hP hS => ?_)
  refine lv_if_ne (tgt := 9) hx hb dX11_compareReachable_4 (by decide) (fun c_4 => ?_) (fun c_4 => ?_)
  · have hf := it_pos c_4 hf
    refine lv_aload_n hx hb dX11_compareReachable_9 rfl (lv_at hl 0 rfl) ?_
    refine x_get hx hb hts u_X11_compareReachable_X11 hown hE hP 0 rfl rfl 14 (by decide) (hts (.fieldLink RX11 91 "DecreasingDiagrams" "arrays" "LDecreasingDiagrams$LongArrays;") (List.mem_of_getElem? (i := 1) rfl)) rfl dX11_compareReachable_10 ?_
    refine lv_iload_n hx hb dX11_compareReachable_13 rfl (lv_at hl 1 rfl) ?_
    obtain ⟨r_14, hr_14, hf⟩ := bd_some hf
    refine x_goi (ps := [1, 2]) (I' := [[(h, .inr (10, [.ref h_order, .ref h_system, .ref h_rules, .ref h_savedOrder, .ref h_savedSystem, .ref h_savedRules, .int snapshotSaved, .ref h_peaks, .ref h_leftPaths, .ref h_rightPaths, .ref h_text, .ref h_labellings, .ref h_input, .ref h_explorer, .ref h_arrays, .ref a_reach]))], [(h_arrays, .inr (5, [.ref a_arrays_sizes, .ref a_arrays_values]))], [(a_arrays_sizes, .inl (G 0, 3, .inl arrays_sizes))], [gO (G 5) a_arrays_values r_arrays_values 3], gJ (G 1) r_arrays_values 3 16 arrays_values, [(a_reach, .inl (G 0, 16, .inl reach))], [(h_system, .inr (3, [.int system_objects, .ref a_system_words, .int system_steps, .ref a_system_sources, .ref a_system_targets, .ref a_system_labels]))], [(a_system_labels, .inl (G 0, 32, .inl system_labels))], [(a_system_sources, .inl (G 0, 32, .inl system_sources))], [(a_system_targets, .inl (G 0, 32, .inl system_targets))]]) (x_runVN (As := [.int v1]) (rest := []) (ps := [1, 2]) ⟨hx, hb, hml, hown, hts⟩ (k_X5_isMissing l D G h_arrays a_arrays_sizes a_arrays_values arrays_sizes v1 r_14 hr_14) ⟨va_cnB 1 hts gX11_compareReachable_X5_isMissing_n321 rfl rfl rfl (hE.2 (.methodLinkNest RX11 321 yX5_isMissing RX11) (List.mem_of_getElem? (i := 111) rfl)) (hts (.initialized RX5) (List.mem_of_getElem? (i := 13) rfl)) (by decide +kernel) ⟨Nat.le_of_ble_eq_true rfl, Nat.le_of_ble_eq_true rfl⟩, (hts (.instanceMethod yX5_isMissing) (List.mem_of_getElem? (i := 12) rfl)), (hts (.selects RX5 yX5_isMissing yX5_isMissing) (List.mem_of_getElem? (i := 14) rfl))⟩ hE hP hN rfl (by decide) 1 rfl rfl rfl hl.1 (Nat.le_of_ble_eq_true rfl) dX11_compareReachable_14 ⟨Nat.zero_le _, Nat.zero_le _⟩) hP hN hS rfl rfl (fun H locs hP hS => ?_)
    refine lv_if_eq (tgt := 23) hx hb dX11_compareReachable_17 (by decide) (fun c_17 => ?_) (fun c_17 => ?_)
    · have hf := it_pos c_17 hf
      refine lv_aload_n hx hb dX11_compareReachable_23 rfl (lv_at hl 0 rfl) ?_
      refine x_get hx hb hts u_X11_compareReachable_X11 hown hE hP 0 rfl rfl 1 (by decide) (hts (.fieldLink RX11 19 "DecreasingDiagrams" "system" "LDecreasingDiagrams$LabelledSystem;") (List.mem_of_getElem? (i := 2) rfl)) rfl dX11_compareReachable_24 ?_
      refine lv_aload_n hx hb dX11_compareReachable_27 rfl (lv_at hl 0 rfl) ?_
      refine x_get hx hb hts u_X11_compareReachable_X11 hown hE hP 0 rfl rfl 15 (by decide) (hts (.fieldLink RX11 95 "DecreasingDiagrams" "reach" "[I") (List.mem_of_getElem? (i := 3) rfl)) rfl dX11_compareReachable_28 ?_
      obtain ⟨r_31, hr_31, hf⟩ := bd_some hf
      refine x_gov (ps := [5, 6, 7, 8, 9]) (I' := [[(h, .inr (10, [.ref h_order, .ref h_system, .ref h_rules, .ref h_savedOrder, .ref h_savedSystem, .ref h_savedRules, .int snapshotSaved, .ref h_peaks, .ref h_leftPaths, .ref h_rightPaths, .ref h_text, .ref h_labellings, .ref h_input, .ref h_explorer, .ref h_arrays, .ref a_reach]))], [(h_arrays, .inr (5, [.ref a_arrays_sizes, .ref a_arrays_values]))], [(a_arrays_sizes, .inl (G 0, 3, .inl arrays_sizes))], [gO (G 5) a_arrays_values r_arrays_values 3], gJ (G 1) r_arrays_values 3 16 arrays_values, [(a_reach, .inl (G 0, 16, .inl r_31))], [(h_system, .inr (3, [.int system_objects, .ref a_system_words, .int system_steps, .ref a_system_sources, .ref a_system_targets, .ref a_system_labels]))], [(a_system_labels, .inl (G 0, 32, .inl system_labels))], [(a_system_sources, .inl (G 0, 32, .inl system_sources))], [(a_system_targets, .inl (G 0, 32, .inl system_targets))]]) (x_runVN (As := [.ref a_reach]) (rest := []) (ps := [5, 6, 7, 8, 9]) ⟨hx, hb, hml, hown, hts⟩ (k_X3_fillReach l D G h_system a_reach a_system_words a_system_sources a_system_targets a_system_labels system_objects system_steps reach system_labels system_sources system_targets 16 r_31 hr_31) ⟨va_cnB 1 hts gX11_compareReachable_X3_fillReach_n191 rfl rfl rfl (hE.2 (.methodLinkNest RX11 191 yX3_fillReach RX11) (List.mem_of_getElem? (i := 72) rfl)) (hts (.initialized RX3) (List.mem_of_getElem? (i := 18) rfl)) (by decide +kernel) ⟨Nat.le_of_ble_eq_true rfl, Nat.le_of_ble_eq_true rfl⟩, (hts (.instanceMethod yX3_fillReach) (List.mem_of_getElem? (i := 17) rfl)), (hts (.selects RX3 yX3_fillReach yX3_fillReach) (List.mem_of_getElem? (i := 19) rfl))⟩ hE hP hN rfl (by decide) 6 rfl rfl rfl hl.1 (Nat.le_of_ble_eq_true rfl) dX11_compareReachable_31 ⟨Nat.zero_le _, Nat.zero_le _⟩) hP hN hS rfl rfl (fun H locs hP hS => ?_)
      refine lv_aload_n hx hb dX11_compareReachable_34 rfl (lv_at hl 0 rfl) ?_
      refine x_get hx hb hts u_X11_compareReachable_X11 hown hE hP 0 rfl rfl 14 (by decide) (hts (.fieldLink RX11 91 "DecreasingDiagrams" "arrays" "LDecreasingDiagrams$LongArrays;") (List.mem_of_getElem? (i := 1) rfl)) rfl dX11_compareReachable_35 ?_
      refine x_getN hx hb hts u_X11_compareReachable_X5 hown hE hP 1 rfl rfl 0 (by decide) (hE.2 (.fieldLinkNest RX11 335 "DecreasingDiagrams$LongArrays" "sizes" "[I" RX11) (List.mem_of_getElem? (i := 51) rfl)) rfl dX11_compareReachable_38 ?_
      refine lv_iload_n hx hb dX11_compareReachable_41 rfl (lv_at hl 1 rfl) ?_
      obtain ⟨hi, hf⟩ := ck_some hf
      refine x_iald hx hb hE hP 2 rfl hi dX11_compareReachable_42 ?_
      obtain ⟨v2_43, e_v2_43, hf⟩ := lt_some hf
      refine x_istore_n (v := v2_43) (lv' := [(2, .int v2_43), (0, .ref h), (1, .int v1)]) hx hb dX11_compareReachable_43 e_v2_43 rfl hl (by decide) rfl (fun ls hl => ?_)
      refine lv_iload_n hx hb dX11_compareReachable_44 rfl (lv_at hl 0 rfl) ?_
      refine lv_aload_n hx hb dX11_compareReachable_45 rfl (lv_at hl 1 rfl) ?_
      refine x_get hx hb hts u_X11_compareReachable_X11 hown hE hP 0 rfl rfl 1 (by decide) (hts (.fieldLink RX11 19 "DecreasingDiagrams" "system" "LDecreasingDiagrams$LabelledSystem;") (List.mem_of_getElem? (i := 2) rfl)) rfl dX11_compareReachable_46 ?_
      refine x_getN hx hb hts u_X11_compareReachable_X3 hown hE hP 6 rfl rfl 0 (by decide) (hE.2 (.fieldLinkNest RX11 149 "DecreasingDiagrams$LabelledSystem" "objects" "I" RX11) (List.mem_of_getElem? (i := 5) rfl)) rfl dX11_compareReachable_49 ?_
      refine va_mmin hx hb (hml.trans hl.1.symm) hown (hts (.methodLink RX11 338 Lib.Math.min.name) (List.mem_of_getElem? (i := 4) rfl)) (hts (.static Lib.Math.min.name) (List.mem_of_getElem? (i := 5) rfl)) (hts (.initialized RJ9) (List.mem_of_getElem? (i := 6) rfl)) (hts _ (List.mem_of_getElem? (i := 7) rfl)) (by decide) (by decide) (Nat.zero_le _) (Nat.zero_le _) dX11_compareReachable_52 ?_
      obtain ⟨v3_55, e_v3_55, hf⟩ := lt_some hf
      refine x_istore_n (v := v3_55) (lv' := [(3, .int v3_55), (2, .int v2_43), (0, .ref h), (1, .int v1)]) hx hb dX11_compareReachable_55 e_v3_55 rfl hl (by decide) rfl (fun ls hl => ?_)
      refine lv_iconst (v := 0) hx hb dX11_compareReachable_56 (by decide) ?_
      obtain ⟨v4_57, e_v4_57, hf⟩ := lt_some hf
      refine x_istore (v := v4_57) (lv' := [(4, .int v4_57), (3, .int v3_55), (2, .int v2_43), (0, .ref h), (1, .int v1)]) hx hb dX11_compareReachable_57 e_v4_57 hl (by decide) rfl (fun ls hl => ?_)
      exact L59 v2_43 v3_55 r_31   fuel v4_57 H locs ls hP hS (lv_sub hl [3, 4, 2, 1, 0] rfl) hf
    · have hf := it_neg c_17 hf
      refine lv_bipush (v := -11) hx hb dX11_compareReachable_20 (by decide) ?_
      have hf := Option.some.inj hf
      subst hf
      subst hQ
      exact x_iret hx hb hr hlocks hP hS dX11_compareReachable_22
  · have hf := it_neg (fun h => h c_4) hf
    refine lv_iconst (v := -1) hx hb dX11_compareReachable_7 (by decide) ?_
    have hf := Option.some.inj hf
    subst hf
    subst hQ
    exact x_iret hx hb hr hlocks hP hS dX11_compareReachable_8

def f_X11_lowestMember (v0 : Int32) : Option (Int32) :=
  (f_J6_bitCount_0f7a4 ((v0 &&& (-v0)) - 1)).bind (fun r_6 => some r_6)
set_option maxHeartbeats 4000000 in
set_option maxRecDepth 100000 in
theorem k_X11_lowestMember (l : Launch) (D : va_G) (G : Nat → ClassId)    (v0 : Int32) (out : Int32) (hf : f_X11_lowestMember v0 = some out) : xMet l yX11_lowestMember wsX11_lowestMember (rM 1 20) D G [.int v0] [] (xQi D [] out) := by
  refine x_ent (cc := cX11_lowestMember) (maxL := 1) (by decide) rfl (Nat.le_of_ble_eq_true rfl) ?_
  intro p e s m below meth c aa ls args Q hQ hx hb hr hml hown hts hlocks hE hN hP hl hS
  have hown : s.vm.findClass RX11 = some m.cls := hown
  have hl : lv_has ls 1 [(0, .int v0)] := hl
  rw [f_X11_lowestMember] at hf
  obtain ⟨H, hH⟩ : ∃ H : Heap, H = s.heap := ⟨_, rfl⟩
  obtain ⟨locs, hlocs⟩ : ∃ locs : List Loc, locs = [] := ⟨_, rfl⟩
  have hP : xW D aa [] H := by rw [hH]; exact hP
  have hS : va_S (xA aa) s.heap H locs := by rw [hH, hlocs]; exact hS
  suffices GO : W p l e (rM 1 20) s m args below meth c H locs 0 0 Q (F0 m 0 ls []) by
    rw [hH, hlocs] at GO
    exact GO
  clear hH hlocs
  refine lv_iload_n hx hb dX11_lowestMember_0 rfl (lv_at hl 0 rfl) ?_
  refine lv_iload_n hx hb dX11_lowestMember_1 rfl (lv_at hl 0 rfl) ?_
  refine lv_ineg hx hb dX11_lowestMember_2 ?_
  refine lv_iand hx hb dX11_lowestMember_3 ?_
  refine lv_iconst (v := 1) hx hb dX11_lowestMember_4 (by decide) ?_
  refine lv_isub hx hb dX11_lowestMember_5 ?_
  obtain ⟨r_6, hr_6, hf⟩ := bd_some hf
  refine x_goi (ps := []) (I' := []) (x_runS (As := [.int ((v0 &&& (-v0)) - 1)]) (rest := []) (ps := []) ⟨hx, hb, hml, hown, hts⟩ (k_J6_bitCount_0f7a4 l D G ((v0 &&& (-v0)) - 1) r_6 hr_6) (va_cwS 1 hts gX11_lowestMember_J6_bitCount_0f7a4 rfl rfl rfl (by decide +kernel) ⟨Nat.le_of_ble_eq_true rfl, Nat.le_of_ble_eq_true rfl⟩) hE hP hN rfl (by decide) rfl hl.1 (Nat.le_of_ble_eq_true rfl) dX11_lowestMember_6 ⟨Nat.zero_le _, Nat.zero_le _⟩) hP hN hS rfl rfl (fun H locs hP hS => ?_)
  have hf := Option.some.inj hf
  subst hf
  subst hQ
  exact x_iret hx hb hr hlocks hP hS dX11_lowestMember_9

set_option maxRecDepth 20000 in
theorem u_X11_component_X11 : ∀ w ∈ wsX110, w ∈ wsX11_component := xx_pl _ [26, 27, 28, 29, 30, 31, 32, 33, 34, 35, 36, 37, 38, 39, 40, 41] (by decide +kernel)
def f_X11_component (system_objects : Int32) (system_steps : Int32) (system_sources : (Nat → Int32)) (system_targets : (Nat → Int32)) (v1 : Int32) : Option (Int32) :=
  (f_X3_hasObject system_objects v1).bind (fun r_5 => if r_5 = 0 then (some (-1)) else ((f_X3_convertible system_objects system_steps system_sources system_targets v1).bind (fun r_16 => (f_X11_lowestMember r_16).bind (fun r_19 => some r_19))))
set_option maxHeartbeats 4000000 in
set_option maxRecDepth 100000 in
theorem k_X11_component (l : Launch) (D : va_G) (G : Nat → ClassId) (h : Nat) (h_order : Nat) (h_system : Nat) (h_rules : Nat) (h_savedOrder : Nat) (h_savedSystem : Nat) (h_savedRules : Nat) (h_peaks : Nat) (h_leftPaths : Nat) (h_rightPaths : Nat) (h_text : Nat) (h_labellings : Nat) (h_input : Nat) (h_explorer : Nat) (h_arrays : Nat) (a_reach : Nat) (a_system_words : Nat) (a_system_sources : Nat) (a_system_targets : Nat) (a_system_labels : Nat) (snapshotSaved : Int32) (system_objects : Int32) (system_steps : Int32) (system_sources : (Nat → Int32)) (system_targets : (Nat → Int32))  (v1 : Int32) (out : Int32) (hf : f_X11_component system_objects system_steps system_sources system_targets v1 = some out) : xMet l yX11_component wsX11_component (rM 2 45) D G [.ref h, .int v1] [[(h, .inr (10, [.ref h_order, .ref h_system, .ref h_rules, .ref h_savedOrder, .ref h_savedSystem, .ref h_savedRules, .int snapshotSaved, .ref h_peaks, .ref h_leftPaths, .ref h_rightPaths, .ref h_text, .ref h_labellings, .ref h_input, .ref h_explorer, .ref h_arrays, .ref a_reach]))], [(h_system, .inr (3, [.int system_objects, .ref a_system_words, .int system_steps, .ref a_system_sources, .ref a_system_targets, .ref a_system_labels]))], [(a_system_sources, .inl (G 0, 32, .inl system_sources))], [(a_system_targets, .inl (G 0, 32, .inl system_targets))]] (xQi D [[(h, .inr (10, [.ref h_order, .ref h_system, .ref h_rules, .ref h_savedOrder, .ref h_savedSystem, .ref h_savedRules, .int snapshotSaved, .ref h_peaks, .ref h_leftPaths, .ref h_rightPaths, .ref h_text, .ref h_labellings, .ref h_input, .ref h_explorer, .ref h_arrays, .ref a_reach]))], [(h_system, .inr (3, [.int system_objects, .ref a_system_words, .int system_steps, .ref a_system_sources, .ref a_system_targets, .ref a_system_labels]))], [(a_system_sources, .inl (G 0, 32, .inl system_sources))], [(a_system_targets, .inl (G 0, 32, .inl system_targets))]] out) := by
  refine x_ent (cc := cX11_component) (maxL := 2) (by decide) rfl (Nat.le_of_ble_eq_true rfl) ?_
  intro p e s m below meth c aa ls args Q hQ hx hb hr hml hown hts hlocks hE hN hP hl hS
  have hown : s.vm.findClass RX11 = some m.cls := hown
  have hl : lv_has ls 2 [(0, .ref h), (1, .int v1)] := hl
  rw [f_X11_component] at hf
  obtain ⟨H, hH⟩ : ∃ H : Heap, H = s.heap := ⟨_, rfl⟩
  obtain ⟨locs, hlocs⟩ : ∃ locs : List Loc, locs = [] := ⟨_, rfl⟩
  have hP : xW D aa [[(h, .inr (10, [.ref h_order, .ref h_system, .ref h_rules, .ref h_savedOrder, .ref h_savedSystem, .ref h_savedRules, .int snapshotSaved, .ref h_peaks, .ref h_leftPaths, .ref h_rightPaths, .ref h_text, .ref h_labellings, .ref h_input, .ref h_explorer, .ref h_arrays, .ref a_reach]))], [(h_system, .inr (3, [.int system_objects, .ref a_system_words, .int system_steps, .ref a_system_sources, .ref a_system_targets, .ref a_system_labels]))], [(a_system_sources, .inl (G 0, 32, .inl system_sources))], [(a_system_targets, .inl (G 0, 32, .inl system_targets))]] H := by rw [hH]; exact hP
  have hS : va_S (xA aa) s.heap H locs := by rw [hH, hlocs]; exact hS
  suffices GO : W p l e (rM 2 45) s m args below meth c H locs 0 0 Q (F0 m 0 ls []) by
    rw [hH, hlocs] at GO
    exact GO
  clear hH hlocs
  refine lv_aload_n hx hb dX11_component_0 rfl (lv_at hl 0 rfl) ?_
  refine x_get hx hb hts u_X11_component_X11 hown hE hP 0 rfl rfl 1 (by decide) (hts (.fieldLink RX11 19 "DecreasingDiagrams" "system" "LDecreasingDiagrams$LabelledSystem;") (List.mem_of_getElem? (i := 1) rfl)) rfl dX11_component_1 ?_
  refine lv_iload_n hx hb dX11_component_4 rfl (lv_at hl 1 rfl) ?_
  obtain ⟨r_5, hr_5, hf⟩ := bd_some hf
  refine x_goi (ps := [1]) (I' := [[(h, .inr (10, [.ref h_order, .ref h_system, .ref h_rules, .ref h_savedOrder, .ref h_savedSystem, .ref h_savedRules, .int snapshotSaved, .ref h_peaks, .ref h_leftPaths, .ref h_rightPaths, .ref h_text, .ref h_labellings, .ref h_input, .ref h_explorer, .ref h_arrays, .ref a_reach]))], [(h_system, .inr (3, [.int system_objects, .ref a_system_words, .int system_steps, .ref a_system_sources, .ref a_system_targets, .ref a_system_labels]))], [(a_system_sources, .inl (G 0, 32, .inl system_sources))], [(a_system_targets, .inl (G 0, 32, .inl system_targets))]]) (x_runVN (As := [.int v1]) (rest := []) (ps := [1]) ⟨hx, hb, hml, hown, hts⟩ (k_X3_hasObject l D G h_system a_system_words a_system_sources a_system_targets a_system_labels system_objects system_steps v1 r_5 hr_5) ⟨va_cnB 1 hts gX11_component_X3_hasObject_n128 rfl rfl rfl (hE.2 (.methodLinkNest RX11 128 yX3_hasObject RX11) (List.mem_of_getElem? (i := 61) rfl)) (hts (.initialized RX3) (List.mem_of_getElem? (i := 3) rfl)) (by decide +kernel) ⟨Nat.le_of_ble_eq_true rfl, Nat.le_of_ble_eq_true rfl⟩, (hts (.instanceMethod yX3_hasObject) (List.mem_of_getElem? (i := 2) rfl)), (hts (.selects RX3 yX3_hasObject yX3_hasObject) (List.mem_of_getElem? (i := 4) rfl))⟩ hE hP hN rfl (by decide) 1 rfl rfl rfl hl.1 (Nat.le_of_ble_eq_true rfl) dX11_component_5 ⟨Nat.zero_le _, Nat.zero_le _⟩) hP hN hS rfl rfl (fun H locs hP hS => ?_)
  refine lv_if_eq (tgt := 25) hx hb dX11_component_8 (by decide) (fun c_8 => ?_) (fun c_8 => ?_)
  · have hf := it_pos c_8 hf
    refine lv_iconst (v := -1) hx hb dX11_component_25 (by decide) ?_
    have hf := Option.some.inj hf
    subst hf
    subst hQ
    exact x_iret hx hb hr hlocks hP hS dX11_component_26
  · have hf := it_neg c_8 hf
    refine lv_aload_n hx hb dX11_component_11 rfl (lv_at hl 0 rfl) ?_
    refine x_get hx hb hts u_X11_component_X11 hown hE hP 0 rfl rfl 1 (by decide) (hts (.fieldLink RX11 19 "DecreasingDiagrams" "system" "LDecreasingDiagrams$LabelledSystem;") (List.mem_of_getElem? (i := 1) rfl)) rfl dX11_component_12 ?_
    refine lv_iload_n hx hb dX11_component_15 rfl (lv_at hl 1 rfl) ?_
    obtain ⟨r_16, hr_16, hf⟩ := bd_some hf
    refine x_goi (ps := [1, 2, 3]) (I' := [[(h, .inr (10, [.ref h_order, .ref h_system, .ref h_rules, .ref h_savedOrder, .ref h_savedSystem, .ref h_savedRules, .int snapshotSaved, .ref h_peaks, .ref h_leftPaths, .ref h_rightPaths, .ref h_text, .ref h_labellings, .ref h_input, .ref h_explorer, .ref h_arrays, .ref a_reach]))], [(h_system, .inr (3, [.int system_objects, .ref a_system_words, .int system_steps, .ref a_system_sources, .ref a_system_targets, .ref a_system_labels]))], [(a_system_sources, .inl (G 0, 32, .inl system_sources))], [(a_system_targets, .inl (G 0, 32, .inl system_targets))]]) (x_runVN (As := [.int v1]) (rest := []) (ps := [1, 2, 3]) ⟨hx, hb, hml, hown, hts⟩ (k_X3_convertible l D G h_system a_system_words a_system_sources a_system_targets a_system_labels system_objects system_steps system_sources system_targets v1 r_16 hr_16) ⟨va_cnB 1 hts gX11_component_X3_convertible_n182 rfl rfl rfl (hE.2 (.methodLinkNest RX11 182 yX3_convertible RX11) (List.mem_of_getElem? (i := 69) rfl)) (hts (.initialized RX3) (List.mem_of_getElem? (i := 3) rfl)) (by decide +kernel) ⟨Nat.le_of_ble_eq_true rfl, Nat.le_of_ble_eq_true rfl⟩, (hts (.instanceMethod yX3_convertible) (List.mem_of_getElem? (i := 7) rfl)), (hts (.selects RX3 yX3_convertible yX3_convertible) (List.mem_of_getElem? (i := 8) rfl))⟩ hE hP hN rfl (by decide) 1 rfl rfl rfl hl.1 (Nat.le_of_ble_eq_true rfl) dX11_component_16 ⟨Nat.zero_le _, Nat.zero_le _⟩) hP hN hS rfl rfl (fun H locs hP hS => ?_)
    obtain ⟨r_19, hr_19, hf⟩ := bd_some hf
    refine x_goi (ps := []) (I' := [[(h, .inr (10, [.ref h_order, .ref h_system, .ref h_rules, .ref h_savedOrder, .ref h_savedSystem, .ref h_savedRules, .int snapshotSaved, .ref h_peaks, .ref h_leftPaths, .ref h_rightPaths, .ref h_text, .ref h_labellings, .ref h_input, .ref h_explorer, .ref h_arrays, .ref a_reach]))], [(h_system, .inr (3, [.int system_objects, .ref a_system_words, .int system_steps, .ref a_system_sources, .ref a_system_targets, .ref a_system_labels]))], [(a_system_sources, .inl (G 0, 32, .inl system_sources))], [(a_system_targets, .inl (G 0, 32, .inl system_targets))]]) (x_runS (As := [.int r_16]) (rest := []) (ps := []) ⟨hx, hb, hml, hown, hts⟩ (k_X11_lowestMember l D G r_16 r_19 hr_19) (va_cwS 1 hts gX11_component_X11_lowestMember rfl rfl rfl (by decide +kernel) ⟨Nat.le_of_ble_eq_true rfl, Nat.le_of_ble_eq_true rfl⟩) hE hP hN rfl (by decide) rfl hl.1 (Nat.le_of_ble_eq_true rfl) dX11_component_19 ⟨Nat.zero_le _, Nat.zero_le _⟩) hP hN hS rfl rfl (fun H locs hP hS => ?_)
    refine lv_goto (tgt := 26) hx hb dX11_component_22 (by decide) ?_
    have hf := Option.some.inj hf
    subst hf
    subst hQ
    exact x_iret hx hb hr hlocks hP hS dX11_component_26

set_option maxRecDepth 20000 in
theorem u_X11_unjoinablePair_X11 : ∀ w ∈ wsX110, w ∈ wsX11_unjoinablePair := xx_pl _ [7, 8, 9, 10, 11, 12, 13, 14, 15, 16, 17, 18, 19, 20, 21, 22] (by decide +kernel)
set_option maxRecDepth 20000 in
theorem u_X11_unjoinablePair_X3 : ∀ w ∈ wsX30, w ∈ wsX11_unjoinablePair := xx_pl _ [23, 24, 25, 26, 27, 28] (by decide +kernel)
def f_X11_unjoinablePair_J73 (rec_2 : (Int32 → Option (Int32))) (v2 : Int32) : Option (Int32) :=
  lt (v2 + 1) (fun v2_73 => rec_2 v2_73)
def f_X11_unjoinablePair_J67 (rec_17 : (Int32 → Option (Int32))) (v3 : Int32) : Option (Int32) :=
  lt (v3 + 1) (fun v3_67 => rec_17 v3_67)
def f_X11_unjoinablePair_J60  (v2 : Int32) (v3 : Int32) : Option (Int32) :=
  some ((16 * v2) + v3)
def f_X11_unjoinablePair_L17 (system_objects : Int32) (reach : (Nat → Int32)) (v1 : Int32) (v2 : Int32) (rec_2 : (Int32 → Option (Int32))) (rec_17 : Int32 → Option (Int32)) (v3 : Int32) : Option (Int32) :=
  if system_objects ≤ v3 then (f_X11_unjoinablePair_J73 rec_2 v2) else ((f_X11_isIn v1 v2).bind (fun r_30 => if r_30 = 0 then (f_X11_unjoinablePair_J67 rec_17 v3) else ((f_X11_isIn v1 v3).bind (fun r_38 => if r_38 = 0 then (f_X11_unjoinablePair_J67 rec_17 v3) else (ck v2 16 (ck v3 16 (if ¬ ((reach v2.toNatClampNeg) &&& (reach v3.toNatClampNeg)) = 0 then (f_X11_unjoinablePair_J67 rec_17 v3) else (f_X11_unjoinablePair_J60 v2 v3))))))))
def f_X11_unjoinablePair_L2 (system_objects : Int32) (reach : (Nat → Int32)) (v1 : Int32) (rec_2 : Int32 → Option (Int32)) (v2 : Int32) : Option (Int32) :=
  if system_objects ≤ v2 then (some (-2)) else (lt (v2 + 1) (fun v3_16 => lp (τ := Int32 → Option (Int32)) (fun _ => none) (f_X11_unjoinablePair_L17 system_objects reach v1 v2 rec_2) fuel v3_16))
def f_X11_unjoinablePair (system_objects : Int32) (reach : (Nat → Int32)) (v1 : Int32) : Option (Int32) :=
  lt 0 (fun v2_1 => lp (τ := Int32 → Option (Int32)) (fun _ => none) (f_X11_unjoinablePair_L2 system_objects reach v1) fuel v2_1)
set_option maxHeartbeats 4000000 in
set_option maxRecDepth 100000 in
theorem k_X11_unjoinablePair (l : Launch) (D : va_G) (G : Nat → ClassId) (h : Nat) (h_order : Nat) (h_system : Nat) (h_rules : Nat) (h_savedOrder : Nat) (h_savedSystem : Nat) (h_savedRules : Nat) (h_peaks : Nat) (h_leftPaths : Nat) (h_rightPaths : Nat) (h_text : Nat) (h_labellings : Nat) (h_input : Nat) (h_explorer : Nat) (h_arrays : Nat) (a_reach : Nat) (a_system_words : Nat) (a_system_sources : Nat) (a_system_targets : Nat) (a_system_labels : Nat) (snapshotSaved : Int32) (system_objects : Int32) (system_steps : Int32) (reach : (Nat → Int32))  (v1 : Int32) (out : Int32) (hf : f_X11_unjoinablePair system_objects reach v1 = some out) : xMet l yX11_unjoinablePair wsX11_unjoinablePair (rM 1 21) D G [.ref h, .int v1] [[(h, .inr (10, [.ref h_order, .ref h_system, .ref h_rules, .ref h_savedOrder, .ref h_savedSystem, .ref h_savedRules, .int snapshotSaved, .ref h_peaks, .ref h_leftPaths, .ref h_rightPaths, .ref h_text, .ref h_labellings, .ref h_input, .ref h_explorer, .ref h_arrays, .ref a_reach]))], [(a_reach, .inl (G 0, 16, .inl reach))], [(h_system, .inr (3, [.int system_objects, .ref a_system_words, .int system_steps, .ref a_system_sources, .ref a_system_targets, .ref a_system_labels]))]] (xQi D [[(h, .inr (10, [.ref h_order, .ref h_system, .ref h_rules, .ref h_savedOrder, .ref h_savedSystem, .ref h_savedRules, .int snapshotSaved, .ref h_peaks, .ref h_leftPaths, .ref h_rightPaths, .ref h_text, .ref h_labellings, .ref h_input, .ref h_explorer, .ref h_arrays, .ref a_reach]))], [(a_reach, .inl (G 0, 16, .inl reach))], [(h_system, .inr (3, [.int system_objects, .ref a_system_words, .int system_steps, .ref a_system_sources, .ref a_system_targets, .ref a_system_labels]))]] out) := by
  refine x_ent (cc := cX11_unjoinablePair) (maxL := 4) (by decide) rfl (Nat.le_of_ble_eq_true rfl) ?_
  intro p e s m below meth c aa ls args Q hQ hx hb hr hml hown hts hlocks hE hN hP hl hS
  have hown : s.vm.findClass RX11 = some m.cls := hown
  have hl : lv_has ls 4 [(0, .ref h), (1, .int v1)] := hl
  have J60 : ∀ (v2 : Int32) (v3 : Int32) (H : Heap) (locs : List Loc) (ls : Array Slot), xW D aa [[(h, .inr (10, [.ref h_order, .ref h_system, .ref h_rules, .ref h_savedOrder, .ref h_savedSystem, .ref h_savedRules, .int snapshotSaved, .ref h_peaks, .ref h_leftPaths, .ref h_rightPaths, .ref h_text, .ref h_labellings, .ref h_input, .ref h_explorer, .ref h_arrays, .ref a_reach]))], [(a_reach, .inl (G 0, 16, .inl reach))], [(h_system, .inr (3, [.int system_objects, .ref a_system_words, .int system_steps, .ref a_system_sources, .ref a_system_targets, .ref a_system_labels]))]] H → va_S (xA aa) s.heap H locs → lv_has ls 4 [(2, .int v2), (3, .int v3)] → f_X11_unjoinablePair_J60  v2 v3 = some out → W p l e (rM 1 21) s m args below meth c H locs 0 0 Q (F0 m 60 ls []) := by
    intro v2 v3  H locs ls  hP hS hl hf
    rw [f_X11_unjoinablePair_J60] at hf
    refine lv_bipush (v := 16) hx hb dX11_unjoinablePair_60 (by decide) ?_
    refine lv_iload_n hx hb dX11_unjoinablePair_62 rfl (lv_at hl 0 rfl) ?_
    refine lv_imul hx hb dX11_unjoinablePair_63 ?_
    refine lv_iload_n hx hb dX11_unjoinablePair_64 rfl (lv_at hl 1 rfl) ?_
    refine lv_iadd hx hb dX11_unjoinablePair_65 ?_
    have hf := Option.some.inj hf
    subst hf
    subst hQ
    exact x_iret hx hb hr hlocks hP hS dX11_unjoinablePair_66
  have L2 : ∀ (n_2 : Nat) (v2 : Int32) (H : Heap) (locs : List Loc) (ls : Array Slot), xW D aa [[(h, .inr (10, [.ref h_order, .ref h_system, .ref h_rules, .ref h_savedOrder, .ref h_savedSystem, .ref h_savedRules, .int snapshotSaved, .ref h_peaks, .ref h_leftPaths, .ref h_rightPaths, .ref h_text, .ref h_labellings, .ref h_input, .ref h_explorer, .ref h_arrays, .ref a_reach]))], [(a_reach, .inl (G 0, 16, .inl reach))], [(h_system, .inr (3, [.int system_objects, .ref a_system_words, .int system_steps, .ref a_system_sources, .ref a_system_targets, .ref a_system_labels]))]] H → va_S (xA aa) s.heap H locs → lv_has ls 4 [(0, .ref h), (1, .int v1), (2, .int v2)] → lp (τ := Int32 → Option (Int32)) (fun _ => none) (f_X11_unjoinablePair_L2 system_objects reach v1) n_2 v2 = some out → W p l e (rM 1 21) s m args below meth c H locs 0 0 Q (F0 m 2 ls []) := by
    intro    n_2
    induction n_2 with
    | zero =>
      intro v2 H locs ls hP hS hl hf
      exact no_some hf
    | succ n_2 ih_2 =>
      intro v2 H locs ls hP hS hl hf
      have hf : f_X11_unjoinablePair_L2 system_objects reach v1 (lp (τ := Int32 → Option (Int32)) (fun _ => none) (f_X11_unjoinablePair_L2 system_objects reach v1) n_2) v2 = some out := hf
      rw [f_X11_unjoinablePair_L2] at hf
      have J73 : ∀ (v2 : Int32) (H : Heap) (locs : List Loc) (ls : Array Slot), xW D aa [[(h, .inr (10, [.ref h_order, .ref h_system, .ref h_rules, .ref h_savedOrder, .ref h_savedSystem, .ref h_savedRules, .int snapshotSaved, .ref h_peaks, .ref h_leftPaths, .ref h_rightPaths, .ref h_text, .ref h_labellings, .ref h_input, .ref h_explorer, .ref h_arrays, .ref a_reach]))], [(a_reach, .inl (G 0, 16, .inl reach))], [(h_system, .inr (3, [.int system_objects, .ref a_system_words, .int system_steps, .ref a_system_sources, .ref a_system_targets, .ref a_system_labels]))]] H → va_S (xA aa) s.heap H locs → lv_has ls 4 [(0, .ref h), (1, .int v1), (2, .int v2)] → f_X11_unjoinablePair_J73 (lp (τ := Int32 → Option (Int32)) (fun _ => none) (f_X11_unjoinablePair_L2 system_objects reach v1) n_2) v2 = some out → W p l e (rM 1 21) s m args below meth c H locs 0 0 Q (F0 m 73 ls []) := by
        intro v2  H locs ls  hP hS hl hf
        rw [f_X11_unjoinablePair_J73] at hf
        obtain ⟨v2_73, e_v2_73, hf⟩ := lt_some hf
        refine lv_iinc (v := v2_73) (lv' := [(2, .int v2_73), (0, .ref h), (1, .int v1)]) hx hb dX11_unjoinablePair_73 hl (k := 2) rfl (by rw [e_v2_73]; rfl) (by decide) rfl (fun ls hl => ?_)
        refine lv_goto (tgt := 2) hx hb dX11_unjoinablePair_76 (by decide) ?_
        exact ih_2 v2_73 H locs ls hP hS (lv_sub hl [1, 2, 0] rfl) hf
      have L17 : ∀ (v2 : Int32), ∀ (n_17 : Nat) (v3 : Int32) (H : Heap) (locs : List Loc) (ls : Array Slot), xW D aa [[(h, .inr (10, [.ref h_order, .ref h_system, .ref h_rules, .ref h_savedOrder, .ref h_savedSystem, .ref h_savedRules, .int snapshotSaved, .ref h_peaks, .ref h_leftPaths, .ref h_rightPaths, .ref h_text, .ref h_labellings, .ref h_input, .ref h_explorer, .ref h_arrays, .ref a_reach]))], [(a_reach, .inl (G 0, 16, .inl reach))], [(h_system, .inr (3, [.int system_objects, .ref a_system_words, .int system_steps, .ref a_system_sources, .ref a_system_targets, .ref a_system_labels]))]] H → va_S (xA aa) s.heap H locs → lv_has ls 4 [(0, .ref h), (1, .int v1), (2, .int v2), (3, .int v3)] → lp (τ := Int32 → Option (Int32)) (fun _ => none) (f_X11_unjoinablePair_L17 system_objects reach v1 v2 (lp (τ := Int32 → Option (Int32)) (fun _ => none) (f_X11_unjoinablePair_L2 system_objects reach v1) n_2)) n_17 v3 = some out → W p l e (rM 1 21) s m args below meth c H locs 0 0 Q (F0 m 17 ls []) := by
        intro v2   n_17
        induction n_17 with
        | zero =>
          intro v3 H locs ls hP hS hl hf
          exact no_some hf
        | succ n_17 ih_17 =>
          intro v3 H locs ls hP hS hl hf
          have hf : f_X11_unjoinablePair_L17 system_objects reach v1 v2 (lp (τ := Int32 → Option (Int32)) (fun _ => none) (f_X11_unjoinablePair_L2 system_objects reach v1) n_2) (lp (τ := Int32 → Option (Int32)) (fun _ => none) (f_X11_unjoinablePair_L17 system_objects reach v1 v2 (lp (τ := Int32 → Option (Int32)) (fun _ => none) (f_X11_unjoinablePair_L2 system_objects reach v1) n_2)) n_17) v3 = some out := hf
          rw [f_X11_unjoinablePair_L17] at hf
          have J67 : ∀ (v3 : Int32) (H : Heap) (locs : List Loc) (ls : Array Slot), xW D aa [[(h, .inr (10, [.ref h_order, .ref h_system, .ref h_rules, .ref h_savedOrder, .ref h_savedSystem, .ref h_savedRules, .int snapshotSaved, .ref h_peaks, .ref h_leftPaths, .ref h_rightPaths, .ref h_text, .ref h_labellings, .ref h_input, .ref h_explorer, .ref h_arrays, .ref a_reach]))], [(a_reach, .inl (G 0, 16, .inl reach))], [(h_system, .inr (3, [.int system_objects, .ref a_system_words, .int system_steps, .ref a_system_sources, .ref a_system_targets, .ref a_system_labels]))]] H → va_S (xA aa) s.heap H locs → lv_has ls 4 [(0, .ref h), (1, .int v1), (2, .int v2), (3, .int v3)] → f_X11_unjoinablePair_J67 (lp (τ := Int32 → Option (Int32)) (fun _ => none) (f_X11_unjoinablePair_L17 system_objects reach v1 v2 (lp (τ := Int32 → Option (Int32)) (fun _ => none) (f_X11_unjoinablePair_L2 system_objects reach v1) n_2)) n_17) v3 = some out → W p l e (rM 1 21) s m args below meth c H locs 0 0 Q (F0 m 67 ls []) := by
            intro v3  H locs ls  hP hS hl hf
            rw [f_X11_unjoinablePair_J67] at hf
            obtain ⟨v3_67, e_v3_67, hf⟩ := lt_some hf
            refine lv_iinc (v := v3_67) (lv' := [(3, .int v3_67), (0, .ref h), (1, .int v1), (2, .int v2)]) hx hb dX11_unjoinablePair_67 hl (k := 3) rfl (by rw [e_v3_67]; rfl) (by decide) rfl (fun ls hl => ?_)
            refine lv_goto (tgt := 17) hx hb dX11_unjoinablePair_70 (by decide) ?_
            exact ih_17 v3_67 H locs ls hP hS (lv_sub hl [1, 2, 3, 0] rfl) hf
          refine lv_iload_n hx hb dX11_unjoinablePair_17 rfl (lv_at hl 3 rfl) ?_
          refine lv_aload_n hx hb dX11_unjoinablePair_18 rfl (lv_at hl 0 rfl) ?_
          refine x_get hx hb hts u_X11_unjoinablePair_X11 hown hE hP 0 rfl rfl 1 (by decide) (hts (.fieldLink RX11 19 "DecreasingDiagrams" "system" "LDecreasingDiagrams$LabelledSystem;") (List.mem_of_getElem? (i := 1) rfl)) rfl dX11_unjoinablePair_19 ?_
          refine x_getN hx hb hts u_X11_unjoinablePair_X3 hown hE hP 2 rfl rfl 0 (by decide) (hE.2 (.fieldLinkNest RX11 149 "DecreasingDiagrams$LabelledSystem" "objects" "I" RX11) (List.mem_of_getElem? (i := 5) rfl)) rfl dX11_unjoinablePair_22 ?_
          refine lv_icmp_ge (tgt := 73) hx hb dX11_unjoinablePair_25 (by decide) (fun c_25 => ?_) (fun c_25 => ?_)
          · have hf := it_pos c_25 hf
            exact J73 v2  H locs ls  hP hS (lv_sub hl [0, 1, 2] rfl) hf
          · have hf := it_neg c_25 hf
            refine lv_iload_n hx hb dX11_unjoinablePair_28 rfl (lv_at hl 1 rfl) ?_
            refine lv_iload_n hx hb dX11_unjoinablePair_29 rfl (lv_at hl 2 rfl) ?_
            obtain ⟨r_30, hr_30, hf⟩ := bd_some hf
            refine x_goi (ps := []) (I' := [[(h, .inr (10, [.ref h_order, .ref h_system, .ref h_rules, .ref h_savedOrder, .ref h_savedSystem, .ref h_savedRules, .int snapshotSaved, .ref h_peaks, .ref h_leftPaths, .ref h_rightPaths, .ref h_text, .ref h_labellings, .ref h_input, .ref h_explorer, .ref h_arrays, .ref a_reach]))], [(a_reach, .inl (G 0, 16, .inl reach))], [(h_system, .inr (3, [.int system_objects, .ref a_system_words, .int system_steps, .ref a_system_sources, .ref a_system_targets, .ref a_system_labels]))]]) (x_runS (As := [.int v1, .int v2]) (rest := []) (ps := []) ⟨hx, hb, hml, hown, hts⟩ (k_X11_isIn l D G v1 v2 r_30 hr_30) (va_cwS 2 hts gX11_unjoinablePair_X11_isIn rfl rfl rfl (by decide +kernel) ⟨Nat.le_of_ble_eq_true rfl, Nat.le_of_ble_eq_true rfl⟩) hE hP hN rfl (by decide) rfl hl.1 (Nat.le_of_ble_eq_true rfl) dX11_unjoinablePair_30 ⟨Nat.zero_le _, Nat.zero_le _⟩) hP hN hS rfl rfl (fun H locs hP hS => ?_)
            refine lv_if_eq (tgt := 67) hx hb dX11_unjoinablePair_33 (by decide) (fun c_33 => ?_) (fun c_33 => ?_)
            · have hf := it_pos c_33 hf
              exact J67 v3  H locs ls  hP hS (lv_sub hl [0, 1, 2, 3] rfl) hf
            · have hf := it_neg c_33 hf
              refine lv_iload_n hx hb dX11_unjoinablePair_36 rfl (lv_at hl 1 rfl) ?_
              refine lv_iload_n hx hb dX11_unjoinablePair_37 rfl (lv_at hl 3 rfl) ?_
              obtain ⟨r_38, hr_38, hf⟩ := bd_some hf
              refine x_goi (ps := []) (I' := [[(h, .inr (10, [.ref h_order, .ref h_system, .ref h_rules, .ref h_savedOrder, .ref h_savedSystem, .ref h_savedRules, .int snapshotSaved, .ref h_peaks, .ref h_leftPaths, .ref h_rightPaths, .ref h_text, .ref h_labellings, .ref h_input, .ref h_explorer, .ref h_arrays, .ref a_reach]))], [(a_reach, .inl (G 0, 16, .inl reach))], [(h_system, .inr (3, [.int system_objects, .ref a_system_words, .int system_steps, .ref a_system_sources, .ref a_system_targets, .ref a_system_labels]))]]) (x_runS (As := [.int v1, .int v3]) (rest := []) (ps := []) ⟨hx, hb, hml, hown, hts⟩ (k_X11_isIn l D G v1 v3 r_38 hr_38) (va_cwS 2 hts gX11_unjoinablePair_X11_isIn rfl rfl rfl (by decide +kernel) ⟨Nat.le_of_ble_eq_true rfl, Nat.le_of_ble_eq_true rfl⟩) hE hP hN rfl (by decide) rfl hl.1 (Nat.le_of_ble_eq_true rfl) dX11_unjoinablePair_38 ⟨Nat.zero_le _, Nat.zero_le _⟩) hP hN hS rfl rfl (fun H locs hP hS => ?_)
              refine lv_if_eq (tgt := 67) hx hb dX11_unjoinablePair_41 (by decide) (fun c_41 => ?_) (fun c_41 => ?_)
              · have hf := it_pos c_41 hf
                exact J67 v3  H locs ls  hP hS (lv_sub hl [0, 1, 2, 3] rfl) hf
              · have hf := it_neg c_41 hf
                refine lv_aload_n hx hb dX11_unjoinablePair_44 rfl (lv_at hl 0 rfl) ?_
                refine x_get hx hb hts u_X11_unjoinablePair_X11 hown hE hP 0 rfl rfl 15 (by decide) (hts (.fieldLink RX11 95 "DecreasingDiagrams" "reach" "[I") (List.mem_of_getElem? (i := 2) rfl)) rfl dX11_unjoinablePair_45 ?_
                refine lv_iload_n hx hb dX11_unjoinablePair_48 rfl (lv_at hl 2 rfl) ?_
                obtain ⟨hi, hf⟩ := ck_some hf
                refine x_iald hx hb hE hP 1 rfl hi dX11_unjoinablePair_49 ?_
                refine lv_aload_n hx hb dX11_unjoinablePair_50 rfl (lv_at hl 0 rfl) ?_
                refine x_get hx hb hts u_X11_unjoinablePair_X11 hown hE hP 0 rfl rfl 15 (by decide) (hts (.fieldLink RX11 95 "DecreasingDiagrams" "reach" "[I") (List.mem_of_getElem? (i := 2) rfl)) rfl dX11_unjoinablePair_51 ?_
                refine lv_iload_n hx hb dX11_unjoinablePair_54 rfl (lv_at hl 3 rfl) ?_
                obtain ⟨hi, hf⟩ := ck_some hf
                refine x_iald hx hb hE hP 1 rfl hi dX11_unjoinablePair_55 ?_
                refine lv_iand hx hb dX11_unjoinablePair_56 ?_
                refine lv_if_ne (tgt := 67) hx hb dX11_unjoinablePair_57 (by decide) (fun c_57 => ?_) (fun c_57 => ?_)
                · have hf := it_pos c_57 hf
                  exact J67 v3  H locs ls  hP hS (lv_sub hl [0, 1, 2, 3] rfl) hf
                · have hf := it_neg (fun h => h c_57) hf
                  exact J60 v2 v3  H locs ls  hP hS (lv_sub hl [2, 3] rfl) hf
      refine lv_iload_n hx hb dX11_unjoinablePair_2 rfl (lv_at hl 2 rfl) ?_
      refine lv_aload_n hx hb dX11_unjoinablePair_3 rfl (lv_at hl 0 rfl) ?_
      refine x_get hx hb hts u_X11_unjoinablePair_X11 hown hE hP 0 rfl rfl 1 (by decide) (hts (.fieldLink RX11 19 "DecreasingDiagrams" "system" "LDecreasingDiagrams$LabelledSystem;") (List.mem_of_getElem? (i := 1) rfl)) rfl dX11_unjoinablePair_4 ?_
      refine x_getN hx hb hts u_X11_unjoinablePair_X3 hown hE hP 2 rfl rfl 0 (by decide) (hE.2 (.fieldLinkNest RX11 149 "DecreasingDiagrams$LabelledSystem" "objects" "I" RX11) (List.mem_of_getElem? (i := 5) rfl)) rfl dX11_unjoinablePair_7 ?_
      refine lv_icmp_ge (tgt := 79) hx hb dX11_unjoinablePair_10 (by decide) (fun c_10 => ?_) (fun c_10 => ?_)
      · have hf := it_pos c_10 hf
        refine lv_bipush (v := -2) hx hb dX11_unjoinablePair_79 (by decide) ?_
        have hf := Option.some.inj hf
        subst hf
        subst hQ
        exact x_iret hx hb hr hlocks hP hS dX11_unjoinablePair_81
      · have hf := it_neg c_10 hf
        refine lv_iload_n hx hb dX11_unjoinablePair_13 rfl (lv_at hl 2 rfl) ?_
        refine lv_iconst (v := 1) hx hb dX11_unjoinablePair_14 (by decide) ?_
        refine lv_iadd hx hb dX11_unjoinablePair_15 ?_
        obtain ⟨v3_16, e_v3_16, hf⟩ := lt_some hf
        refine x_istore_n (v := v3_16) (lv' := [(3, .int v3_16), (0, .ref h), (1, .int v1), (2, .int v2)]) hx hb dX11_unjoinablePair_16 e_v3_16 rfl hl (by decide) rfl (fun ls hl => ?_)
        exact L17 v2   fuel v3_16 H locs ls hP hS (lv_sub hl [1, 2, 3, 0] rfl) hf
  rw [f_X11_unjoinablePair] at hf
  obtain ⟨H, hH⟩ : ∃ H : Heap, H = s.heap := ⟨_, rfl⟩
  obtain ⟨locs, hlocs⟩ : ∃ locs : List Loc, locs = [] := ⟨_, rfl⟩
  have hP : xW D aa [[(h, .inr (10, [.ref h_order, .ref h_system, .ref h_rules, .ref h_savedOrder, .ref h_savedSystem, .ref h_savedRules, .int snapshotSaved, .ref h_peaks, .ref h_leftPaths, .ref h_rightPaths, .ref h_text, .ref h_labellings, .ref h_input, .ref h_explorer, .ref h_arrays, .ref a_reach]))], [(a_reach, .inl (G 0, 16, .inl reach))], [(h_system, .inr (3, [.int system_objects, .ref a_system_words, .int system_steps, .ref a_system_sources, .ref a_system_targets, .ref a_system_labels]))]] H := by rw [hH]; exact hP
  have hS : va_S (xA aa) s.heap H locs := by rw [hH, hlocs]; exact hS
  suffices GO : W p l e (rM 1 21) s m args below meth c H locs 0 0 Q (F0 m 0 ls []) by
    rw [hH, hlocs] at GO
    exact GO
  clear hH hlocs
  refine lv_iconst (v := 0) hx hb dX11_unjoinablePair_0 (by decide) ?_
  obtain ⟨v2_1, e_v2_1, hf⟩ := lt_some hf
  refine x_istore_n (v := v2_1) (lv' := [(2, .int v2_1), (0, .ref h), (1, .int v1)]) hx hb dX11_unjoinablePair_1 e_v2_1 rfl hl (by decide) rfl (fun ls hl => ?_)
  exact L2    fuel v2_1 H locs ls hP hS (lv_sub hl [1, 2, 0] rfl) hf

set_option maxRecDepth 20000 in
theorem u_X11_firstCounterexample_X11 : ∀ w ∈ wsX110, w ∈ wsX11_firstCounterexample := xx_pl _ [28, 29, 30, 31, 32, 33, 34, 35, 36, 37, 38, 39, 40, 41, 42, 43] (by decide +kernel)
set_option maxRecDepth 20000 in
theorem u_X11_firstCounterexample_X3 : ∀ w ∈ wsX30, w ∈ wsX11_firstCounterexample := xx_pl _ [44, 45, 46, 47, 48, 49] (by decide +kernel)
def f_X11_firstCounterexample_J41  (v1 : Int32) (v2 : Int32) (reach : (Nat → Int32)) : Option (Int32 × (Nat → Int32)) :=
  some ((256 * v1) + v2, reach)
def f_X11_firstCounterexample_L13 (system_objects : Int32) (reach : (Nat → Int32)) (rec_13 : Int32 → Option (Int32 × (Nat → Int32))) (v1 : Int32) : Option (Int32 × (Nat → Int32)) :=
  if system_objects ≤ v1 then (some ((-2), reach)) else (ck v1 16 ((f_X11_unjoinablePair system_objects reach (reach v1.toNatClampNeg)).bind (fun r_31 => lt r_31 (fun v2_34 => if v2_34 = (-2) then (lt (v1 + 1) (fun v1_49 => rec_13 v1_49)) else (f_X11_firstCounterexample_J41 v1 v2_34 reach)))))
def f_X11_firstCounterexample (system_objects : Int32) (system_steps : Int32) (reach : (Nat → Int32)) (system_labels : (Nat → Int32)) (system_sources : (Nat → Int32)) (system_targets : (Nat → Int32)) : Option (Int32 × (Nat → Int32)) :=
  (f_X3_fillReach system_objects system_steps reach system_labels system_sources system_targets 16).bind (fun r_8 => lt 0 (fun v1_12 => lp (τ := Int32 → Option (Int32 × (Nat → Int32))) (fun _ => none) (f_X11_firstCounterexample_L13 system_objects r_8) fuel v1_12))
set_option maxHeartbeats 4000000 in
set_option maxRecDepth 100000 in
theorem k_X11_firstCounterexample (l : Launch) (D : va_G) (G : Nat → ClassId) (h : Nat) (h_order : Nat) (h_system : Nat) (h_rules : Nat) (h_savedOrder : Nat) (h_savedSystem : Nat) (h_savedRules : Nat) (h_peaks : Nat) (h_leftPaths : Nat) (h_rightPaths : Nat) (h_text : Nat) (h_labellings : Nat) (h_input : Nat) (h_explorer : Nat) (h_arrays : Nat) (a_reach : Nat) (a_system_words : Nat) (a_system_sources : Nat) (a_system_targets : Nat) (a_system_labels : Nat) (snapshotSaved : Int32) (system_objects : Int32) (system_steps : Int32) (reach : (Nat → Int32)) (system_labels : (Nat → Int32)) (system_sources : (Nat → Int32)) (system_targets : (Nat → Int32))   (out : Int32 × (Nat → Int32)) (hf : f_X11_firstCounterexample system_objects system_steps reach system_labels system_sources system_targets = some out) : xMet l yX11_firstCounterexample wsX11_firstCounterexample (rM 3 71) D G [.ref h] [[(h, .inr (10, [.ref h_order, .ref h_system, .ref h_rules, .ref h_savedOrder, .ref h_savedSystem, .ref h_savedRules, .int snapshotSaved, .ref h_peaks, .ref h_leftPaths, .ref h_rightPaths, .ref h_text, .ref h_labellings, .ref h_input, .ref h_explorer, .ref h_arrays, .ref a_reach]))], [(a_reach, .inl (G 0, 16, .inl reach))], [(h_system, .inr (3, [.int system_objects, .ref a_system_words, .int system_steps, .ref a_system_sources, .ref a_system_targets, .ref a_system_labels]))], [(a_system_labels, .inl (G 0, 32, .inl system_labels))], [(a_system_sources, .inl (G 0, 32, .inl system_sources))], [(a_system_targets, .inl (G 0, 32, .inl system_targets))]] (xQi D [[(h, .inr (10, [.ref h_order, .ref h_system, .ref h_rules, .ref h_savedOrder, .ref h_savedSystem, .ref h_savedRules, .int snapshotSaved, .ref h_peaks, .ref h_leftPaths, .ref h_rightPaths, .ref h_text, .ref h_labellings, .ref h_input, .ref h_explorer, .ref h_arrays, .ref a_reach]))], [(a_reach, .inl (G 0, 16, .inl out.2))], [(h_system, .inr (3, [.int system_objects, .ref a_system_words, .int system_steps, .ref a_system_sources, .ref a_system_targets, .ref a_system_labels]))], [(a_system_labels, .inl (G 0, 32, .inl system_labels))], [(a_system_sources, .inl (G 0, 32, .inl system_sources))], [(a_system_targets, .inl (G 0, 32, .inl system_targets))]] out.1) := by
  refine x_ent (cc := cX11_firstCounterexample) (maxL := 3) (by decide) rfl (Nat.le_of_ble_eq_true rfl) ?_
  intro p e s m below meth c aa ls args Q hQ hx hb hr hml hown hts hlocks hE hN hP hl hS
  have hown : s.vm.findClass RX11 = some m.cls := hown
  have hl : lv_has ls 3 [(0, .ref h)] := hl
  have J41 : ∀ (v1 : Int32) (v2 : Int32) (reach : (Nat → Int32)) (H : Heap) (locs : List Loc) (ls : Array Slot), xW D aa [[(h, .inr (10, [.ref h_order, .ref h_system, .ref h_rules, .ref h_savedOrder, .ref h_savedSystem, .ref h_savedRules, .int snapshotSaved, .ref h_peaks, .ref h_leftPaths, .ref h_rightPaths, .ref h_text, .ref h_labellings, .ref h_input, .ref h_explorer, .ref h_arrays, .ref a_reach]))], [(a_reach, .inl (G 0, 16, .inl reach))], [(h_system, .inr (3, [.int system_objects, .ref a_system_words, .int system_steps, .ref a_system_sources, .ref a_system_targets, .ref a_system_labels]))], [(a_system_labels, .inl (G 0, 32, .inl system_labels))], [(a_system_sources, .inl (G 0, 32, .inl system_sources))], [(a_system_targets, .inl (G 0, 32, .inl system_targets))]] H → va_S (xA aa) s.heap H locs → lv_has ls 3 [(1, .int v1), (2, .int v2)] → f_X11_firstCounterexample_J41  v1 v2 reach = some out → W p l e (rM 3 71) s m args below meth c H locs 0 0 Q (F0 m 41 ls []) := by
    intro v1 v2 reach  H locs ls  hP hS hl hf
    rw [f_X11_firstCounterexample_J41] at hf
    refine lv_sipush (v := 256) hx hb dX11_firstCounterexample_41 (by decide) ?_
    refine lv_iload_n hx hb dX11_firstCounterexample_44 rfl (lv_at hl 0 rfl) ?_
    refine lv_imul hx hb dX11_firstCounterexample_45 ?_
    refine lv_iload_n hx hb dX11_firstCounterexample_46 rfl (lv_at hl 1 rfl) ?_
    refine lv_iadd hx hb dX11_firstCounterexample_47 ?_
    have hf := Option.some.inj hf
    subst hf
    subst hQ
    exact x_iret hx hb hr hlocks hP hS dX11_firstCounterexample_48
  have L13 : ∀ (reach : (Nat → Int32)), ∀ (n_13 : Nat) (v1 : Int32) (H : Heap) (locs : List Loc) (ls : Array Slot), xW D aa [[(h, .inr (10, [.ref h_order, .ref h_system, .ref h_rules, .ref h_savedOrder, .ref h_savedSystem, .ref h_savedRules, .int snapshotSaved, .ref h_peaks, .ref h_leftPaths, .ref h_rightPaths, .ref h_text, .ref h_labellings, .ref h_input, .ref h_explorer, .ref h_arrays, .ref a_reach]))], [(a_reach, .inl (G 0, 16, .inl reach))], [(h_system, .inr (3, [.int system_objects, .ref a_system_words, .int system_steps, .ref a_system_sources, .ref a_system_targets, .ref a_system_labels]))], [(a_system_labels, .inl (G 0, 32, .inl system_labels))], [(a_system_sources, .inl (G 0, 32, .inl system_sources))], [(a_system_targets, .inl (G 0, 32, .inl system_targets))]] H → va_S (xA aa) s.heap H locs → lv_has ls 3 [(0, .ref h), (1, .int v1)] → lp (τ := Int32 → Option (Int32 × (Nat → Int32))) (fun _ => none) (f_X11_firstCounterexample_L13 system_objects reach) n_13 v1 = some out → W p l e (rM 3 71) s m args below meth c H locs 0 0 Q (F0 m 13 ls []) := by
    intro reach   n_13
    induction n_13 with
    | zero =>
      intro v1 H locs ls hP hS hl hf
      exact no_some hf
    | succ n_13 ih_13 =>
      intro v1 H locs ls hP hS hl hf
      have hf : f_X11_firstCounterexample_L13 system_objects reach (lp (τ := Int32 → Option (Int32 × (Nat → Int32))) (fun _ => none) (f_X11_firstCounterexample_L13 system_objects reach) n_13) v1 = some out := hf
      rw [f_X11_firstCounterexample_L13] at hf
      refine lv_iload_n hx hb dX11_firstCounterexample_13 rfl (lv_at hl 1 rfl) ?_
      refine lv_aload_n hx hb dX11_firstCounterexample_14 rfl (lv_at hl 0 rfl) ?_
      refine x_get hx hb hts u_X11_firstCounterexample_X11 hown hE hP 0 rfl rfl 1 (by decide) (hts (.fieldLink RX11 19 "DecreasingDiagrams" "system" "LDecreasingDiagrams$LabelledSystem;") (List.mem_of_getElem? (i := 1) rfl)) rfl dX11_firstCounterexample_15 ?_
      refine x_getN hx hb hts u_X11_firstCounterexample_X3 hown hE hP 2 rfl rfl 0 (by decide) (hE.2 (.fieldLinkNest RX11 149 "DecreasingDiagrams$LabelledSystem" "objects" "I" RX11) (List.mem_of_getElem? (i := 5) rfl)) rfl dX11_firstCounterexample_18 ?_
      refine lv_icmp_ge (tgt := 55) hx hb dX11_firstCounterexample_21 (by decide) (fun c_21 => ?_) (fun c_21 => ?_)
      · have hf := it_pos c_21 hf
        refine lv_bipush (v := -2) hx hb dX11_firstCounterexample_55 (by decide) ?_
        have hf := Option.some.inj hf
        subst hf
        subst hQ
        exact x_iret hx hb hr hlocks hP hS dX11_firstCounterexample_57
      · have hf := it_neg c_21 hf
        refine lv_aload_n hx hb dX11_firstCounterexample_24 rfl (lv_at hl 0 rfl) ?_
        refine lv_aload_n hx hb dX11_firstCounterexample_25 rfl (lv_at hl 0 rfl) ?_
        refine x_get hx hb hts u_X11_firstCounterexample_X11 hown hE hP 0 rfl rfl 15 (by decide) (hts (.fieldLink RX11 95 "DecreasingDiagrams" "reach" "[I") (List.mem_of_getElem? (i := 2) rfl)) rfl dX11_firstCounterexample_26 ?_
        refine lv_iload_n hx hb dX11_firstCounterexample_29 rfl (lv_at hl 1 rfl) ?_
        obtain ⟨hi, hf⟩ := ck_some hf
        refine x_iald hx hb hE hP 1 rfl hi dX11_firstCounterexample_30 ?_
        obtain ⟨r_31, hr_31, hf⟩ := bd_some hf
        refine x_goi (ps := [0, 1, 2]) (I' := [[(h, .inr (10, [.ref h_order, .ref h_system, .ref h_rules, .ref h_savedOrder, .ref h_savedSystem, .ref h_savedRules, .int snapshotSaved, .ref h_peaks, .ref h_leftPaths, .ref h_rightPaths, .ref h_text, .ref h_labellings, .ref h_input, .ref h_explorer, .ref h_arrays, .ref a_reach]))], [(a_reach, .inl (G 0, 16, .inl reach))], [(h_system, .inr (3, [.int system_objects, .ref a_system_words, .int system_steps, .ref a_system_sources, .ref a_system_targets, .ref a_system_labels]))], [(a_system_labels, .inl (G 0, 32, .inl system_labels))], [(a_system_sources, .inl (G 0, 32, .inl system_sources))], [(a_system_targets, .inl (G 0, 32, .inl system_targets))]]) (x_runV (As := [.int (reach v1.toNatClampNeg)]) (rest := []) (ps := [0, 1, 2]) ⟨hx, hb, hml, hown, hts⟩ (k_X11_unjoinablePair l D G h h_order h_system h_rules h_savedOrder h_savedSystem h_savedRules h_peaks h_leftPaths h_rightPaths h_text h_labellings h_input h_explorer h_arrays a_reach a_system_words a_system_sources a_system_targets a_system_labels snapshotSaved system_objects system_steps reach (reach v1.toNatClampNeg) r_31 hr_31) (cwV 1 hts gX11_firstCounterexample_X11_unjoinablePair rfl rfl rfl (by decide +kernel) ⟨Nat.le_of_ble_eq_true rfl, Nat.le_of_ble_eq_true rfl⟩) hE hP hN rfl (by decide) 0 rfl rfl rfl hl.1 (Nat.le_of_ble_eq_true rfl) dX11_firstCounterexample_31 ⟨Nat.zero_le _, Nat.zero_le _⟩) hP hN hS rfl rfl (fun H locs hP hS => ?_)
        obtain ⟨v2_34, e_v2_34, hf⟩ := lt_some hf
        refine x_istore_n (v := v2_34) (lv' := [(2, .int v2_34), (0, .ref h), (1, .int v1)]) hx hb dX11_firstCounterexample_34 e_v2_34 rfl hl (by decide) rfl (fun ls hl => ?_)
        refine lv_iload_n hx hb dX11_firstCounterexample_35 rfl (lv_at hl 0 rfl) ?_
        refine lv_bipush (v := -2) hx hb dX11_firstCounterexample_36 (by decide) ?_
        refine lv_icmp_eq (tgt := 49) hx hb dX11_firstCounterexample_38 (by decide) (fun c_38 => ?_) (fun c_38 => ?_)
        · have hf := it_pos c_38 hf
          obtain ⟨v1_49, e_v1_49, hf⟩ := lt_some hf
          refine lv_iinc (v := v1_49) (lv' := [(1, .int v1_49), (2, .int v2_34), (0, .ref h)]) hx hb dX11_firstCounterexample_49 hl (k := 2) rfl (by rw [e_v1_49]; rfl) (by decide) rfl (fun ls hl => ?_)
          refine lv_goto (tgt := 13) hx hb dX11_firstCounterexample_52 (by decide) ?_
          exact ih_13 v1_49 H locs ls hP hS (lv_sub hl [2, 0] rfl) hf
        · have hf := it_neg c_38 hf
          exact J41 v1 v2_34 reach  H locs ls  hP hS (lv_sub hl [2, 0] rfl) hf
  rw [f_X11_firstCounterexample] at hf
  obtain ⟨H, hH⟩ : ∃ H : Heap, H = s.heap := ⟨_, rfl⟩
  obtain ⟨locs, hlocs⟩ : ∃ locs : List Loc, locs = [] := ⟨_, rfl⟩
  have hP : xW D aa [[(h, .inr (10, [.ref h_order, .ref h_system, .ref h_rules, .ref h_savedOrder, .ref h_savedSystem, .ref h_savedRules, .int snapshotSaved, .ref h_peaks, .ref h_leftPaths, .ref h_rightPaths, .ref h_text, .ref h_labellings, .ref h_input, .ref h_explorer, .ref h_arrays, .ref a_reach]))], [(a_reach, .inl (G 0, 16, .inl reach))], [(h_system, .inr (3, [.int system_objects, .ref a_system_words, .int system_steps, .ref a_system_sources, .ref a_system_targets, .ref a_system_labels]))], [(a_system_labels, .inl (G 0, 32, .inl system_labels))], [(a_system_sources, .inl (G 0, 32, .inl system_sources))], [(a_system_targets, .inl (G 0, 32, .inl system_targets))]] H := by rw [hH]; exact hP
  have hS : va_S (xA aa) s.heap H locs := by rw [hH, hlocs]; exact hS
  suffices GO : W p l e (rM 3 71) s m args below meth c H locs 0 0 Q (F0 m 0 ls []) by
    rw [hH, hlocs] at GO
    exact GO
  clear hH hlocs
  refine lv_aload_n hx hb dX11_firstCounterexample_0 rfl (lv_at hl 0 rfl) ?_
  refine x_get hx hb hts u_X11_firstCounterexample_X11 hown hE hP 0 rfl rfl 1 (by decide) (hts (.fieldLink RX11 19 "DecreasingDiagrams" "system" "LDecreasingDiagrams$LabelledSystem;") (List.mem_of_getElem? (i := 1) rfl)) rfl dX11_firstCounterexample_1 ?_
  refine lv_aload_n hx hb dX11_firstCounterexample_4 rfl (lv_at hl 0 rfl) ?_
  refine x_get hx hb hts u_X11_firstCounterexample_X11 hown hE hP 0 rfl rfl 15 (by decide) (hts (.fieldLink RX11 95 "DecreasingDiagrams" "reach" "[I") (List.mem_of_getElem? (i := 2) rfl)) rfl dX11_firstCounterexample_5 ?_
  obtain ⟨r_8, hr_8, hf⟩ := bd_some hf
  refine x_gov (ps := [1, 2, 3, 4, 5]) (I' := [[(h, .inr (10, [.ref h_order, .ref h_system, .ref h_rules, .ref h_savedOrder, .ref h_savedSystem, .ref h_savedRules, .int snapshotSaved, .ref h_peaks, .ref h_leftPaths, .ref h_rightPaths, .ref h_text, .ref h_labellings, .ref h_input, .ref h_explorer, .ref h_arrays, .ref a_reach]))], [(a_reach, .inl (G 0, 16, .inl r_8))], [(h_system, .inr (3, [.int system_objects, .ref a_system_words, .int system_steps, .ref a_system_sources, .ref a_system_targets, .ref a_system_labels]))], [(a_system_labels, .inl (G 0, 32, .inl system_labels))], [(a_system_sources, .inl (G 0, 32, .inl system_sources))], [(a_system_targets, .inl (G 0, 32, .inl system_targets))]]) (x_runVN (As := [.ref a_reach]) (rest := []) (ps := [1, 2, 3, 4, 5]) ⟨hx, hb, hml, hown, hts⟩ (k_X3_fillReach l D G h_system a_reach a_system_words a_system_sources a_system_targets a_system_labels system_objects system_steps reach system_labels system_sources system_targets 16 r_8 hr_8) ⟨va_cnB 1 hts gX11_firstCounterexample_X3_fillReach_n191 rfl rfl rfl (hE.2 (.methodLinkNest RX11 191 yX3_fillReach RX11) (List.mem_of_getElem? (i := 72) rfl)) (hts (.initialized RX3) (List.mem_of_getElem? (i := 4) rfl)) (by decide +kernel) ⟨Nat.le_of_ble_eq_true rfl, Nat.le_of_ble_eq_true rfl⟩, (hts (.instanceMethod yX3_fillReach) (List.mem_of_getElem? (i := 3) rfl)), (hts (.selects RX3 yX3_fillReach yX3_fillReach) (List.mem_of_getElem? (i := 5) rfl))⟩ hE hP hN rfl (by decide) 2 rfl rfl rfl hl.1 (Nat.le_of_ble_eq_true rfl) dX11_firstCounterexample_8 ⟨Nat.zero_le _, Nat.zero_le _⟩) hP hN hS rfl rfl (fun H locs hP hS => ?_)
  refine lv_iconst (v := 0) hx hb dX11_firstCounterexample_11 (by decide) ?_
  obtain ⟨v1_12, e_v1_12, hf⟩ := lt_some hf
  refine x_istore_n (v := v1_12) (lv' := [(1, .int v1_12), (0, .ref h)]) hx hb dX11_firstCounterexample_12 e_v1_12 rfl hl (by decide) rfl (fun ls hl => ?_)
  exact L13 r_8   fuel v1_12 H locs ls hP hS (lv_sub hl [1, 0] rfl) hf

def f_X11_counterexample (system_objects : Int32) (system_steps : Int32) (reach : (Nat → Int32)) (system_labels : (Nat → Int32)) (system_sources : (Nat → Int32)) (system_targets : (Nat → Int32)) : Option (Int32 × (Nat → Int32)) :=
  (f_X11_firstCounterexample system_objects system_steps reach system_labels system_sources system_targets).bind (fun r_1 => some (r_1.1, r_1.2))
set_option maxHeartbeats 4000000 in
set_option maxRecDepth 100000 in
theorem k_X11_counterexample (l : Launch) (D : va_G) (G : Nat → ClassId) (h : Nat) (h_order : Nat) (h_system : Nat) (h_rules : Nat) (h_savedOrder : Nat) (h_savedSystem : Nat) (h_savedRules : Nat) (h_peaks : Nat) (h_leftPaths : Nat) (h_rightPaths : Nat) (h_text : Nat) (h_labellings : Nat) (h_input : Nat) (h_explorer : Nat) (h_arrays : Nat) (a_reach : Nat) (a_system_words : Nat) (a_system_sources : Nat) (a_system_targets : Nat) (a_system_labels : Nat) (snapshotSaved : Int32) (system_objects : Int32) (system_steps : Int32) (reach : (Nat → Int32)) (system_labels : (Nat → Int32)) (system_sources : (Nat → Int32)) (system_targets : (Nat → Int32))   (out : Int32 × (Nat → Int32)) (hf : f_X11_counterexample system_objects system_steps reach system_labels system_sources system_targets = some out) : xMet l yX11_counterexample wsX11_counterexample (rM 4 93) D G [.ref h] [[(h, .inr (10, [.ref h_order, .ref h_system, .ref h_rules, .ref h_savedOrder, .ref h_savedSystem, .ref h_savedRules, .int snapshotSaved, .ref h_peaks, .ref h_leftPaths, .ref h_rightPaths, .ref h_text, .ref h_labellings, .ref h_input, .ref h_explorer, .ref h_arrays, .ref a_reach]))], [(a_reach, .inl (G 0, 16, .inl reach))], [(h_system, .inr (3, [.int system_objects, .ref a_system_words, .int system_steps, .ref a_system_sources, .ref a_system_targets, .ref a_system_labels]))], [(a_system_labels, .inl (G 0, 32, .inl system_labels))], [(a_system_sources, .inl (G 0, 32, .inl system_sources))], [(a_system_targets, .inl (G 0, 32, .inl system_targets))]] (xQi D [[(h, .inr (10, [.ref h_order, .ref h_system, .ref h_rules, .ref h_savedOrder, .ref h_savedSystem, .ref h_savedRules, .int snapshotSaved, .ref h_peaks, .ref h_leftPaths, .ref h_rightPaths, .ref h_text, .ref h_labellings, .ref h_input, .ref h_explorer, .ref h_arrays, .ref a_reach]))], [(a_reach, .inl (G 0, 16, .inl out.2))], [(h_system, .inr (3, [.int system_objects, .ref a_system_words, .int system_steps, .ref a_system_sources, .ref a_system_targets, .ref a_system_labels]))], [(a_system_labels, .inl (G 0, 32, .inl system_labels))], [(a_system_sources, .inl (G 0, 32, .inl system_sources))], [(a_system_targets, .inl (G 0, 32, .inl system_targets))]] out.1) := by
  refine x_ent (cc := cX11_counterexample) (maxL := 1) (by decide) rfl (Nat.le_of_ble_eq_true rfl) ?_
  intro p e s m below meth c aa ls args Q hQ hx hb hr hml hown hts hlocks hE hN hP hl hS
  have hown : s.vm.findClass RX11 = some m.cls := hown
  have hl : lv_has ls 1 [(0, .ref h)] := hl
  rw [f_X11_counterexample] at hf
  obtain ⟨H, hH⟩ : ∃ H : Heap, H = s.heap := ⟨_, rfl⟩
  obtain ⟨locs, hlocs⟩ : ∃ locs : List Loc, locs = [] := ⟨_, rfl⟩
  have hP : xW D aa [[(h, .inr (10, [.ref h_order, .ref h_system, .ref h_rules, .ref h_savedOrder, .ref h_savedSystem, .ref h_savedRules, .int snapshotSaved, .ref h_peaks, .ref h_leftPaths, .ref h_rightPaths, .ref h_text, .ref h_labellings, .ref h_input, .ref h_explorer, .ref h_arrays, .ref a_reach]))], [(a_reach, .inl (G 0, 16, .inl reach))], [(h_system, .inr (3, [.int system_objects, .ref a_system_words, .int system_steps, .ref a_system_sources, .ref a_system_targets, .ref a_system_labels]))], [(a_system_labels, .inl (G 0, 32, .inl system_labels))], [(a_system_sources, .inl (G 0, 32, .inl system_sources))], [(a_system_targets, .inl (G 0, 32, .inl system_targets))]] H := by rw [hH]; exact hP
  have hS : va_S (xA aa) s.heap H locs := by rw [hH, hlocs]; exact hS
  suffices GO : W p l e (rM 4 93) s m args below meth c H locs 0 0 Q (F0 m 0 ls []) by
    rw [hH, hlocs] at GO
    exact GO
  clear hH hlocs
  refine lv_aload_n hx hb dX11_counterexample_0 rfl (lv_at hl 0 rfl) ?_
  obtain ⟨r_1, hr_1, hf⟩ := bd_some hf
  refine x_goi (ps := [0, 1, 2, 3, 4, 5]) (I' := [[(h, .inr (10, [.ref h_order, .ref h_system, .ref h_rules, .ref h_savedOrder, .ref h_savedSystem, .ref h_savedRules, .int snapshotSaved, .ref h_peaks, .ref h_leftPaths, .ref h_rightPaths, .ref h_text, .ref h_labellings, .ref h_input, .ref h_explorer, .ref h_arrays, .ref a_reach]))], [(a_reach, .inl (G 0, 16, .inl r_1.2))], [(h_system, .inr (3, [.int system_objects, .ref a_system_words, .int system_steps, .ref a_system_sources, .ref a_system_targets, .ref a_system_labels]))], [(a_system_labels, .inl (G 0, 32, .inl system_labels))], [(a_system_sources, .inl (G 0, 32, .inl system_sources))], [(a_system_targets, .inl (G 0, 32, .inl system_targets))]]) (x_runV (As := []) (rest := []) (ps := [0, 1, 2, 3, 4, 5]) ⟨hx, hb, hml, hown, hts⟩ (k_X11_firstCounterexample l D G h h_order h_system h_rules h_savedOrder h_savedSystem h_savedRules h_peaks h_leftPaths h_rightPaths h_text h_labellings h_input h_explorer h_arrays a_reach a_system_words a_system_sources a_system_targets a_system_labels snapshotSaved system_objects system_steps reach system_labels system_sources system_targets r_1 hr_1) (cwV 0 hts gX11_counterexample_X11_firstCounterexample rfl rfl rfl (by decide +kernel) ⟨Nat.le_of_ble_eq_true rfl, Nat.le_of_ble_eq_true rfl⟩) hE hP hN rfl (by decide) 0 rfl rfl rfl hl.1 (Nat.le_of_ble_eq_true rfl) dX11_counterexample_1 ⟨Nat.zero_le _, Nat.zero_le _⟩) hP hN hS rfl rfl (fun H locs hP hS => ?_)
  have hf := Option.some.inj hf
  subst hf
  subst hQ
  exact x_iret hx hb hr hlocks hP hS dX11_counterexample_4

set_option maxRecDepth 20000 in
theorem u_X11_decreasingCount_X11 : ∀ w ∈ wsX110, w ∈ wsX11_decreasingCount := xx_pl _ [30, 31, 32, 33, 34, 35, 36, 37, 38, 39, 40, 41, 42, 43, 44, 45] (by decide +kernel)
set_option maxRecDepth 20000 in
theorem u_X11_decreasingCount_X7 : ∀ w ∈ wsX70, w ∈ wsX11_decreasingCount := xx_pl _ [46, 47, 48] (by decide +kernel)
def f_X11_decreasingCount_J48 (rec_15 : (Int32 → Int32 → Option (Int32 × Int32 × (Nat → Int32) × (Nat → Int32)))) (v1 : Int32) (v2 : Int32) : Option (Int32 × Int32 × (Nat → Int32) × (Nat → Int32)) :=
  lt (v2 + 1) (fun v2_48 => rec_15 v1 v2_48)
def f_X11_decreasingCount_L15 (peaks_count : Int32) (system_objects : Int32) (system_steps : Int32) (order_below : (Nat → Int32)) (peaks_firsts : (Nat → Int32)) (peaks_seconds : (Nat → Int32)) (system_labels : (Nat → Int32)) (system_sources : (Nat → Int32)) (system_targets : (Nat → Int32)) (rec_15 : Int32 → Int32 → Option (Int32 × Int32 × (Nat → Int32) × (Nat → Int32))) (v1 : Int32) (v2 : Int32) : Option (Int32 × Int32 × (Nat → Int32) × (Nat → Int32)) :=
  if peaks_count ≤ v2 then (some (v1, peaks_count, peaks_firsts, peaks_seconds)) else ((f_X7_decreases system_objects system_steps system_labels system_sources system_targets order_below peaks_firsts peaks_seconds v2).bind (fun r_39 => if r_39 = 0 then (f_X11_decreasingCount_J48 rec_15 v1 v2) else (lt (v1 + 1) (fun v1_45 => f_X11_decreasingCount_J48 rec_15 v1_45 v2))))
def f_X11_decreasingCount (system_objects : Int32) (system_steps : Int32) (order_below : (Nat → Int32)) (peaks_firsts : (Nat → Int32)) (peaks_seconds : (Nat → Int32)) (system_labels : (Nat → Int32)) (system_sources : (Nat → Int32)) (system_targets : (Nat → Int32)) : Option (Int32 × Int32 × (Nat → Int32) × (Nat → Int32)) :=
  (f_X7_collect system_steps system_sources peaks_firsts peaks_seconds).bind (fun r_8 => lt 0 (fun v1_12 => lt 0 (fun v2_14 => lp (τ := Int32 → Int32 → Option (Int32 × Int32 × (Nat → Int32) × (Nat → Int32))) (fun _ _ => none) (f_X11_decreasingCount_L15 r_8.1 system_objects system_steps order_below r_8.2.1 r_8.2.2 system_labels system_sources system_targets) fuel v1_12 v2_14)))
set_option maxHeartbeats 4000000 in
set_option maxRecDepth 100000 in
theorem k_X11_decreasingCount (l : Launch) (D : va_G) (G : Nat → ClassId) (h : Nat) (h_order : Nat) (h_system : Nat) (h_rules : Nat) (h_savedOrder : Nat) (h_savedSystem : Nat) (h_savedRules : Nat) (h_peaks : Nat) (h_leftPaths : Nat) (h_rightPaths : Nat) (h_text : Nat) (h_labellings : Nat) (h_input : Nat) (h_explorer : Nat) (h_arrays : Nat) (a_reach : Nat) (a_order_pairs : Nat) (a_order_below : Nat) (a_peaks_firsts : Nat) (a_peaks_seconds : Nat) (a_system_words : Nat) (a_system_sources : Nat) (a_system_targets : Nat) (a_system_labels : Nat) (snapshotSaved : Int32) (peaks_count : Int32) (system_objects : Int32) (system_steps : Int32) (order_below : (Nat → Int32)) (peaks_firsts : (Nat → Int32)) (peaks_seconds : (Nat → Int32)) (system_labels : (Nat → Int32)) (system_sources : (Nat → Int32)) (system_targets : (Nat → Int32))   (out : Int32 × Int32 × (Nat → Int32) × (Nat → Int32)) (hf : f_X11_decreasingCount system_objects system_steps order_below peaks_firsts peaks_seconds system_labels system_sources system_targets = some out) : xMet l yX11_decreasingCount wsX11_decreasingCount (rM 4 102) D G [.ref h] [[(h, .inr (10, [.ref h_order, .ref h_system, .ref h_rules, .ref h_savedOrder, .ref h_savedSystem, .ref h_savedRules, .int snapshotSaved, .ref h_peaks, .ref h_leftPaths, .ref h_rightPaths, .ref h_text, .ref h_labellings, .ref h_input, .ref h_explorer, .ref h_arrays, .ref a_reach]))], [(h_order, .inr (2, [.ref a_order_pairs, .ref a_order_below]))], [(a_order_below, .inl (G 0, 8, .inl order_below))], [(h_peaks, .inr (7, [.int peaks_count, .ref a_peaks_firsts, .ref a_peaks_seconds]))], [(a_peaks_firsts, .inl (G 0, 496, .inl peaks_firsts))], [(a_peaks_seconds, .inl (G 0, 496, .inl peaks_seconds))], [(h_system, .inr (3, [.int system_objects, .ref a_system_words, .int system_steps, .ref a_system_sources, .ref a_system_targets, .ref a_system_labels]))], [(a_system_labels, .inl (G 0, 32, .inl system_labels))], [(a_system_sources, .inl (G 0, 32, .inl system_sources))], [(a_system_targets, .inl (G 0, 32, .inl system_targets))]] (xQi D [[(h, .inr (10, [.ref h_order, .ref h_system, .ref h_rules, .ref h_savedOrder, .ref h_savedSystem, .ref h_savedRules, .int snapshotSaved, .ref h_peaks, .ref h_leftPaths, .ref h_rightPaths, .ref h_text, .ref h_labellings, .ref h_input, .ref h_explorer, .ref h_arrays, .ref a_reach]))], [(h_order, .inr (2, [.ref a_order_pairs, .ref a_order_below]))], [(a_order_below, .inl (G 0, 8, .inl order_below))], [(h_peaks, .inr (7, [.int out.2.1, .ref a_peaks_firsts, .ref a_peaks_seconds]))], [(a_peaks_firsts, .inl (G 0, 496, .inl out.2.2.1))], [(a_peaks_seconds, .inl (G 0, 496, .inl out.2.2.2))], [(h_system, .inr (3, [.int system_objects, .ref a_system_words, .int system_steps, .ref a_system_sources, .ref a_system_targets, .ref a_system_labels]))], [(a_system_labels, .inl (G 0, 32, .inl system_labels))], [(a_system_sources, .inl (G 0, 32, .inl system_sources))], [(a_system_targets, .inl (G 0, 32, .inl system_targets))]] out.1) := by
  refine x_ent (cc := cX11_decreasingCount) (maxL := 3) (by decide) rfl (Nat.le_of_ble_eq_true rfl) ?_
  intro p e s m below meth c aa ls args Q hQ hx hb hr hml hown hts hlocks hE hN hP hl hS
  have hown : s.vm.findClass RX11 = some m.cls := hown
  have hl : lv_has ls 3 [(0, .ref h)] := hl
  have L15 : ∀ (peaks_count : Int32) (peaks_firsts : (Nat → Int32)) (peaks_seconds : (Nat → Int32)), ∀ (n_15 : Nat) (v1 : Int32) (v2 : Int32) (H : Heap) (locs : List Loc) (ls : Array Slot), xW D aa [[(h, .inr (10, [.ref h_order, .ref h_system, .ref h_rules, .ref h_savedOrder, .ref h_savedSystem, .ref h_savedRules, .int snapshotSaved, .ref h_peaks, .ref h_leftPaths, .ref h_rightPaths, .ref h_text, .ref h_labellings, .ref h_input, .ref h_explorer, .ref h_arrays, .ref a_reach]))], [(h_order, .inr (2, [.ref a_order_pairs, .ref a_order_below]))], [(a_order_below, .inl (G 0, 8, .inl order_below))], [(h_peaks, .inr (7, [.int peaks_count, .ref a_peaks_firsts, .ref a_peaks_seconds]))], [(a_peaks_firsts, .inl (G 0, 496, .inl peaks_firsts))], [(a_peaks_seconds, .inl (G 0, 496, .inl peaks_seconds))], [(h_system, .inr (3, [.int system_objects, .ref a_system_words, .int system_steps, .ref a_system_sources, .ref a_system_targets, .ref a_system_labels]))], [(a_system_labels, .inl (G 0, 32, .inl system_labels))], [(a_system_sources, .inl (G 0, 32, .inl system_sources))], [(a_system_targets, .inl (G 0, 32, .inl system_targets))]] H → va_S (xA aa) s.heap H locs → lv_has ls 3 [(0, .ref h), (1, .int v1), (2, .int v2)] → lp (τ := Int32 → Int32 → Option (Int32 × Int32 × (Nat → Int32) × (Nat → Int32))) (fun _ _ => none) (f_X11_decreasingCount_L15 peaks_count system_objects system_steps order_below peaks_firsts peaks_seconds system_labels system_sources system_targets) n_15 v1 v2 = some out → W p l e (rM 4 102) s m args below meth c H locs 0 0 Q (F0 m 15 ls []) := by
    intro peaks_count peaks_firsts peaks_seconds   n_15
    induction n_15 with
    | zero =>
      intro v1 v2 H locs ls hP hS hl hf
      exact no_some hf
    | succ n_15 ih_15 =>
      intro v1 v2 H locs ls hP hS hl hf
      have hf : f_X11_decreasingCount_L15 peaks_count system_objects system_steps order_below peaks_firsts peaks_seconds system_labels system_sources system_targets (lp (τ := Int32 → Int32 → Option (Int32 × Int32 × (Nat → Int32) × (Nat → Int32))) (fun _ _ => none) (f_X11_decreasingCount_L15 peaks_count system_objects system_steps order_below peaks_firsts peaks_seconds system_labels system_sources system_targets) n_15) v1 v2 = some out := hf
      rw [f_X11_decreasingCount_L15] at hf
      have J48 : ∀ (v1 : Int32) (v2 : Int32) (H : Heap) (locs : List Loc) (ls : Array Slot), xW D aa [[(h, .inr (10, [.ref h_order, .ref h_system, .ref h_rules, .ref h_savedOrder, .ref h_savedSystem, .ref h_savedRules, .int snapshotSaved, .ref h_peaks, .ref h_leftPaths, .ref h_rightPaths, .ref h_text, .ref h_labellings, .ref h_input, .ref h_explorer, .ref h_arrays, .ref a_reach]))], [(h_order, .inr (2, [.ref a_order_pairs, .ref a_order_below]))], [(a_order_below, .inl (G 0, 8, .inl order_below))], [(h_peaks, .inr (7, [.int peaks_count, .ref a_peaks_firsts, .ref a_peaks_seconds]))], [(a_peaks_firsts, .inl (G 0, 496, .inl peaks_firsts))], [(a_peaks_seconds, .inl (G 0, 496, .inl peaks_seconds))], [(h_system, .inr (3, [.int system_objects, .ref a_system_words, .int system_steps, .ref a_system_sources, .ref a_system_targets, .ref a_system_labels]))], [(a_system_labels, .inl (G 0, 32, .inl system_labels))], [(a_system_sources, .inl (G 0, 32, .inl system_sources))], [(a_system_targets, .inl (G 0, 32, .inl system_targets))]] H → va_S (xA aa) s.heap H locs → lv_has ls 3 [(0, .ref h), (1, .int v1), (2, .int v2)] → f_X11_decreasingCount_J48 (lp (τ := Int32 → Int32 → Option (Int32 × Int32 × (Nat → Int32) × (Nat → Int32))) (fun _ _ => none) (f_X11_decreasingCount_L15 peaks_count system_objects system_steps order_below peaks_firsts peaks_seconds system_labels system_sources system_targets) n_15) v1 v2 = some out → W p l e (rM 4 102) s m args below meth c H locs 0 0 Q (F0 m 48 ls []) := by
        intro v1 v2  H locs ls  hP hS hl hf
        rw [f_X11_decreasingCount_J48] at hf
        obtain ⟨v2_48, e_v2_48, hf⟩ := lt_some hf
        refine lv_iinc (v := v2_48) (lv' := [(2, .int v2_48), (0, .ref h), (1, .int v1)]) hx hb dX11_decreasingCount_48 hl (k := 2) rfl (by rw [e_v2_48]; rfl) (by decide) rfl (fun ls hl => ?_)
        refine lv_goto (tgt := 15) hx hb dX11_decreasingCount_51 (by decide) ?_
        exact ih_15 v1 v2_48 H locs ls hP hS (lv_sub hl [1, 2, 0] rfl) hf
      refine lv_iload_n hx hb dX11_decreasingCount_15 rfl (lv_at hl 2 rfl) ?_
      refine lv_aload_n hx hb dX11_decreasingCount_16 rfl (lv_at hl 0 rfl) ?_
      refine x_get hx hb hts u_X11_decreasingCount_X11 hown hE hP 0 rfl rfl 7 (by decide) (hts (.fieldLink RX11 46 "DecreasingDiagrams" "peaks" "LDecreasingDiagrams$Peaks;") (List.mem_of_getElem? (i := 1) rfl)) rfl dX11_decreasingCount_17 ?_
      refine x_getN hx hb hts u_X11_decreasingCount_X7 hown hE hP 3 rfl rfl 0 (by decide) (hE.2 (.fieldLinkNest RX11 199 "DecreasingDiagrams$Peaks" "count" "I" RX11) (List.mem_of_getElem? (i := 28) rfl)) rfl dX11_decreasingCount_20 ?_
      refine lv_icmp_ge (tgt := 54) hx hb dX11_decreasingCount_23 (by decide) (fun c_23 => ?_) (fun c_23 => ?_)
      · have hf := it_pos c_23 hf
        refine lv_iload_n hx hb dX11_decreasingCount_54 rfl (lv_at hl 1 rfl) ?_
        have hf := Option.some.inj hf
        subst hf
        subst hQ
        exact x_iret hx hb hr hlocks hP hS dX11_decreasingCount_55
      · have hf := it_neg c_23 hf
        refine lv_aload_n hx hb dX11_decreasingCount_26 rfl (lv_at hl 0 rfl) ?_
        refine x_get hx hb hts u_X11_decreasingCount_X11 hown hE hP 0 rfl rfl 7 (by decide) (hts (.fieldLink RX11 46 "DecreasingDiagrams" "peaks" "LDecreasingDiagrams$Peaks;") (List.mem_of_getElem? (i := 1) rfl)) rfl dX11_decreasingCount_27 ?_
        refine lv_iload_n hx hb dX11_decreasingCount_30 rfl (lv_at hl 2 rfl) ?_
        refine lv_aload_n hx hb dX11_decreasingCount_31 rfl (lv_at hl 0 rfl) ?_
        refine x_get hx hb hts u_X11_decreasingCount_X11 hown hE hP 0 rfl rfl 1 (by decide) (hts (.fieldLink RX11 19 "DecreasingDiagrams" "system" "LDecreasingDiagrams$LabelledSystem;") (List.mem_of_getElem? (i := 2) rfl)) rfl dX11_decreasingCount_32 ?_
        refine lv_aload_n hx hb dX11_decreasingCount_35 rfl (lv_at hl 0 rfl) ?_
        refine x_get hx hb hts u_X11_decreasingCount_X11 hown hE hP 0 rfl rfl 0 (by decide) (hts (.fieldLink RX11 12 "DecreasingDiagrams" "order" "LDecreasingDiagrams$LabelOrder;") (List.mem_of_getElem? (i := 3) rfl)) rfl dX11_decreasingCount_36 ?_
        obtain ⟨r_39, hr_39, hf⟩ := bd_some hf
        refine x_goi (ps := [6, 7, 8, 9, 1, 2, 3, 4, 5]) (I' := [[(h, .inr (10, [.ref h_order, .ref h_system, .ref h_rules, .ref h_savedOrder, .ref h_savedSystem, .ref h_savedRules, .int snapshotSaved, .ref h_peaks, .ref h_leftPaths, .ref h_rightPaths, .ref h_text, .ref h_labellings, .ref h_input, .ref h_explorer, .ref h_arrays, .ref a_reach]))], [(h_order, .inr (2, [.ref a_order_pairs, .ref a_order_below]))], [(a_order_below, .inl (G 0, 8, .inl order_below))], [(h_peaks, .inr (7, [.int peaks_count, .ref a_peaks_firsts, .ref a_peaks_seconds]))], [(a_peaks_firsts, .inl (G 0, 496, .inl peaks_firsts))], [(a_peaks_seconds, .inl (G 0, 496, .inl peaks_seconds))], [(h_system, .inr (3, [.int system_objects, .ref a_system_words, .int system_steps, .ref a_system_sources, .ref a_system_targets, .ref a_system_labels]))], [(a_system_labels, .inl (G 0, 32, .inl system_labels))], [(a_system_sources, .inl (G 0, 32, .inl system_sources))], [(a_system_targets, .inl (G 0, 32, .inl system_targets))]]) (x_runVN (As := [.int v2, .ref h_system, .ref h_order]) (rest := []) (ps := [6, 7, 8, 9, 1, 2, 3, 4, 5]) ⟨hx, hb, hml, hown, hts⟩ (k_X7_decreases l D G h_peaks h_system h_order a_system_words a_system_sources a_system_targets a_system_labels a_order_pairs a_order_below a_peaks_firsts a_peaks_seconds system_objects system_steps peaks_count system_labels system_sources system_targets order_below peaks_firsts peaks_seconds v2 r_39 hr_39) ⟨va_cnB 3 hts gX11_decreasingCount_X7_decreases_n214 rfl rfl rfl (hE.2 (.methodLinkNest RX11 214 yX7_decreases RX11) (List.mem_of_getElem? (i := 75) rfl)) (hts (.initialized RX7) (List.mem_of_getElem? (i := 5) rfl)) (by decide +kernel) ⟨Nat.le_of_ble_eq_true rfl, Nat.le_of_ble_eq_true rfl⟩, (hts (.instanceMethod yX7_decreases) (List.mem_of_getElem? (i := 11) rfl)), (hts (.selects RX7 yX7_decreases yX7_decreases) (List.mem_of_getElem? (i := 12) rfl))⟩ hE hP hN rfl (by decide) 3 rfl rfl rfl hl.1 (Nat.le_of_ble_eq_true rfl) dX11_decreasingCount_39 ⟨Nat.zero_le _, Nat.zero_le _⟩) hP hN hS rfl rfl (fun H locs hP hS => ?_)
        refine lv_if_eq (tgt := 48) hx hb dX11_decreasingCount_42 (by decide) (fun c_42 => ?_) (fun c_42 => ?_)
        · have hf := it_pos c_42 hf
          exact J48 v1 v2  H locs ls  hP hS (lv_sub hl [0, 1, 2] rfl) hf
        · have hf := it_neg c_42 hf
          obtain ⟨v1_45, e_v1_45, hf⟩ := lt_some hf
          refine lv_iinc (v := v1_45) (lv' := [(1, .int v1_45), (0, .ref h), (2, .int v2)]) hx hb dX11_decreasingCount_45 hl (k := 1) rfl (by rw [e_v1_45]; rfl) (by decide) rfl (fun ls hl => ?_)
          exact J48 v1_45 v2  H locs ls  hP hS (lv_sub hl [1, 0, 2] rfl) hf
  rw [f_X11_decreasingCount] at hf
  obtain ⟨H, hH⟩ : ∃ H : Heap, H = s.heap := ⟨_, rfl⟩
  obtain ⟨locs, hlocs⟩ : ∃ locs : List Loc, locs = [] := ⟨_, rfl⟩
  have hP : xW D aa [[(h, .inr (10, [.ref h_order, .ref h_system, .ref h_rules, .ref h_savedOrder, .ref h_savedSystem, .ref h_savedRules, .int snapshotSaved, .ref h_peaks, .ref h_leftPaths, .ref h_rightPaths, .ref h_text, .ref h_labellings, .ref h_input, .ref h_explorer, .ref h_arrays, .ref a_reach]))], [(h_order, .inr (2, [.ref a_order_pairs, .ref a_order_below]))], [(a_order_below, .inl (G 0, 8, .inl order_below))], [(h_peaks, .inr (7, [.int peaks_count, .ref a_peaks_firsts, .ref a_peaks_seconds]))], [(a_peaks_firsts, .inl (G 0, 496, .inl peaks_firsts))], [(a_peaks_seconds, .inl (G 0, 496, .inl peaks_seconds))], [(h_system, .inr (3, [.int system_objects, .ref a_system_words, .int system_steps, .ref a_system_sources, .ref a_system_targets, .ref a_system_labels]))], [(a_system_labels, .inl (G 0, 32, .inl system_labels))], [(a_system_sources, .inl (G 0, 32, .inl system_sources))], [(a_system_targets, .inl (G 0, 32, .inl system_targets))]] H := by rw [hH]; exact hP
  have hS : va_S (xA aa) s.heap H locs := by rw [hH, hlocs]; exact hS
  suffices GO : W p l e (rM 4 102) s m args below meth c H locs 0 0 Q (F0 m 0 ls []) by
    rw [hH, hlocs] at GO
    exact GO
  clear hH hlocs
  refine lv_aload_n hx hb dX11_decreasingCount_0 rfl (lv_at hl 0 rfl) ?_
  refine x_get hx hb hts u_X11_decreasingCount_X11 hown hE hP 0 rfl rfl 7 (by decide) (hts (.fieldLink RX11 46 "DecreasingDiagrams" "peaks" "LDecreasingDiagrams$Peaks;") (List.mem_of_getElem? (i := 1) rfl)) rfl dX11_decreasingCount_1 ?_
  refine lv_aload_n hx hb dX11_decreasingCount_4 rfl (lv_at hl 0 rfl) ?_
  refine x_get hx hb hts u_X11_decreasingCount_X11 hown hE hP 0 rfl rfl 1 (by decide) (hts (.fieldLink RX11 19 "DecreasingDiagrams" "system" "LDecreasingDiagrams$LabelledSystem;") (List.mem_of_getElem? (i := 2) rfl)) rfl dX11_decreasingCount_5 ?_
  obtain ⟨r_8, hr_8, hf⟩ := bd_some hf
  refine x_gov (ps := [6, 8, 3, 4, 5]) (I' := [[(h, .inr (10, [.ref h_order, .ref h_system, .ref h_rules, .ref h_savedOrder, .ref h_savedSystem, .ref h_savedRules, .int snapshotSaved, .ref h_peaks, .ref h_leftPaths, .ref h_rightPaths, .ref h_text, .ref h_labellings, .ref h_input, .ref h_explorer, .ref h_arrays, .ref a_reach]))], [(h_order, .inr (2, [.ref a_order_pairs, .ref a_order_below]))], [(a_order_below, .inl (G 0, 8, .inl order_below))], [(h_peaks, .inr (7, [.int r_8.1, .ref a_peaks_firsts, .ref a_peaks_seconds]))], [(a_peaks_firsts, .inl (G 0, 496, .inl r_8.2.1))], [(a_peaks_seconds, .inl (G 0, 496, .inl r_8.2.2))], [(h_system, .inr (3, [.int system_objects, .ref a_system_words, .int system_steps, .ref a_system_sources, .ref a_system_targets, .ref a_system_labels]))], [(a_system_labels, .inl (G 0, 32, .inl system_labels))], [(a_system_sources, .inl (G 0, 32, .inl system_sources))], [(a_system_targets, .inl (G 0, 32, .inl system_targets))]]) (x_runVN (As := [.ref h_system]) (rest := []) (ps := [6, 8, 3, 4, 5]) ⟨hx, hb, hml, hown, hts⟩ (k_X7_collect l D G h_peaks h_system a_system_words a_system_sources a_system_targets a_system_labels a_peaks_firsts a_peaks_seconds system_objects system_steps peaks_count system_sources peaks_firsts peaks_seconds r_8 hr_8) ⟨va_cnB 1 hts gX11_decreasingCount_X7_collect_n195 rfl rfl rfl (hE.2 (.methodLinkNest RX11 195 yX7_collect RX11) (List.mem_of_getElem? (i := 73) rfl)) (hts (.initialized RX7) (List.mem_of_getElem? (i := 5) rfl)) (by decide +kernel) ⟨Nat.le_of_ble_eq_true rfl, Nat.le_of_ble_eq_true rfl⟩, (hts (.instanceMethod yX7_collect) (List.mem_of_getElem? (i := 4) rfl)), (hts (.selects RX7 yX7_collect yX7_collect) (List.mem_of_getElem? (i := 6) rfl))⟩ hE hP hN rfl (by decide) 3 rfl rfl rfl hl.1 (Nat.le_of_ble_eq_true rfl) dX11_decreasingCount_8 ⟨Nat.zero_le _, Nat.zero_le _⟩) hP hN hS rfl rfl (fun H locs hP hS => ?_)
  refine lv_iconst (v := 0) hx hb dX11_decreasingCount_11 (by decide) ?_
  obtain ⟨v1_12, e_v1_12, hf⟩ := lt_some hf
  refine x_istore_n (v := v1_12) (lv' := [(1, .int v1_12), (0, .ref h)]) hx hb dX11_decreasingCount_12 e_v1_12 rfl hl (by decide) rfl (fun ls hl => ?_)
  refine lv_iconst (v := 0) hx hb dX11_decreasingCount_13 (by decide) ?_
  obtain ⟨v2_14, e_v2_14, hf⟩ := lt_some hf
  refine x_istore_n (v := v2_14) (lv' := [(2, .int v2_14), (1, .int v1_12), (0, .ref h)]) hx hb dX11_decreasingCount_14 e_v2_14 rfl hl (by decide) rfl (fun ls hl => ?_)
  exact L15 r_8.1 r_8.2.1 r_8.2.2   fuel v1_12 v2_14 H locs ls hP hS (lv_sub hl [2, 1, 0] rfl) hf

set_option maxRecDepth 20000 in
theorem u_X11_distance_X11 : ∀ w ∈ wsX110, w ∈ wsX11_distance := xx_pl _ [18, 19, 20, 21, 22, 23, 24, 25, 26, 27, 28, 29, 30, 31, 32, 33] (by decide +kernel)
set_option maxRecDepth 20000 in
theorem u_X11_distance_X3 : ∀ w ∈ wsX30, w ∈ wsX11_distance := xx_pl _ [34, 35, 36, 37, 38, 39] (by decide +kernel)
def f_X11_distance_L31 (system_objects : Int32) (system_steps : Int32) (system_labels : (Nat → Int32)) (system_sources : (Nat → Int32)) (system_targets : (Nat → Int32)) (v2 : Int32) (rec_31 : Int32 → Int32 → Option (Int32)) (v3 : Int32) (v4 : Int32) : Option (Int32) :=
  if system_objects ≤ v4 then (some (-2)) else ((f_X11_isIn v3 v2).bind (fun r_45 => if r_45 = 0 then ((f_X3_successors system_steps system_labels system_sources system_targets v3 255).bind (fun r_62 => lt r_62 (fun v3_65 => lt (v4 + 1) (fun v4_66 => rec_31 v3_65 v4_66)))) else (some v4)))
def f_X11_distance (system_objects : Int32) (system_steps : Int32) (system_labels : (Nat → Int32)) (system_sources : (Nat → Int32)) (system_targets : (Nat → Int32)) (v1 : Int32) (v2 : Int32) : Option (Int32) :=
  (f_X3_hasObject system_objects v1).bind (fun r_5 => if r_5 = 0 then (some (-1)) else ((f_X3_hasObject system_objects v2).bind (fun r_16 => if ¬ r_16 = 0 then (lt (1 <<< (v1 &&& 31)) (fun v3_27 => lt 0 (fun v4_29 => lp (τ := Int32 → Int32 → Option (Int32)) (fun _ _ => none) (f_X11_distance_L31 system_objects system_steps system_labels system_sources system_targets v2) fuel v3_27 v4_29))) else (some (-1)))))
set_option maxHeartbeats 4000000 in
set_option maxRecDepth 100000 in
theorem k_X11_distance (l : Launch) (D : va_G) (G : Nat → ClassId) (h : Nat) (h_order : Nat) (h_system : Nat) (h_rules : Nat) (h_savedOrder : Nat) (h_savedSystem : Nat) (h_savedRules : Nat) (h_peaks : Nat) (h_leftPaths : Nat) (h_rightPaths : Nat) (h_text : Nat) (h_labellings : Nat) (h_input : Nat) (h_explorer : Nat) (h_arrays : Nat) (a_reach : Nat) (a_system_words : Nat) (a_system_sources : Nat) (a_system_targets : Nat) (a_system_labels : Nat) (snapshotSaved : Int32) (system_objects : Int32) (system_steps : Int32) (system_labels : (Nat → Int32)) (system_sources : (Nat → Int32)) (system_targets : (Nat → Int32))  (v1 : Int32) (v2 : Int32) (out : Int32) (hf : f_X11_distance system_objects system_steps system_labels system_sources system_targets v1 v2 = some out) : xMet l yX11_distance wsX11_distance (rM 1 24) D G [.ref h, .int v1, .int v2] [[(h, .inr (10, [.ref h_order, .ref h_system, .ref h_rules, .ref h_savedOrder, .ref h_savedSystem, .ref h_savedRules, .int snapshotSaved, .ref h_peaks, .ref h_leftPaths, .ref h_rightPaths, .ref h_text, .ref h_labellings, .ref h_input, .ref h_explorer, .ref h_arrays, .ref a_reach]))], [(h_system, .inr (3, [.int system_objects, .ref a_system_words, .int system_steps, .ref a_system_sources, .ref a_system_targets, .ref a_system_labels]))], [(a_system_labels, .inl (G 0, 32, .inl system_labels))], [(a_system_sources, .inl (G 0, 32, .inl system_sources))], [(a_system_targets, .inl (G 0, 32, .inl system_targets))]] (xQi D [[(h, .inr (10, [.ref h_order, .ref h_system, .ref h_rules, .ref h_savedOrder, .ref h_savedSystem, .ref h_savedRules, .int snapshotSaved, .ref h_peaks, .ref h_leftPaths, .ref h_rightPaths, .ref h_text, .ref h_labellings, .ref h_input, .ref h_explorer, .ref h_arrays, .ref a_reach]))], [(h_system, .inr (3, [.int system_objects, .ref a_system_words, .int system_steps, .ref a_system_sources, .ref a_system_targets, .ref a_system_labels]))], [(a_system_labels, .inl (G 0, 32, .inl system_labels))], [(a_system_sources, .inl (G 0, 32, .inl system_sources))], [(a_system_targets, .inl (G 0, 32, .inl system_targets))]] out) := by
  refine x_ent (cc := cX11_distance) (maxL := 5) (by decide) rfl (Nat.le_of_ble_eq_true rfl) ?_
  intro p e s m below meth c aa ls args Q hQ hx hb hr hml hown hts hlocks hE hN hP hl hS
  have hown : s.vm.findClass RX11 = some m.cls := hown
  have hl : lv_has ls 5 [(0, .ref h), (1, .int v1), (2, .int v2)] := hl
  have L31 : ∀ (n_31 : Nat) (v3 : Int32) (v4 : Int32) (H : Heap) (locs : List Loc) (ls : Array Slot), xW D aa [[(h, .inr (10, [.ref h_order, .ref h_system, .ref h_rules, .ref h_savedOrder, .ref h_savedSystem, .ref h_savedRules, .int snapshotSaved, .ref h_peaks, .ref h_leftPaths, .ref h_rightPaths, .ref h_text, .ref h_labellings, .ref h_input, .ref h_explorer, .ref h_arrays, .ref a_reach]))], [(h_system, .inr (3, [.int system_objects, .ref a_system_words, .int system_steps, .ref a_system_sources, .ref a_system_targets, .ref a_system_labels]))], [(a_system_labels, .inl (G 0, 32, .inl system_labels))], [(a_system_sources, .inl (G 0, 32, .inl system_sources))], [(a_system_targets, .inl (G 0, 32, .inl system_targets))]] H → va_S (xA aa) s.heap H locs → lv_has ls 5 [(0, .ref h), (2, .int v2), (3, .int v3), (4, .int v4)] → lp (τ := Int32 → Int32 → Option (Int32)) (fun _ _ => none) (f_X11_distance_L31 system_objects system_steps system_labels system_sources system_targets v2) n_31 v3 v4 = some out → W p l e (rM 1 24) s m args below meth c H locs 0 0 Q (F0 m 31 ls []) := by
    intro    n_31
    induction n_31 with
    | zero =>
      intro v3 v4 H locs ls hP hS hl hf
      exact no_some hf
    | succ n_31 ih_31 =>
      intro v3 v4 H locs ls hP hS hl hf
      have hf : f_X11_distance_L31 system_objects system_steps system_labels system_sources system_targets v2 (lp (τ := Int32 → Int32 → Option (Int32)) (fun _ _ => none) (f_X11_distance_L31 system_objects system_steps system_labels system_sources system_targets v2) n_31) v3 v4 = some out := hf
      rw [f_X11_distance_L31] at hf
      refine lv_iload hx hb dX11_distance_31 (lv_at hl 3 rfl) ?_
      refine lv_aload_n hx hb dX11_distance_33 rfl (lv_at hl 0 rfl) ?_
      refine x_get hx hb hts u_X11_distance_X11 hown hE hP 0 rfl rfl 1 (by decide) (hts (.fieldLink RX11 19 "DecreasingDiagrams" "system" "LDecreasingDiagrams$LabelledSystem;") (List.mem_of_getElem? (i := 1) rfl)) rfl dX11_distance_34 ?_
      refine x_getN hx hb hts u_X11_distance_X3 hown hE hP 1 rfl rfl 0 (by decide) (hE.2 (.fieldLinkNest RX11 149 "DecreasingDiagrams$LabelledSystem" "objects" "I" RX11) (List.mem_of_getElem? (i := 5) rfl)) rfl dX11_distance_37 ?_
      refine lv_icmp_ge (tgt := 72) hx hb dX11_distance_40 (by decide) (fun c_40 => ?_) (fun c_40 => ?_)
      · have hf := it_pos c_40 hf
        refine lv_bipush (v := -2) hx hb dX11_distance_72 (by decide) ?_
        have hf := Option.some.inj hf
        subst hf
        subst hQ
        exact x_iret hx hb hr hlocks hP hS dX11_distance_74
      · have hf := it_neg c_40 hf
        refine lv_iload_n hx hb dX11_distance_43 rfl (lv_at hl 2 rfl) ?_
        refine lv_iload_n hx hb dX11_distance_44 rfl (lv_at hl 1 rfl) ?_
        obtain ⟨r_45, hr_45, hf⟩ := bd_some hf
        refine x_goi (ps := []) (I' := [[(h, .inr (10, [.ref h_order, .ref h_system, .ref h_rules, .ref h_savedOrder, .ref h_savedSystem, .ref h_savedRules, .int snapshotSaved, .ref h_peaks, .ref h_leftPaths, .ref h_rightPaths, .ref h_text, .ref h_labellings, .ref h_input, .ref h_explorer, .ref h_arrays, .ref a_reach]))], [(h_system, .inr (3, [.int system_objects, .ref a_system_words, .int system_steps, .ref a_system_sources, .ref a_system_targets, .ref a_system_labels]))], [(a_system_labels, .inl (G 0, 32, .inl system_labels))], [(a_system_sources, .inl (G 0, 32, .inl system_sources))], [(a_system_targets, .inl (G 0, 32, .inl system_targets))]]) (x_runS (As := [.int v3, .int v2]) (rest := []) (ps := []) ⟨hx, hb, hml, hown, hts⟩ (k_X11_isIn l D G v3 v2 r_45 hr_45) (va_cwS 2 hts gX11_distance_X11_isIn rfl rfl rfl (by decide +kernel) ⟨Nat.le_of_ble_eq_true rfl, Nat.le_of_ble_eq_true rfl⟩) hE hP hN rfl (by decide) rfl hl.1 (Nat.le_of_ble_eq_true rfl) dX11_distance_45 ⟨Nat.zero_le _, Nat.zero_le _⟩) hP hN hS rfl rfl (fun H locs hP hS => ?_)
        refine lv_if_eq (tgt := 54) hx hb dX11_distance_48 (by decide) (fun c_48 => ?_) (fun c_48 => ?_)
        · have hf := it_pos c_48 hf
          refine lv_aload_n hx hb dX11_distance_54 rfl (lv_at hl 0 rfl) ?_
          refine x_get hx hb hts u_X11_distance_X11 hown hE hP 0 rfl rfl 1 (by decide) (hts (.fieldLink RX11 19 "DecreasingDiagrams" "system" "LDecreasingDiagrams$LabelledSystem;") (List.mem_of_getElem? (i := 1) rfl)) rfl dX11_distance_55 ?_
          refine lv_iload_n hx hb dX11_distance_58 rfl (lv_at hl 2 rfl) ?_
          refine lv_sipush (v := 255) hx hb dX11_distance_59 (by decide) ?_
          obtain ⟨r_62, hr_62, hf⟩ := bd_some hf
          refine x_goi (ps := [1, 2, 3, 4]) (I' := [[(h, .inr (10, [.ref h_order, .ref h_system, .ref h_rules, .ref h_savedOrder, .ref h_savedSystem, .ref h_savedRules, .int snapshotSaved, .ref h_peaks, .ref h_leftPaths, .ref h_rightPaths, .ref h_text, .ref h_labellings, .ref h_input, .ref h_explorer, .ref h_arrays, .ref a_reach]))], [(h_system, .inr (3, [.int system_objects, .ref a_system_words, .int system_steps, .ref a_system_sources, .ref a_system_targets, .ref a_system_labels]))], [(a_system_labels, .inl (G 0, 32, .inl system_labels))], [(a_system_sources, .inl (G 0, 32, .inl system_sources))], [(a_system_targets, .inl (G 0, 32, .inl system_targets))]]) (x_runVN (As := [.int v3, .int 255]) (rest := []) (ps := [1, 2, 3, 4]) ⟨hx, hb, hml, hown, hts⟩ (k_X3_successors l D G h_system a_system_words a_system_sources a_system_targets a_system_labels system_objects system_steps system_labels system_sources system_targets v3 255 r_62 hr_62) ⟨va_cnB 2 hts gX11_distance_X3_successors_n164 rfl rfl rfl (hE.2 (.methodLinkNest RX11 164 yX3_successors RX11) (List.mem_of_getElem? (i := 66) rfl)) (hts (.initialized RX3) (List.mem_of_getElem? (i := 3) rfl)) (by decide +kernel) ⟨Nat.le_of_ble_eq_true rfl, Nat.le_of_ble_eq_true rfl⟩, (hts (.instanceMethod yX3_successors) (List.mem_of_getElem? (i := 11) rfl)), (hts (.selects RX3 yX3_successors yX3_successors) (List.mem_of_getElem? (i := 12) rfl))⟩ hE hP hN rfl (by decide) 1 rfl rfl rfl hl.1 (Nat.le_of_ble_eq_true rfl) dX11_distance_62 ⟨Nat.zero_le _, Nat.zero_le _⟩) hP hN hS rfl rfl (fun H locs hP hS => ?_)
          obtain ⟨v3_65, e_v3_65, hf⟩ := lt_some hf
          refine x_istore_n (v := v3_65) (lv' := [(3, .int v3_65), (0, .ref h), (2, .int v2), (4, .int v4)]) hx hb dX11_distance_65 e_v3_65 rfl hl (by decide) rfl (fun ls hl => ?_)
          obtain ⟨v4_66, e_v4_66, hf⟩ := lt_some hf
          refine lv_iinc (v := v4_66) (lv' := [(4, .int v4_66), (3, .int v3_65), (0, .ref h), (2, .int v2)]) hx hb dX11_distance_66 hl (k := 3) rfl (by rw [e_v4_66]; rfl) (by decide) rfl (fun ls hl => ?_)
          refine lv_goto (tgt := 31) hx hb dX11_distance_69 (by decide) ?_
          exact ih_31 v3_65 v4_66 H locs ls hP hS (lv_sub hl [2, 3, 1, 0] rfl) hf
        · have hf := it_neg c_48 hf
          refine lv_iload hx hb dX11_distance_51 (lv_at hl 3 rfl) ?_
          have hf := Option.some.inj hf
          subst hf
          subst hQ
          exact x_iret hx hb hr hlocks hP hS dX11_distance_53
  rw [f_X11_distance] at hf
  obtain ⟨H, hH⟩ : ∃ H : Heap, H = s.heap := ⟨_, rfl⟩
  obtain ⟨locs, hlocs⟩ : ∃ locs : List Loc, locs = [] := ⟨_, rfl⟩
  have hP : xW D aa [[(h, .inr (10, [.ref h_order, .ref h_system, .ref h_rules, .ref h_savedOrder, .ref h_savedSystem, .ref h_savedRules, .int snapshotSaved, .ref h_peaks, .ref h_leftPaths, .ref h_rightPaths, .ref h_text, .ref h_labellings, .ref h_input, .ref h_explorer, .ref h_arrays, .ref a_reach]))], [(h_system, .inr (3, [.int system_objects, .ref a_system_words, .int system_steps, .ref a_system_sources, .ref a_system_targets, .ref a_system_labels]))], [(a_system_labels, .inl (G 0, 32, .inl system_labels))], [(a_system_sources, .inl (G 0, 32, .inl system_sources))], [(a_system_targets, .inl (G 0, 32, .inl system_targets))]] H := by rw [hH]; exact hP
  have hS : va_S (xA aa) s.heap H locs := by rw [hH, hlocs]; exact hS
  suffices GO : W p l e (rM 1 24) s m args below meth c H locs 0 0 Q (F0 m 0 ls []) by
    rw [hH, hlocs] at GO
    exact GO
  clear hH hlocs
  refine lv_aload_n hx hb dX11_distance_0 rfl (lv_at hl 0 rfl) ?_
  refine x_get hx hb hts u_X11_distance_X11 hown hE hP 0 rfl rfl 1 (by decide) (hts (.fieldLink RX11 19 "DecreasingDiagrams" "system" "LDecreasingDiagrams$LabelledSystem;") (List.mem_of_getElem? (i := 1) rfl)) rfl dX11_distance_1 ?_
  refine lv_iload_n hx hb dX11_distance_4 rfl (lv_at hl 1 rfl) ?_
  obtain ⟨r_5, hr_5, hf⟩ := bd_some hf
  refine x_goi (ps := [1]) (I' := [[(h, .inr (10, [.ref h_order, .ref h_system, .ref h_rules, .ref h_savedOrder, .ref h_savedSystem, .ref h_savedRules, .int snapshotSaved, .ref h_peaks, .ref h_leftPaths, .ref h_rightPaths, .ref h_text, .ref h_labellings, .ref h_input, .ref h_explorer, .ref h_arrays, .ref a_reach]))], [(h_system, .inr (3, [.int system_objects, .ref a_system_words, .int system_steps, .ref a_system_sources, .ref a_system_targets, .ref a_system_labels]))], [(a_system_labels, .inl (G 0, 32, .inl system_labels))], [(a_system_sources, .inl (G 0, 32, .inl system_sources))], [(a_system_targets, .inl (G 0, 32, .inl system_targets))]]) (x_runVN (As := [.int v1]) (rest := []) (ps := [1]) ⟨hx, hb, hml, hown, hts⟩ (k_X3_hasObject l D G h_system a_system_words a_system_sources a_system_targets a_system_labels system_objects system_steps v1 r_5 hr_5) ⟨va_cnB 1 hts gX11_distance_X3_hasObject_n128 rfl rfl rfl (hE.2 (.methodLinkNest RX11 128 yX3_hasObject RX11) (List.mem_of_getElem? (i := 61) rfl)) (hts (.initialized RX3) (List.mem_of_getElem? (i := 3) rfl)) (by decide +kernel) ⟨Nat.le_of_ble_eq_true rfl, Nat.le_of_ble_eq_true rfl⟩, (hts (.instanceMethod yX3_hasObject) (List.mem_of_getElem? (i := 2) rfl)), (hts (.selects RX3 yX3_hasObject yX3_hasObject) (List.mem_of_getElem? (i := 4) rfl))⟩ hE hP hN rfl (by decide) 1 rfl rfl rfl hl.1 (Nat.le_of_ble_eq_true rfl) dX11_distance_5 ⟨Nat.zero_le _, Nat.zero_le _⟩) hP hN hS rfl rfl (fun H locs hP hS => ?_)
  refine lv_if_eq (tgt := 22) hx hb dX11_distance_8 (by decide) (fun c_8 => ?_) (fun c_8 => ?_)
  · have hf := it_pos c_8 hf
    refine lv_iconst (v := -1) hx hb dX11_distance_22 (by decide) ?_
    have hf := Option.some.inj hf
    subst hf
    subst hQ
    exact x_iret hx hb hr hlocks hP hS dX11_distance_23
  · have hf := it_neg c_8 hf
    refine lv_aload_n hx hb dX11_distance_11 rfl (lv_at hl 0 rfl) ?_
    refine x_get hx hb hts u_X11_distance_X11 hown hE hP 0 rfl rfl 1 (by decide) (hts (.fieldLink RX11 19 "DecreasingDiagrams" "system" "LDecreasingDiagrams$LabelledSystem;") (List.mem_of_getElem? (i := 1) rfl)) rfl dX11_distance_12 ?_
    refine lv_iload_n hx hb dX11_distance_15 rfl (lv_at hl 2 rfl) ?_
    obtain ⟨r_16, hr_16, hf⟩ := bd_some hf
    refine x_goi (ps := [1]) (I' := [[(h, .inr (10, [.ref h_order, .ref h_system, .ref h_rules, .ref h_savedOrder, .ref h_savedSystem, .ref h_savedRules, .int snapshotSaved, .ref h_peaks, .ref h_leftPaths, .ref h_rightPaths, .ref h_text, .ref h_labellings, .ref h_input, .ref h_explorer, .ref h_arrays, .ref a_reach]))], [(h_system, .inr (3, [.int system_objects, .ref a_system_words, .int system_steps, .ref a_system_sources, .ref a_system_targets, .ref a_system_labels]))], [(a_system_labels, .inl (G 0, 32, .inl system_labels))], [(a_system_sources, .inl (G 0, 32, .inl system_sources))], [(a_system_targets, .inl (G 0, 32, .inl system_targets))]]) (x_runVN (As := [.int v2]) (rest := []) (ps := [1]) ⟨hx, hb, hml, hown, hts⟩ (k_X3_hasObject l D G h_system a_system_words a_system_sources a_system_targets a_system_labels system_objects system_steps v2 r_16 hr_16) ⟨va_cnB 1 hts gX11_distance_X3_hasObject_n128 rfl rfl rfl (hE.2 (.methodLinkNest RX11 128 yX3_hasObject RX11) (List.mem_of_getElem? (i := 61) rfl)) (hts (.initialized RX3) (List.mem_of_getElem? (i := 3) rfl)) (by decide +kernel) ⟨Nat.le_of_ble_eq_true rfl, Nat.le_of_ble_eq_true rfl⟩, (hts (.instanceMethod yX3_hasObject) (List.mem_of_getElem? (i := 2) rfl)), (hts (.selects RX3 yX3_hasObject yX3_hasObject) (List.mem_of_getElem? (i := 4) rfl))⟩ hE hP hN rfl (by decide) 1 rfl rfl rfl hl.1 (Nat.le_of_ble_eq_true rfl) dX11_distance_16 ⟨Nat.zero_le _, Nat.zero_le _⟩) hP hN hS rfl rfl (fun H locs hP hS => ?_)
    refine lv_if_ne (tgt := 24) hx hb dX11_distance_19 (by decide) (fun c_19 => ?_) (fun c_19 => ?_)
    · have hf := it_pos c_19 hf
      refine lv_iconst (v := 1) hx hb dX11_distance_24 (by decide) ?_
      refine lv_iload_n hx hb dX11_distance_25 rfl (lv_at hl 1 rfl) ?_
      refine lv_ishl hx hb dX11_distance_26 ?_
      obtain ⟨v3_27, e_v3_27, hf⟩ := lt_some hf
      refine x_istore_n (v := v3_27) (lv' := [(3, .int v3_27), (0, .ref h), (1, .int v1), (2, .int v2)]) hx hb dX11_distance_27 e_v3_27 rfl hl (by decide) rfl (fun ls hl => ?_)
      refine lv_iconst (v := 0) hx hb dX11_distance_28 (by decide) ?_
      obtain ⟨v4_29, e_v4_29, hf⟩ := lt_some hf
      refine x_istore (v := v4_29) (lv' := [(4, .int v4_29), (3, .int v3_27), (0, .ref h), (1, .int v1), (2, .int v2)]) hx hb dX11_distance_29 e_v4_29 hl (by decide) rfl (fun ls hl => ?_)
      exact L31    fuel v3_27 v4_29 H locs ls hP hS (lv_sub hl [2, 4, 1, 0] rfl) hf
    · have hf := it_neg (fun h => h c_19) hf
      refine lv_iconst (v := -1) hx hb dX11_distance_22 (by decide) ?_
      have hf := Option.some.inj hf
      subst hf
      subst hQ
      exact x_iret hx hb hr hlocks hP hS dX11_distance_23

set_option maxRecDepth 20000 in
theorem u_X11_findValley_X11 : ∀ w ∈ wsX110, w ∈ wsX11_findValley := xx_pl _ [61, 62, 63, 64, 65, 66, 67, 68, 69, 70, 71, 72, 73, 74, 75, 76] (by decide +kernel)
set_option maxRecDepth 20000 in
theorem u_X11_findValley_X3 : ∀ w ∈ wsX30, w ∈ wsX11_findValley := xx_pl _ [80, 81, 82, 83, 84, 85] (by decide +kernel)
set_option maxRecDepth 20000 in
theorem u_X11_findValley_X7 : ∀ w ∈ wsX70, w ∈ wsX11_findValley := xx_pl _ [77, 78, 79] (by decide +kernel)
def f_X11_findValley_J169 (rec_100 : (Int32 → Int32 → Int32 → Option (Int32 × (Nat → Int32) × Int32 × Int32 × (Nat → Int32) × (Nat → Int32) × (Nat → Int32) × Int32 × (Nat → Int32) × Int32 × (Nat → Int32) × Int32 × (Nat → Int32) × (Nat → Int32) × (Nat → Int32) × Int32 × Int32 × (Nat → Int32) × (Nat → Int32) × (Nat → Int32) × Int32 × (Nat → Int32) × Int32 × (Nat → Int32)))) (v2 : Int32) (v3 : Int32) (v4 : Int32) : Option (Int32 × (Nat → Int32) × Int32 × Int32 × (Nat → Int32) × (Nat → Int32) × (Nat → Int32) × Int32 × (Nat → Int32) × Int32 × (Nat → Int32) × Int32 × (Nat → Int32) × (Nat → Int32) × (Nat → Int32) × Int32 × Int32 × (Nat → Int32) × (Nat → Int32) × (Nat → Int32) × Int32 × (Nat → Int32) × Int32 × (Nat → Int32)) :=
  lt (v4 + 1) (fun v4_169 => rec_100 v2 v3 v4_169)
def f_X11_findValley_L100 (leftPaths_belowOwn : Int32) (leftPaths_belowEither : Int32) (leftPaths_other : Int32) (leftPaths_places : Int32) (peaks_count : Int32) (rightPaths_belowOwn : Int32) (rightPaths_belowEither : Int32) (rightPaths_other : Int32) (rightPaths_places : Int32) (system_objects : Int32) (leftPaths_arrivals : (Nat → Int32)) (leftPaths_firstPlaces : (Nat → Int32)) (leftPaths_lengths : (Nat → Int32)) (leftPaths_objects : (Nat → Int32)) (leftPaths_parts : (Nat → Int32)) (leftPaths_previous : (Nat → Int32)) (peaks_firsts : (Nat → Int32)) (peaks_seconds : (Nat → Int32)) (rightPaths_arrivals : (Nat → Int32)) (rightPaths_firstPlaces : (Nat → Int32)) (rightPaths_lengths : (Nat → Int32)) (rightPaths_objects : (Nat → Int32)) (rightPaths_parts : (Nat → Int32)) (rightPaths_previous : (Nat → Int32)) (rec_100 : Int32 → Int32 → Int32 → Option (Int32 × (Nat → Int32) × Int32 × Int32 × (Nat → Int32) × (Nat → Int32) × (Nat → Int32) × Int32 × (Nat → Int32) × Int32 × (Nat → Int32) × Int32 × (Nat → Int32) × (Nat → Int32) × (Nat → Int32) × Int32 × Int32 × (Nat → Int32) × (Nat → Int32) × (Nat → Int32) × Int32 × (Nat → Int32) × Int32 × (Nat → Int32))) (v2 : Int32) (v3 : Int32) (v4 : Int32) : Option (Int32 × (Nat → Int32) × Int32 × Int32 × (Nat → Int32) × (Nat → Int32) × (Nat → Int32) × Int32 × (Nat → Int32) × Int32 × (Nat → Int32) × Int32 × (Nat → Int32) × (Nat → Int32) × (Nat → Int32) × Int32 × Int32 × (Nat → Int32) × (Nat → Int32) × (Nat → Int32) × Int32 × (Nat → Int32) × Int32 × (Nat → Int32)) :=
  if system_objects ≤ v4 then (some (v2, leftPaths_arrivals, leftPaths_belowEither, leftPaths_belowOwn, leftPaths_firstPlaces, leftPaths_lengths, leftPaths_objects, leftPaths_other, leftPaths_parts, leftPaths_places, leftPaths_previous, peaks_count, peaks_firsts, peaks_seconds, rightPaths_arrivals, rightPaths_belowEither, rightPaths_belowOwn, rightPaths_firstPlaces, rightPaths_lengths, rightPaths_objects, rightPaths_other, rightPaths_parts, rightPaths_places, rightPaths_previous)) else ((f_X9_reaches leftPaths_firstPlaces v4).bind (fun r_118 => if r_118 = 0 then (f_X11_findValley_J169 rec_100 v2 v3 v4) else ((f_X9_reaches rightPaths_firstPlaces v4).bind (fun r_130 => if r_130 = 0 then (f_X11_findValley_J169 rec_100 v2 v3 v4) else ((f_X9_lengthTo leftPaths_firstPlaces leftPaths_lengths v4).bind (fun r_142 => (f_X9_lengthTo rightPaths_firstPlaces rightPaths_lengths v4).bind (fun r_151 => lt (r_142 + r_151) (fun v5_155 => if v3 ≤ v5_155 then (f_X11_findValley_J169 rec_100 v2 v3 v4) else (lt v5_155 (fun v3_165 => lt v4 (fun v2_168 => f_X11_findValley_J169 rec_100 v2_168 v3_165 v4)))))))))))
def f_X11_findValley (leftPaths_belowOwn : Int32) (leftPaths_belowEither : Int32) (leftPaths_other : Int32) (leftPaths_places : Int32) (rightPaths_belowOwn : Int32) (rightPaths_belowEither : Int32) (rightPaths_other : Int32) (rightPaths_places : Int32) (system_objects : Int32) (system_steps : Int32) (leftPaths_arrivals : (Nat → Int32)) (leftPaths_firstPlaces : (Nat → Int32)) (leftPaths_lengths : (Nat → Int32)) (leftPaths_objects : (Nat → Int32)) (leftPaths_parts : (Nat → Int32)) (leftPaths_previous : (Nat → Int32)) (order_below : (Nat → Int32)) (peaks_firsts : (Nat → Int32)) (peaks_seconds : (Nat → Int32)) (rightPaths_arrivals : (Nat → Int32)) (rightPaths_firstPlaces : (Nat → Int32)) (rightPaths_lengths : (Nat → Int32)) (rightPaths_objects : (Nat → Int32)) (rightPaths_parts : (Nat → Int32)) (rightPaths_previous : (Nat → Int32)) (system_labels : (Nat → Int32)) (system_sources : (Nat → Int32)) (system_targets : (Nat → Int32)) (v1 : Int32) : Option (Int32 × (Nat → Int32) × Int32 × Int32 × (Nat → Int32) × (Nat → Int32) × (Nat → Int32) × Int32 × (Nat → Int32) × Int32 × (Nat → Int32) × Int32 × (Nat → Int32) × (Nat → Int32) × (Nat → Int32) × Int32 × Int32 × (Nat → Int32) × (Nat → Int32) × (Nat → Int32) × Int32 × (Nat → Int32) × Int32 × (Nat → Int32)) :=
  (f_X7_collect system_steps system_sources peaks_firsts peaks_seconds).bind (fun r_8 => (f_X7_has r_8.1 v1).bind (fun r_16 => if ¬ r_16 = 0 then (ck v1 496 (ck v1 496 ((f_X9_search system_steps system_labels system_sources system_targets order_below leftPaths_arrivals leftPaths_firstPlaces leftPaths_lengths leftPaths_objects leftPaths_parts leftPaths_previous (r_8.2.1 v1.toNatClampNeg) (r_8.2.2 v1.toNatClampNeg)).bind (fun r_54 => ck v1 496 (ck v1 496 ((f_X9_search system_steps system_labels system_sources system_targets order_below rightPaths_arrivals rightPaths_firstPlaces rightPaths_lengths rightPaths_objects rightPaths_parts rightPaths_previous (r_8.2.2 v1.toNatClampNeg) (r_8.2.1 v1.toNatClampNeg)).bind (fun r_87 => lt (-2) (fun v2_92 => lt 2147483647 (fun v3_96 => lt 0 (fun v4_98 => lp (τ := Int32 → Int32 → Int32 → Option (Int32 × (Nat → Int32) × Int32 × Int32 × (Nat → Int32) × (Nat → Int32) × (Nat → Int32) × Int32 × (Nat → Int32) × Int32 × (Nat → Int32) × Int32 × (Nat → Int32) × (Nat → Int32) × (Nat → Int32) × Int32 × Int32 × (Nat → Int32) × (Nat → Int32) × (Nat → Int32) × Int32 × (Nat → Int32) × Int32 × (Nat → Int32))) (fun _ _ _ => none) (f_X11_findValley_L100 r_54.2.2.1 r_54.2.1 r_54.2.2.2.2.2.2.1 r_54.2.2.2.2.2.2.2.2.1 r_8.1 r_87.2.2.1 r_87.2.1 r_87.2.2.2.2.2.2.1 r_87.2.2.2.2.2.2.2.2.1 system_objects r_54.1 r_54.2.2.2.1 r_54.2.2.2.2.1 r_54.2.2.2.2.2.1 r_54.2.2.2.2.2.2.2.1 r_54.2.2.2.2.2.2.2.2.2 r_8.2.1 r_8.2.2 r_87.1 r_87.2.2.2.1 r_87.2.2.2.2.1 r_87.2.2.2.2.2.1 r_87.2.2.2.2.2.2.2.1 r_87.2.2.2.2.2.2.2.2.2) fuel v2_92 v3_96 v4_98)))))))))) else (some ((-1), leftPaths_arrivals, leftPaths_belowEither, leftPaths_belowOwn, leftPaths_firstPlaces, leftPaths_lengths, leftPaths_objects, leftPaths_other, leftPaths_parts, leftPaths_places, leftPaths_previous, r_8.1, r_8.2.1, r_8.2.2, rightPaths_arrivals, rightPaths_belowEither, rightPaths_belowOwn, rightPaths_firstPlaces, rightPaths_lengths, rightPaths_objects, rightPaths_other, rightPaths_parts, rightPaths_places, rightPaths_previous))))
set_option maxHeartbeats 4000000 in
set_option maxRecDepth 100000 in
theorem k_X11_findValley (l : Launch) (D : va_G) (G : Nat → ClassId) (h : Nat) (h_order : Nat) (h_system : Nat) (h_rules : Nat) (h_savedOrder : Nat) (h_savedSystem : Nat) (h_savedRules : Nat) (h_peaks : Nat) (h_leftPaths : Nat) (h_rightPaths : Nat) (h_text : Nat) (h_labellings : Nat) (h_input : Nat) (h_explorer : Nat) (h_arrays : Nat) (a_reach : Nat) (a_leftPaths_objects : Nat) (a_leftPaths_parts : Nat) (a_leftPaths_lengths : Nat) (a_leftPaths_previous : Nat) (a_leftPaths_arrivals : Nat) (a_leftPaths_firstPlaces : Nat) (a_order_pairs : Nat) (a_order_below : Nat) (a_peaks_firsts : Nat) (a_peaks_seconds : Nat) (a_rightPaths_objects : Nat) (a_rightPaths_parts : Nat) (a_rightPaths_lengths : Nat) (a_rightPaths_previous : Nat) (a_rightPaths_arrivals : Nat) (a_rightPaths_firstPlaces : Nat) (a_system_words : Nat) (a_system_sources : Nat) (a_system_targets : Nat) (a_system_labels : Nat) (snapshotSaved : Int32) (leftPaths_belowOwn : Int32) (leftPaths_belowEither : Int32) (leftPaths_other : Int32) (leftPaths_places : Int32) (peaks_count : Int32) (rightPaths_belowOwn : Int32) (rightPaths_belowEither : Int32) (rightPaths_other : Int32) (rightPaths_places : Int32) (system_objects : Int32) (system_steps : Int32) (leftPaths_arrivals : (Nat → Int32)) (leftPaths_firstPlaces : (Nat → Int32)) (leftPaths_lengths : (Nat → Int32)) (leftPaths_objects : (Nat → Int32)) (leftPaths_parts : (Nat → Int32)) (leftPaths_previous : (Nat → Int32)) (order_below : (Nat → Int32)) (peaks_firsts : (Nat → Int32)) (peaks_seconds : (Nat → Int32)) (rightPaths_arrivals : (Nat → Int32)) (rightPaths_firstPlaces : (Nat → Int32)) (rightPaths_lengths : (Nat → Int32)) (rightPaths_objects : (Nat → Int32)) (rightPaths_parts : (Nat → Int32)) (rightPaths_previous : (Nat → Int32)) (system_labels : (Nat → Int32)) (system_sources : (Nat → Int32)) (system_targets : (Nat → Int32))  (v1 : Int32) (out : Int32 × (Nat → Int32) × Int32 × Int32 × (Nat → Int32) × (Nat → Int32) × (Nat → Int32) × Int32 × (Nat → Int32) × Int32 × (Nat → Int32) × Int32 × (Nat → Int32) × (Nat → Int32) × (Nat → Int32) × Int32 × Int32 × (Nat → Int32) × (Nat → Int32) × (Nat → Int32) × Int32 × (Nat → Int32) × Int32 × (Nat → Int32)) (hf : f_X11_findValley leftPaths_belowOwn leftPaths_belowEither leftPaths_other leftPaths_places rightPaths_belowOwn rightPaths_belowEither rightPaths_other rightPaths_places system_objects system_steps leftPaths_arrivals leftPaths_firstPlaces leftPaths_lengths leftPaths_objects leftPaths_parts leftPaths_previous order_below peaks_firsts peaks_seconds rightPaths_arrivals rightPaths_firstPlaces rightPaths_lengths rightPaths_objects rightPaths_parts rightPaths_previous system_labels system_sources system_targets v1 = some out) : xMet l yX11_findValley wsX11_findValley (rM 4 97) D G [.ref h, .int v1] [[(h, .inr (10, [.ref h_order, .ref h_system, .ref h_rules, .ref h_savedOrder, .ref h_savedSystem, .ref h_savedRules, .int snapshotSaved, .ref h_peaks, .ref h_leftPaths, .ref h_rightPaths, .ref h_text, .ref h_labellings, .ref h_input, .ref h_explorer, .ref h_arrays, .ref a_reach]))], [(h_leftPaths, .inr (9, [.int leftPaths_belowOwn, .int leftPaths_belowEither, .int leftPaths_other, .int leftPaths_places, .ref a_leftPaths_objects, .ref a_leftPaths_parts, .ref a_leftPaths_lengths, .ref a_leftPaths_previous, .ref a_leftPaths_arrivals, .ref a_leftPaths_firstPlaces]))], [(a_leftPaths_arrivals, .inl (G 0, 32, .inl leftPaths_arrivals))], [(a_leftPaths_firstPlaces, .inl (G 0, 16, .inl leftPaths_firstPlaces))], [(a_leftPaths_lengths, .inl (G 0, 32, .inl leftPaths_lengths))], [(a_leftPaths_objects, .inl (G 0, 32, .inl leftPaths_objects))], [(a_leftPaths_parts, .inl (G 0, 32, .inl leftPaths_parts))], [(a_leftPaths_previous, .inl (G 0, 32, .inl leftPaths_previous))], [(h_order, .inr (2, [.ref a_order_pairs, .ref a_order_below]))], [(a_order_below, .inl (G 0, 8, .inl order_below))], [(h_peaks, .inr (7, [.int peaks_count, .ref a_peaks_firsts, .ref a_peaks_seconds]))], [(a_peaks_firsts, .inl (G 0, 496, .inl peaks_firsts))], [(a_peaks_seconds, .inl (G 0, 496, .inl peaks_seconds))], [(h_rightPaths, .inr (9, [.int rightPaths_belowOwn, .int rightPaths_belowEither, .int rightPaths_other, .int rightPaths_places, .ref a_rightPaths_objects, .ref a_rightPaths_parts, .ref a_rightPaths_lengths, .ref a_rightPaths_previous, .ref a_rightPaths_arrivals, .ref a_rightPaths_firstPlaces]))], [(a_rightPaths_arrivals, .inl (G 0, 32, .inl rightPaths_arrivals))], [(a_rightPaths_firstPlaces, .inl (G 0, 16, .inl rightPaths_firstPlaces))], [(a_rightPaths_lengths, .inl (G 0, 32, .inl rightPaths_lengths))], [(a_rightPaths_objects, .inl (G 0, 32, .inl rightPaths_objects))], [(a_rightPaths_parts, .inl (G 0, 32, .inl rightPaths_parts))], [(a_rightPaths_previous, .inl (G 0, 32, .inl rightPaths_previous))], [(h_system, .inr (3, [.int system_objects, .ref a_system_words, .int system_steps, .ref a_system_sources, .ref a_system_targets, .ref a_system_labels]))], [(a_system_labels, .inl (G 0, 32, .inl system_labels))], [(a_system_sources, .inl (G 0, 32, .inl system_sources))], [(a_system_targets, .inl (G 0, 32, .inl system_targets))]] (xQi D [[(h, .inr (10, [.ref h_order, .ref h_system, .ref h_rules, .ref h_savedOrder, .ref h_savedSystem, .ref h_savedRules, .int snapshotSaved, .ref h_peaks, .ref h_leftPaths, .ref h_rightPaths, .ref h_text, .ref h_labellings, .ref h_input, .ref h_explorer, .ref h_arrays, .ref a_reach]))], [(h_leftPaths, .inr (9, [.int out.2.2.2.1, .int out.2.2.1, .int out.2.2.2.2.2.2.2.1, .int out.2.2.2.2.2.2.2.2.2.1, .ref a_leftPaths_objects, .ref a_leftPaths_parts, .ref a_leftPaths_lengths, .ref a_leftPaths_previous, .ref a_leftPaths_arrivals, .ref a_leftPaths_firstPlaces]))], [(a_leftPaths_arrivals, .inl (G 0, 32, .inl out.2.1))], [(a_leftPaths_firstPlaces, .inl (G 0, 16, .inl out.2.2.2.2.1))], [(a_leftPaths_lengths, .inl (G 0, 32, .inl out.2.2.2.2.2.1))], [(a_leftPaths_objects, .inl (G 0, 32, .inl out.2.2.2.2.2.2.1))], [(a_leftPaths_parts, .inl (G 0, 32, .inl out.2.2.2.2.2.2.2.2.1))], [(a_leftPaths_previous, .inl (G 0, 32, .inl out.2.2.2.2.2.2.2.2.2.2.1))], [(h_order, .inr (2, [.ref a_order_pairs, .ref a_order_below]))], [(a_order_below, .inl (G 0, 8, .inl order_below))], [(h_peaks, .inr (7, [.int out.2.2.2.2.2.2.2.2.2.2.2.1, .ref a_peaks_firsts, .ref a_peaks_seconds]))], [(a_peaks_firsts, .inl (G 0, 496, .inl out.2.2.2.2.2.2.2.2.2.2.2.2.1))], [(a_peaks_seconds, .inl (G 0, 496, .inl out.2.2.2.2.2.2.2.2.2.2.2.2.2.1))], [(h_rightPaths, .inr (9, [.int out.2.2.2.2.2.2.2.2.2.2.2.2.2.2.2.2.1, .int out.2.2.2.2.2.2.2.2.2.2.2.2.2.2.2.1, .int out.2.2.2.2.2.2.2.2.2.2.2.2.2.2.2.2.2.2.2.2.1, .int out.2.2.2.2.2.2.2.2.2.2.2.2.2.2.2.2.2.2.2.2.2.2.1, .ref a_rightPaths_objects, .ref a_rightPaths_parts, .ref a_rightPaths_lengths, .ref a_rightPaths_previous, .ref a_rightPaths_arrivals, .ref a_rightPaths_firstPlaces]))], [(a_rightPaths_arrivals, .inl (G 0, 32, .inl out.2.2.2.2.2.2.2.2.2.2.2.2.2.2.1))], [(a_rightPaths_firstPlaces, .inl (G 0, 16, .inl out.2.2.2.2.2.2.2.2.2.2.2.2.2.2.2.2.2.1))], [(a_rightPaths_lengths, .inl (G 0, 32, .inl out.2.2.2.2.2.2.2.2.2.2.2.2.2.2.2.2.2.2.1))], [(a_rightPaths_objects, .inl (G 0, 32, .inl out.2.2.2.2.2.2.2.2.2.2.2.2.2.2.2.2.2.2.2.1))], [(a_rightPaths_parts, .inl (G 0, 32, .inl out.2.2.2.2.2.2.2.2.2.2.2.2.2.2.2.2.2.2.2.2.2.1))], [(a_rightPaths_previous, .inl (G 0, 32, .inl out.2.2.2.2.2.2.2.2.2.2.2.2.2.2.2.2.2.2.2.2.2.2.2))], [(h_system, .inr (3, [.int system_objects, .ref a_system_words, .int system_steps, .ref a_system_sources, .ref a_system_targets, .ref a_system_labels]))], [(a_system_labels, .inl (G 0, 32, .inl system_labels))], [(a_system_sources, .inl (G 0, 32, .inl system_sources))], [(a_system_targets, .inl (G 0, 32, .inl system_targets))]] out.1) := by
  refine x_ent (cc := cX11_findValley) (maxL := 6) (by decide) rfl (Nat.le_of_ble_eq_true rfl) ?_
  intro p e s m below meth c aa ls args Q hQ hx hb hr hml hown hts hlocks hE hN hP hl hS
  have hown : s.vm.findClass RX11 = some m.cls := hown
  have hl : lv_has ls 6 [(0, .ref h), (1, .int v1)] := hl
  have L100 : ∀ (leftPaths_arrivals : (Nat → Int32)) (leftPaths_belowEither : Int32) (leftPaths_belowOwn : Int32) (leftPaths_firstPlaces : (Nat → Int32)) (leftPaths_lengths : (Nat → Int32)) (leftPaths_objects : (Nat → Int32)) (leftPaths_other : Int32) (leftPaths_parts : (Nat → Int32)) (leftPaths_places : Int32) (leftPaths_previous : (Nat → Int32)) (peaks_count : Int32) (peaks_firsts : (Nat → Int32)) (peaks_seconds : (Nat → Int32)) (rightPaths_arrivals : (Nat → Int32)) (rightPaths_belowEither : Int32) (rightPaths_belowOwn : Int32) (rightPaths_firstPlaces : (Nat → Int32)) (rightPaths_lengths : (Nat → Int32)) (rightPaths_objects : (Nat → Int32)) (rightPaths_other : Int32) (rightPaths_parts : (Nat → Int32)) (rightPaths_places : Int32) (rightPaths_previous : (Nat → Int32)), ∀ (n_100 : Nat) (v2 : Int32) (v3 : Int32) (v4 : Int32) (H : Heap) (locs : List Loc) (ls : Array Slot), xW D aa [[(h, .inr (10, [.ref h_order, .ref h_system, .ref h_rules, .ref h_savedOrder, .ref h_savedSystem, .ref h_savedRules, .int snapshotSaved, .ref h_peaks, .ref h_leftPaths, .ref h_rightPaths, .ref h_text, .ref h_labellings, .ref h_input, .ref h_explorer, .ref h_arrays, .ref a_reach]))], [(h_leftPaths, .inr (9, [.int leftPaths_belowOwn, .int leftPaths_belowEither, .int leftPaths_other, .int leftPaths_places, .ref a_leftPaths_objects, .ref a_leftPaths_parts, .ref a_leftPaths_lengths, .ref a_leftPaths_previous, .ref a_leftPaths_arrivals, .ref a_leftPaths_firstPlaces]))], [(a_leftPaths_arrivals, .inl (G 0, 32, .inl leftPaths_arrivals))], [(a_leftPaths_firstPlaces, .inl (G 0, 16, .inl leftPaths_firstPlaces))], [(a_leftPaths_lengths, .inl (G 0, 32, .inl leftPaths_lengths))], [(a_leftPaths_objects, .inl (G 0, 32, .inl leftPaths_objects))], [(a_leftPaths_parts, .inl (G 0, 32, .inl leftPaths_parts))], [(a_leftPaths_previous, .inl (G 0, 32, .inl leftPaths_previous))], [(h_order, .inr (2, [.ref a_order_pairs, .ref a_order_below]))], [(a_order_below, .inl (G 0, 8, .inl order_below))], [(h_peaks, .inr (7, [.int peaks_count, .ref a_peaks_firsts, .ref a_peaks_seconds]))], [(a_peaks_firsts, .inl (G 0, 496, .inl peaks_firsts))], [(a_peaks_seconds, .inl (G 0, 496, .inl peaks_seconds))], [(h_rightPaths, .inr (9, [.int rightPaths_belowOwn, .int rightPaths_belowEither, .int rightPaths_other, .int rightPaths_places, .ref a_rightPaths_objects, .ref a_rightPaths_parts, .ref a_rightPaths_lengths, .ref a_rightPaths_previous, .ref a_rightPaths_arrivals, .ref a_rightPaths_firstPlaces]))], [(a_rightPaths_arrivals, .inl (G 0, 32, .inl rightPaths_arrivals))], [(a_rightPaths_firstPlaces, .inl (G 0, 16, .inl rightPaths_firstPlaces))], [(a_rightPaths_lengths, .inl (G 0, 32, .inl rightPaths_lengths))], [(a_rightPaths_objects, .inl (G 0, 32, .inl rightPaths_objects))], [(a_rightPaths_parts, .inl (G 0, 32, .inl rightPaths_parts))], [(a_rightPaths_previous, .inl (G 0, 32, .inl rightPaths_previous))], [(h_system, .inr (3, [.int system_objects, .ref a_system_words, .int system_steps, .ref a_system_sources, .ref a_system_targets, .ref a_system_labels]))], [(a_system_labels, .inl (G 0, 32, .inl system_labels))], [(a_system_sources, .inl (G 0, 32, .inl system_sources))], [(a_system_targets, .inl (G 0, 32, .inl system_targets))]] H → va_S (xA aa) s.heap H locs → lv_has ls 6 [(0, .ref h), (2, .int v2), (3, .int v3), (4, .int v4)] → lp (τ := Int32 → Int32 → Int32 → Option (Int32 × (Nat → Int32) × Int32 × Int32 × (Nat → Int32) × (Nat → Int32) × (Nat → Int32) × Int32 × (Nat → Int32) × Int32 × (Nat → Int32) × Int32 × (Nat → Int32) × (Nat → Int32) × (Nat → Int32) × Int32 × Int32 × (Nat → Int32) × (Nat → Int32) × (Nat → Int32) × Int32 × (Nat → Int32) × Int32 × (Nat → Int32))) (fun _ _ _ => none) (f_X11_findValley_L100 leftPaths_belowOwn leftPaths_belowEither leftPaths_other leftPaths_places peaks_count rightPaths_belowOwn rightPaths_belowEither rightPaths_other rightPaths_places system_objects leftPaths_arrivals leftPaths_firstPlaces leftPaths_lengths leftPaths_objects leftPaths_parts leftPaths_previous peaks_firsts peaks_seconds rightPaths_arrivals rightPaths_firstPlaces rightPaths_lengths rightPaths_objects rightPaths_parts rightPaths_previous) n_100 v2 v3 v4 = some out → W p l e (rM 4 97) s m args below meth c H locs 0 0 Q (F0 m 100 ls []) := by
    intro leftPaths_arrivals leftPaths_belowEither leftPaths_belowOwn leftPaths_firstPlaces leftPaths_lengths leftPaths_objects leftPaths_other leftPaths_parts leftPaths_places leftPaths_previous peaks_count peaks_firsts peaks_seconds rightPaths_arrivals rightPaths_belowEither rightPaths_belowOwn rightPaths_firstPlaces rightPaths_lengths rightPaths_objects rightPaths_other rightPaths_parts rightPaths_places rightPaths_previous   n_100
    induction n_100 with
    | zero =>
      intro v2 v3 v4 H locs ls hP hS hl hf
      exact no_some hf
    | succ n_100 ih_100 =>
      intro v2 v3 v4 H locs ls hP hS hl hf
      have hf : f_X11_findValley_L100 leftPaths_belowOwn leftPaths_belowEither leftPaths_other leftPaths_places peaks_count rightPaths_belowOwn rightPaths_belowEither rightPaths_other rightPaths_places system_objects leftPaths_arrivals leftPaths_firstPlaces leftPaths_lengths leftPaths_objects leftPaths_parts leftPaths_previous peaks_firsts peaks_seconds rightPaths_arrivals rightPaths_firstPlaces rightPaths_lengths rightPaths_objects rightPaths_parts rightPaths_previous (lp (τ := Int32 → Int32 → Int32 → Option (Int32 × (Nat → Int32) × Int32 × Int32 × (Nat → Int32) × (Nat → Int32) × (Nat → Int32) × Int32 × (Nat → Int32) × Int32 × (Nat → Int32) × Int32 × (Nat → Int32) × (Nat → Int32) × (Nat → Int32) × Int32 × Int32 × (Nat → Int32) × (Nat → Int32) × (Nat → Int32) × Int32 × (Nat → Int32) × Int32 × (Nat → Int32))) (fun _ _ _ => none) (f_X11_findValley_L100 leftPaths_belowOwn leftPaths_belowEither leftPaths_other leftPaths_places peaks_count rightPaths_belowOwn rightPaths_belowEither rightPaths_other rightPaths_places system_objects leftPaths_arrivals leftPaths_firstPlaces leftPaths_lengths leftPaths_objects leftPaths_parts leftPaths_previous peaks_firsts peaks_seconds rightPaths_arrivals rightPaths_firstPlaces rightPaths_lengths rightPaths_objects rightPaths_parts rightPaths_previous) n_100) v2 v3 v4 = some out := hf
      rw [f_X11_findValley_L100] at hf
      have J169 : ∀ (v2 : Int32) (v3 : Int32) (v4 : Int32) (H : Heap) (locs : List Loc) (ls : Array Slot), xW D aa [[(h, .inr (10, [.ref h_order, .ref h_system, .ref h_rules, .ref h_savedOrder, .ref h_savedSystem, .ref h_savedRules, .int snapshotSaved, .ref h_peaks, .ref h_leftPaths, .ref h_rightPaths, .ref h_text, .ref h_labellings, .ref h_input, .ref h_explorer, .ref h_arrays, .ref a_reach]))], [(h_leftPaths, .inr (9, [.int leftPaths_belowOwn, .int leftPaths_belowEither, .int leftPaths_other, .int leftPaths_places, .ref a_leftPaths_objects, .ref a_leftPaths_parts, .ref a_leftPaths_lengths, .ref a_leftPaths_previous, .ref a_leftPaths_arrivals, .ref a_leftPaths_firstPlaces]))], [(a_leftPaths_arrivals, .inl (G 0, 32, .inl leftPaths_arrivals))], [(a_leftPaths_firstPlaces, .inl (G 0, 16, .inl leftPaths_firstPlaces))], [(a_leftPaths_lengths, .inl (G 0, 32, .inl leftPaths_lengths))], [(a_leftPaths_objects, .inl (G 0, 32, .inl leftPaths_objects))], [(a_leftPaths_parts, .inl (G 0, 32, .inl leftPaths_parts))], [(a_leftPaths_previous, .inl (G 0, 32, .inl leftPaths_previous))], [(h_order, .inr (2, [.ref a_order_pairs, .ref a_order_below]))], [(a_order_below, .inl (G 0, 8, .inl order_below))], [(h_peaks, .inr (7, [.int peaks_count, .ref a_peaks_firsts, .ref a_peaks_seconds]))], [(a_peaks_firsts, .inl (G 0, 496, .inl peaks_firsts))], [(a_peaks_seconds, .inl (G 0, 496, .inl peaks_seconds))], [(h_rightPaths, .inr (9, [.int rightPaths_belowOwn, .int rightPaths_belowEither, .int rightPaths_other, .int rightPaths_places, .ref a_rightPaths_objects, .ref a_rightPaths_parts, .ref a_rightPaths_lengths, .ref a_rightPaths_previous, .ref a_rightPaths_arrivals, .ref a_rightPaths_firstPlaces]))], [(a_rightPaths_arrivals, .inl (G 0, 32, .inl rightPaths_arrivals))], [(a_rightPaths_firstPlaces, .inl (G 0, 16, .inl rightPaths_firstPlaces))], [(a_rightPaths_lengths, .inl (G 0, 32, .inl rightPaths_lengths))], [(a_rightPaths_objects, .inl (G 0, 32, .inl rightPaths_objects))], [(a_rightPaths_parts, .inl (G 0, 32, .inl rightPaths_parts))], [(a_rightPaths_previous, .inl (G 0, 32, .inl rightPaths_previous))], [(h_system, .inr (3, [.int system_objects, .ref a_system_words, .int system_steps, .ref a_system_sources, .ref a_system_targets, .ref a_system_labels]))], [(a_system_labels, .inl (G 0, 32, .inl system_labels))], [(a_system_sources, .inl (G 0, 32, .inl system_sources))], [(a_system_targets, .inl (G 0, 32, .inl system_targets))]] H → va_S (xA aa) s.heap H locs → lv_has ls 6 [(0, .ref h), (2, .int v2), (3, .int v3), (4, .int v4)] → f_X11_findValley_J169 (lp (τ := Int32 → Int32 → Int32 → Option (Int32 × (Nat → Int32) × Int32 × Int32 × (Nat → Int32) × (Nat → Int32) × (Nat → Int32) × Int32 × (Nat → Int32) × Int32 × (Nat → Int32) × Int32 × (Nat → Int32) × (Nat → Int32) × (Nat → Int32) × Int32 × Int32 × (Nat → Int32) × (Nat → Int32) × (Nat → Int32) × Int32 × (Nat → Int32) × Int32 × (Nat → Int32))) (fun _ _ _ => none) (f_X11_findValley_L100 leftPaths_belowOwn leftPaths_belowEither leftPaths_other leftPaths_places peaks_count rightPaths_belowOwn rightPaths_belowEither rightPaths_other rightPaths_places system_objects leftPaths_arrivals leftPaths_firstPlaces leftPaths_lengths leftPaths_objects leftPaths_parts leftPaths_previous peaks_firsts peaks_seconds rightPaths_arrivals rightPaths_firstPlaces rightPaths_lengths rightPaths_objects rightPaths_parts rightPaths_previous) n_100) v2 v3 v4 = some out → W p l e (rM 4 97) s m args below meth c H locs 0 0 Q (F0 m 169 ls []) := by
        intro v2 v3 v4  H locs ls  hP hS hl hf
        rw [f_X11_findValley_J169] at hf
        obtain ⟨v4_169, e_v4_169, hf⟩ := lt_some hf
        refine lv_iinc (v := v4_169) (lv' := [(4, .int v4_169), (0, .ref h), (2, .int v2), (3, .int v3)]) hx hb dX11_findValley_169 hl (k := 3) rfl (by rw [e_v4_169]; rfl) (by decide) rfl (fun ls hl => ?_)
        refine lv_goto (tgt := 100) hx hb dX11_findValley_172 (by decide) ?_
        exact ih_100 v2 v3 v4_169 H locs ls hP hS (lv_sub hl [1, 2, 3, 0] rfl) hf
      refine lv_iload hx hb dX11_findValley_100 (lv_at hl 3 rfl) ?_
      refine lv_aload_n hx hb dX11_findValley_102 rfl (lv_at hl 0 rfl) ?_
      refine x_get hx hb hts u_X11_findValley_X11 hown hE hP 0 rfl rfl 1 (by decide) (hts (.fieldLink RX11 19 "DecreasingDiagrams" "system" "LDecreasingDiagrams$LabelledSystem;") (List.mem_of_getElem? (i := 2) rfl)) rfl dX11_findValley_103 ?_
      refine x_getN hx hb hts u_X11_findValley_X3 hown hE hP 20 rfl rfl 0 (by decide) (hE.2 (.fieldLinkNest RX11 149 "DecreasingDiagrams$LabelledSystem" "objects" "I" RX11) (List.mem_of_getElem? (i := 5) rfl)) rfl dX11_findValley_106 ?_
      refine lv_icmp_ge (tgt := 175) hx hb dX11_findValley_109 (by decide) (fun c_109 => ?_) (fun c_109 => ?_)
      · have hf := it_pos c_109 hf
        refine lv_iload_n hx hb dX11_findValley_175 rfl (lv_at hl 1 rfl) ?_
        have hf := Option.some.inj hf
        subst hf
        subst hQ
        exact x_iret hx hb hr hlocks hP hS dX11_findValley_176
      · have hf := it_neg c_109 hf
        refine lv_aload_n hx hb dX11_findValley_112 rfl (lv_at hl 0 rfl) ?_
        refine x_get hx hb hts u_X11_findValley_X11 hown hE hP 0 rfl rfl 8 (by decide) (hts (.fieldLink RX11 53 "DecreasingDiagrams" "leftPaths" "LDecreasingDiagrams$SidePaths;") (List.mem_of_getElem? (i := 3) rfl)) rfl dX11_findValley_113 ?_
        refine lv_iload hx hb dX11_findValley_116 (lv_at hl 3 rfl) ?_
        obtain ⟨r_118, hr_118, hf⟩ := bd_some hf
        refine x_goi (ps := [1, 3]) (I' := [[(h, .inr (10, [.ref h_order, .ref h_system, .ref h_rules, .ref h_savedOrder, .ref h_savedSystem, .ref h_savedRules, .int snapshotSaved, .ref h_peaks, .ref h_leftPaths, .ref h_rightPaths, .ref h_text, .ref h_labellings, .ref h_input, .ref h_explorer, .ref h_arrays, .ref a_reach]))], [(h_leftPaths, .inr (9, [.int leftPaths_belowOwn, .int leftPaths_belowEither, .int leftPaths_other, .int leftPaths_places, .ref a_leftPaths_objects, .ref a_leftPaths_parts, .ref a_leftPaths_lengths, .ref a_leftPaths_previous, .ref a_leftPaths_arrivals, .ref a_leftPaths_firstPlaces]))], [(a_leftPaths_arrivals, .inl (G 0, 32, .inl leftPaths_arrivals))], [(a_leftPaths_firstPlaces, .inl (G 0, 16, .inl leftPaths_firstPlaces))], [(a_leftPaths_lengths, .inl (G 0, 32, .inl leftPaths_lengths))], [(a_leftPaths_objects, .inl (G 0, 32, .inl leftPaths_objects))], [(a_leftPaths_parts, .inl (G 0, 32, .inl leftPaths_parts))], [(a_leftPaths_previous, .inl (G 0, 32, .inl leftPaths_previous))], [(h_order, .inr (2, [.ref a_order_pairs, .ref a_order_below]))], [(a_order_below, .inl (G 0, 8, .inl order_below))], [(h_peaks, .inr (7, [.int peaks_count, .ref a_peaks_firsts, .ref a_peaks_seconds]))], [(a_peaks_firsts, .inl (G 0, 496, .inl peaks_firsts))], [(a_peaks_seconds, .inl (G 0, 496, .inl peaks_seconds))], [(h_rightPaths, .inr (9, [.int rightPaths_belowOwn, .int rightPaths_belowEither, .int rightPaths_other, .int rightPaths_places, .ref a_rightPaths_objects, .ref a_rightPaths_parts, .ref a_rightPaths_lengths, .ref a_rightPaths_previous, .ref a_rightPaths_arrivals, .ref a_rightPaths_firstPlaces]))], [(a_rightPaths_arrivals, .inl (G 0, 32, .inl rightPaths_arrivals))], [(a_rightPaths_firstPlaces, .inl (G 0, 16, .inl rightPaths_firstPlaces))], [(a_rightPaths_lengths, .inl (G 0, 32, .inl rightPaths_lengths))], [(a_rightPaths_objects, .inl (G 0, 32, .inl rightPaths_objects))], [(a_rightPaths_parts, .inl (G 0, 32, .inl rightPaths_parts))], [(a_rightPaths_previous, .inl (G 0, 32, .inl rightPaths_previous))], [(h_system, .inr (3, [.int system_objects, .ref a_system_words, .int system_steps, .ref a_system_sources, .ref a_system_targets, .ref a_system_labels]))], [(a_system_labels, .inl (G 0, 32, .inl system_labels))], [(a_system_sources, .inl (G 0, 32, .inl system_sources))], [(a_system_targets, .inl (G 0, 32, .inl system_targets))]]) (x_runVN (As := [.int v4]) (rest := []) (ps := [1, 3]) ⟨hx, hb, hml, hown, hts⟩ (k_X9_reaches l D G h_leftPaths a_leftPaths_objects a_leftPaths_parts a_leftPaths_lengths a_leftPaths_previous a_leftPaths_arrivals a_leftPaths_firstPlaces leftPaths_belowOwn leftPaths_belowEither leftPaths_other leftPaths_places leftPaths_firstPlaces v4 r_118 hr_118) ⟨va_cnB 1 hts gX11_findValley_X9_reaches_n357 rfl rfl rfl (hE.2 (.methodLinkNest RX11 357 yX9_reaches RX11) (List.mem_of_getElem? (i := 80) rfl)) (hts (.initialized RX9) (List.mem_of_getElem? (i := 18) rfl)) (by decide +kernel) ⟨Nat.le_of_ble_eq_true rfl, Nat.le_of_ble_eq_true rfl⟩, (hts (.instanceMethod yX9_reaches) (List.mem_of_getElem? (i := 54) rfl)), (hts (.selects RX9 yX9_reaches yX9_reaches) (List.mem_of_getElem? (i := 55) rfl))⟩ hE hP hN rfl (by decide) 1 rfl rfl rfl hl.1 (Nat.le_of_ble_eq_true rfl) dX11_findValley_118 ⟨Nat.zero_le _, Nat.zero_le _⟩) hP hN hS rfl rfl (fun H locs hP hS => ?_)
        refine lv_if_eq (tgt := 169) hx hb dX11_findValley_121 (by decide) (fun c_121 => ?_) (fun c_121 => ?_)
        · have hf := it_pos c_121 hf
          exact J169 v2 v3 v4  H locs ls  hP hS (lv_sub hl [0, 1, 2, 3] rfl) hf
        · have hf := it_neg c_121 hf
          refine lv_aload_n hx hb dX11_findValley_124 rfl (lv_at hl 0 rfl) ?_
          refine x_get hx hb hts u_X11_findValley_X11 hown hE hP 0 rfl rfl 9 (by decide) (hts (.fieldLink RX11 57 "DecreasingDiagrams" "rightPaths" "LDecreasingDiagrams$SidePaths;") (List.mem_of_getElem? (i := 5) rfl)) rfl dX11_findValley_125 ?_
          refine lv_iload hx hb dX11_findValley_128 (lv_at hl 3 rfl) ?_
          obtain ⟨r_130, hr_130, hf⟩ := bd_some hf
          refine x_goi (ps := [13, 15]) (I' := [[(h, .inr (10, [.ref h_order, .ref h_system, .ref h_rules, .ref h_savedOrder, .ref h_savedSystem, .ref h_savedRules, .int snapshotSaved, .ref h_peaks, .ref h_leftPaths, .ref h_rightPaths, .ref h_text, .ref h_labellings, .ref h_input, .ref h_explorer, .ref h_arrays, .ref a_reach]))], [(h_leftPaths, .inr (9, [.int leftPaths_belowOwn, .int leftPaths_belowEither, .int leftPaths_other, .int leftPaths_places, .ref a_leftPaths_objects, .ref a_leftPaths_parts, .ref a_leftPaths_lengths, .ref a_leftPaths_previous, .ref a_leftPaths_arrivals, .ref a_leftPaths_firstPlaces]))], [(a_leftPaths_arrivals, .inl (G 0, 32, .inl leftPaths_arrivals))], [(a_leftPaths_firstPlaces, .inl (G 0, 16, .inl leftPaths_firstPlaces))], [(a_leftPaths_lengths, .inl (G 0, 32, .inl leftPaths_lengths))], [(a_leftPaths_objects, .inl (G 0, 32, .inl leftPaths_objects))], [(a_leftPaths_parts, .inl (G 0, 32, .inl leftPaths_parts))], [(a_leftPaths_previous, .inl (G 0, 32, .inl leftPaths_previous))], [(h_order, .inr (2, [.ref a_order_pairs, .ref a_order_below]))], [(a_order_below, .inl (G 0, 8, .inl order_below))], [(h_peaks, .inr (7, [.int peaks_count, .ref a_peaks_firsts, .ref a_peaks_seconds]))], [(a_peaks_firsts, .inl (G 0, 496, .inl peaks_firsts))], [(a_peaks_seconds, .inl (G 0, 496, .inl peaks_seconds))], [(h_rightPaths, .inr (9, [.int rightPaths_belowOwn, .int rightPaths_belowEither, .int rightPaths_other, .int rightPaths_places, .ref a_rightPaths_objects, .ref a_rightPaths_parts, .ref a_rightPaths_lengths, .ref a_rightPaths_previous, .ref a_rightPaths_arrivals, .ref a_rightPaths_firstPlaces]))], [(a_rightPaths_arrivals, .inl (G 0, 32, .inl rightPaths_arrivals))], [(a_rightPaths_firstPlaces, .inl (G 0, 16, .inl rightPaths_firstPlaces))], [(a_rightPaths_lengths, .inl (G 0, 32, .inl rightPaths_lengths))], [(a_rightPaths_objects, .inl (G 0, 32, .inl rightPaths_objects))], [(a_rightPaths_parts, .inl (G 0, 32, .inl rightPaths_parts))], [(a_rightPaths_previous, .inl (G 0, 32, .inl rightPaths_previous))], [(h_system, .inr (3, [.int system_objects, .ref a_system_words, .int system_steps, .ref a_system_sources, .ref a_system_targets, .ref a_system_labels]))], [(a_system_labels, .inl (G 0, 32, .inl system_labels))], [(a_system_sources, .inl (G 0, 32, .inl system_sources))], [(a_system_targets, .inl (G 0, 32, .inl system_targets))]]) (x_runVN (As := [.int v4]) (rest := []) (ps := [13, 15]) ⟨hx, hb, hml, hown, hts⟩ (k_X9_reaches l D G h_rightPaths a_rightPaths_objects a_rightPaths_parts a_rightPaths_lengths a_rightPaths_previous a_rightPaths_arrivals a_rightPaths_firstPlaces rightPaths_belowOwn rightPaths_belowEither rightPaths_other rightPaths_places rightPaths_firstPlaces v4 r_130 hr_130) ⟨va_cnB 1 hts gX11_findValley_X9_reaches_n357 rfl rfl rfl (hE.2 (.methodLinkNest RX11 357 yX9_reaches RX11) (List.mem_of_getElem? (i := 80) rfl)) (hts (.initialized RX9) (List.mem_of_getElem? (i := 18) rfl)) (by decide +kernel) ⟨Nat.le_of_ble_eq_true rfl, Nat.le_of_ble_eq_true rfl⟩, (hts (.instanceMethod yX9_reaches) (List.mem_of_getElem? (i := 54) rfl)), (hts (.selects RX9 yX9_reaches yX9_reaches) (List.mem_of_getElem? (i := 55) rfl))⟩ hE hP hN rfl (by decide) 13 rfl rfl rfl hl.1 (Nat.le_of_ble_eq_true rfl) dX11_findValley_130 ⟨Nat.zero_le _, Nat.zero_le _⟩) hP hN hS rfl rfl (fun H locs hP hS => ?_)
          refine lv_if_eq (tgt := 169) hx hb dX11_findValley_133 (by decide) (fun c_133 => ?_) (fun c_133 => ?_)
          · have hf := it_pos c_133 hf
            exact J169 v2 v3 v4  H locs ls  hP hS (lv_sub hl [0, 1, 2, 3] rfl) hf
          · have hf := it_neg c_133 hf
            refine lv_aload_n hx hb dX11_findValley_136 rfl (lv_at hl 0 rfl) ?_
            refine x_get hx hb hts u_X11_findValley_X11 hown hE hP 0 rfl rfl 8 (by decide) (hts (.fieldLink RX11 53 "DecreasingDiagrams" "leftPaths" "LDecreasingDiagrams$SidePaths;") (List.mem_of_getElem? (i := 3) rfl)) rfl dX11_findValley_137 ?_
            refine lv_iload hx hb dX11_findValley_140 (lv_at hl 3 rfl) ?_
            obtain ⟨r_142, hr_142, hf⟩ := bd_some hf
            refine x_goi (ps := [1, 3, 4]) (I' := [[(h, .inr (10, [.ref h_order, .ref h_system, .ref h_rules, .ref h_savedOrder, .ref h_savedSystem, .ref h_savedRules, .int snapshotSaved, .ref h_peaks, .ref h_leftPaths, .ref h_rightPaths, .ref h_text, .ref h_labellings, .ref h_input, .ref h_explorer, .ref h_arrays, .ref a_reach]))], [(h_leftPaths, .inr (9, [.int leftPaths_belowOwn, .int leftPaths_belowEither, .int leftPaths_other, .int leftPaths_places, .ref a_leftPaths_objects, .ref a_leftPaths_parts, .ref a_leftPaths_lengths, .ref a_leftPaths_previous, .ref a_leftPaths_arrivals, .ref a_leftPaths_firstPlaces]))], [(a_leftPaths_arrivals, .inl (G 0, 32, .inl leftPaths_arrivals))], [(a_leftPaths_firstPlaces, .inl (G 0, 16, .inl leftPaths_firstPlaces))], [(a_leftPaths_lengths, .inl (G 0, 32, .inl leftPaths_lengths))], [(a_leftPaths_objects, .inl (G 0, 32, .inl leftPaths_objects))], [(a_leftPaths_parts, .inl (G 0, 32, .inl leftPaths_parts))], [(a_leftPaths_previous, .inl (G 0, 32, .inl leftPaths_previous))], [(h_order, .inr (2, [.ref a_order_pairs, .ref a_order_below]))], [(a_order_below, .inl (G 0, 8, .inl order_below))], [(h_peaks, .inr (7, [.int peaks_count, .ref a_peaks_firsts, .ref a_peaks_seconds]))], [(a_peaks_firsts, .inl (G 0, 496, .inl peaks_firsts))], [(a_peaks_seconds, .inl (G 0, 496, .inl peaks_seconds))], [(h_rightPaths, .inr (9, [.int rightPaths_belowOwn, .int rightPaths_belowEither, .int rightPaths_other, .int rightPaths_places, .ref a_rightPaths_objects, .ref a_rightPaths_parts, .ref a_rightPaths_lengths, .ref a_rightPaths_previous, .ref a_rightPaths_arrivals, .ref a_rightPaths_firstPlaces]))], [(a_rightPaths_arrivals, .inl (G 0, 32, .inl rightPaths_arrivals))], [(a_rightPaths_firstPlaces, .inl (G 0, 16, .inl rightPaths_firstPlaces))], [(a_rightPaths_lengths, .inl (G 0, 32, .inl rightPaths_lengths))], [(a_rightPaths_objects, .inl (G 0, 32, .inl rightPaths_objects))], [(a_rightPaths_parts, .inl (G 0, 32, .inl rightPaths_parts))], [(a_rightPaths_previous, .inl (G 0, 32, .inl rightPaths_previous))], [(h_system, .inr (3, [.int system_objects, .ref a_system_words, .int system_steps, .ref a_system_sources, .ref a_system_targets, .ref a_system_labels]))], [(a_system_labels, .inl (G 0, 32, .inl system_labels))], [(a_system_sources, .inl (G 0, 32, .inl system_sources))], [(a_system_targets, .inl (G 0, 32, .inl system_targets))]]) (x_runVN (As := [.int v4]) (rest := []) (ps := [1, 3, 4]) ⟨hx, hb, hml, hown, hts⟩ (k_X9_lengthTo l D G h_leftPaths a_leftPaths_objects a_leftPaths_parts a_leftPaths_lengths a_leftPaths_previous a_leftPaths_arrivals a_leftPaths_firstPlaces leftPaths_belowOwn leftPaths_belowEither leftPaths_other leftPaths_places leftPaths_firstPlaces leftPaths_lengths v4 r_142 hr_142) ⟨va_cnB 1 hts gX11_findValley_X9_lengthTo_n225 rfl rfl rfl (hE.2 (.methodLinkNest RX11 225 yX9_lengthTo RX11) (List.mem_of_getElem? (i := 81) rfl)) (hts (.initialized RX9) (List.mem_of_getElem? (i := 18) rfl)) (by decide +kernel) ⟨Nat.le_of_ble_eq_true rfl, Nat.le_of_ble_eq_true rfl⟩, (hts (.instanceMethod yX9_lengthTo) (List.mem_of_getElem? (i := 57) rfl)), (hts (.selects RX9 yX9_lengthTo yX9_lengthTo) (List.mem_of_getElem? (i := 58) rfl))⟩ hE hP hN rfl (by decide) 1 rfl rfl rfl hl.1 (Nat.le_of_ble_eq_true rfl) dX11_findValley_142 ⟨Nat.zero_le _, Nat.zero_le _⟩) hP hN hS rfl rfl (fun H locs hP hS => ?_)
            refine lv_aload_n hx hb dX11_findValley_145 rfl (lv_at hl 0 rfl) ?_
            refine x_get hx hb hts u_X11_findValley_X11 hown hE hP 0 rfl rfl 9 (by decide) (hts (.fieldLink RX11 57 "DecreasingDiagrams" "rightPaths" "LDecreasingDiagrams$SidePaths;") (List.mem_of_getElem? (i := 5) rfl)) rfl dX11_findValley_146 ?_
            refine lv_iload hx hb dX11_findValley_149 (lv_at hl 3 rfl) ?_
            obtain ⟨r_151, hr_151, hf⟩ := bd_some hf
            refine x_goi (ps := [13, 15, 16]) (I' := [[(h, .inr (10, [.ref h_order, .ref h_system, .ref h_rules, .ref h_savedOrder, .ref h_savedSystem, .ref h_savedRules, .int snapshotSaved, .ref h_peaks, .ref h_leftPaths, .ref h_rightPaths, .ref h_text, .ref h_labellings, .ref h_input, .ref h_explorer, .ref h_arrays, .ref a_reach]))], [(h_leftPaths, .inr (9, [.int leftPaths_belowOwn, .int leftPaths_belowEither, .int leftPaths_other, .int leftPaths_places, .ref a_leftPaths_objects, .ref a_leftPaths_parts, .ref a_leftPaths_lengths, .ref a_leftPaths_previous, .ref a_leftPaths_arrivals, .ref a_leftPaths_firstPlaces]))], [(a_leftPaths_arrivals, .inl (G 0, 32, .inl leftPaths_arrivals))], [(a_leftPaths_firstPlaces, .inl (G 0, 16, .inl leftPaths_firstPlaces))], [(a_leftPaths_lengths, .inl (G 0, 32, .inl leftPaths_lengths))], [(a_leftPaths_objects, .inl (G 0, 32, .inl leftPaths_objects))], [(a_leftPaths_parts, .inl (G 0, 32, .inl leftPaths_parts))], [(a_leftPaths_previous, .inl (G 0, 32, .inl leftPaths_previous))], [(h_order, .inr (2, [.ref a_order_pairs, .ref a_order_below]))], [(a_order_below, .inl (G 0, 8, .inl order_below))], [(h_peaks, .inr (7, [.int peaks_count, .ref a_peaks_firsts, .ref a_peaks_seconds]))], [(a_peaks_firsts, .inl (G 0, 496, .inl peaks_firsts))], [(a_peaks_seconds, .inl (G 0, 496, .inl peaks_seconds))], [(h_rightPaths, .inr (9, [.int rightPaths_belowOwn, .int rightPaths_belowEither, .int rightPaths_other, .int rightPaths_places, .ref a_rightPaths_objects, .ref a_rightPaths_parts, .ref a_rightPaths_lengths, .ref a_rightPaths_previous, .ref a_rightPaths_arrivals, .ref a_rightPaths_firstPlaces]))], [(a_rightPaths_arrivals, .inl (G 0, 32, .inl rightPaths_arrivals))], [(a_rightPaths_firstPlaces, .inl (G 0, 16, .inl rightPaths_firstPlaces))], [(a_rightPaths_lengths, .inl (G 0, 32, .inl rightPaths_lengths))], [(a_rightPaths_objects, .inl (G 0, 32, .inl rightPaths_objects))], [(a_rightPaths_parts, .inl (G 0, 32, .inl rightPaths_parts))], [(a_rightPaths_previous, .inl (G 0, 32, .inl rightPaths_previous))], [(h_system, .inr (3, [.int system_objects, .ref a_system_words, .int system_steps, .ref a_system_sources, .ref a_system_targets, .ref a_system_labels]))], [(a_system_labels, .inl (G 0, 32, .inl system_labels))], [(a_system_sources, .inl (G 0, 32, .inl system_sources))], [(a_system_targets, .inl (G 0, 32, .inl system_targets))]]) (x_runVN (As := [.int v4]) (rest := [.int r_142]) (ps := [13, 15, 16]) ⟨hx, hb, hml, hown, hts⟩ (k_X9_lengthTo l D G h_rightPaths a_rightPaths_objects a_rightPaths_parts a_rightPaths_lengths a_rightPaths_previous a_rightPaths_arrivals a_rightPaths_firstPlaces rightPaths_belowOwn rightPaths_belowEither rightPaths_other rightPaths_places rightPaths_firstPlaces rightPaths_lengths v4 r_151 hr_151) ⟨va_cnB 1 hts gX11_findValley_X9_lengthTo_n225 rfl rfl rfl (hE.2 (.methodLinkNest RX11 225 yX9_lengthTo RX11) (List.mem_of_getElem? (i := 81) rfl)) (hts (.initialized RX9) (List.mem_of_getElem? (i := 18) rfl)) (by decide +kernel) ⟨Nat.le_of_ble_eq_true rfl, Nat.le_of_ble_eq_true rfl⟩, (hts (.instanceMethod yX9_lengthTo) (List.mem_of_getElem? (i := 57) rfl)), (hts (.selects RX9 yX9_lengthTo yX9_lengthTo) (List.mem_of_getElem? (i := 58) rfl))⟩ hE hP hN rfl (by decide) 13 rfl rfl rfl hl.1 (Nat.le_of_ble_eq_true rfl) dX11_findValley_151 ⟨Nat.zero_le _, Nat.zero_le _⟩) hP hN hS rfl rfl (fun H locs hP hS => ?_)
            refine lv_iadd hx hb dX11_findValley_154 ?_
            obtain ⟨v5_155, e_v5_155, hf⟩ := lt_some hf
            refine x_istore (v := v5_155) (lv' := [(5, .int v5_155), (0, .ref h), (2, .int v2), (3, .int v3), (4, .int v4)]) hx hb dX11_findValley_155 e_v5_155 hl (by decide) rfl (fun ls hl => ?_)
            refine lv_iload hx hb dX11_findValley_157 (lv_at hl 0 rfl) ?_
            refine lv_iload_n hx hb dX11_findValley_159 rfl (lv_at hl 3 rfl) ?_
            refine lv_icmp_ge (tgt := 169) hx hb dX11_findValley_160 (by decide) (fun c_160 => ?_) (fun c_160 => ?_)
            · have hf := it_pos c_160 hf
              exact J169 v2 v3 v4  H locs ls  hP hS (lv_sub hl [1, 2, 3, 4] rfl) hf
            · have hf := it_neg c_160 hf
              refine lv_iload hx hb dX11_findValley_163 (lv_at hl 0 rfl) ?_
              obtain ⟨v3_165, e_v3_165, hf⟩ := lt_some hf
              refine x_istore_n (v := v3_165) (lv' := [(3, .int v3_165), (5, .int v5_155), (0, .ref h), (2, .int v2), (4, .int v4)]) hx hb dX11_findValley_165 e_v3_165 rfl hl (by decide) rfl (fun ls hl => ?_)
              refine lv_iload hx hb dX11_findValley_166 (lv_at hl 4 rfl) ?_
              obtain ⟨v2_168, e_v2_168, hf⟩ := lt_some hf
              refine x_istore_n (v := v2_168) (lv' := [(2, .int v2_168), (3, .int v3_165), (5, .int v5_155), (0, .ref h), (4, .int v4)]) hx hb dX11_findValley_168 e_v2_168 rfl hl (by decide) rfl (fun ls hl => ?_)
              exact J169 v2_168 v3_165 v4  H locs ls  hP hS (lv_sub hl [3, 0, 1, 4] rfl) hf
  rw [f_X11_findValley] at hf
  obtain ⟨H, hH⟩ : ∃ H : Heap, H = s.heap := ⟨_, rfl⟩
  obtain ⟨locs, hlocs⟩ : ∃ locs : List Loc, locs = [] := ⟨_, rfl⟩
  have hP : xW D aa [[(h, .inr (10, [.ref h_order, .ref h_system, .ref h_rules, .ref h_savedOrder, .ref h_savedSystem, .ref h_savedRules, .int snapshotSaved, .ref h_peaks, .ref h_leftPaths, .ref h_rightPaths, .ref h_text, .ref h_labellings, .ref h_input, .ref h_explorer, .ref h_arrays, .ref a_reach]))], [(h_leftPaths, .inr (9, [.int leftPaths_belowOwn, .int leftPaths_belowEither, .int leftPaths_other, .int leftPaths_places, .ref a_leftPaths_objects, .ref a_leftPaths_parts, .ref a_leftPaths_lengths, .ref a_leftPaths_previous, .ref a_leftPaths_arrivals, .ref a_leftPaths_firstPlaces]))], [(a_leftPaths_arrivals, .inl (G 0, 32, .inl leftPaths_arrivals))], [(a_leftPaths_firstPlaces, .inl (G 0, 16, .inl leftPaths_firstPlaces))], [(a_leftPaths_lengths, .inl (G 0, 32, .inl leftPaths_lengths))], [(a_leftPaths_objects, .inl (G 0, 32, .inl leftPaths_objects))], [(a_leftPaths_parts, .inl (G 0, 32, .inl leftPaths_parts))], [(a_leftPaths_previous, .inl (G 0, 32, .inl leftPaths_previous))], [(h_order, .inr (2, [.ref a_order_pairs, .ref a_order_below]))], [(a_order_below, .inl (G 0, 8, .inl order_below))], [(h_peaks, .inr (7, [.int peaks_count, .ref a_peaks_firsts, .ref a_peaks_seconds]))], [(a_peaks_firsts, .inl (G 0, 496, .inl peaks_firsts))], [(a_peaks_seconds, .inl (G 0, 496, .inl peaks_seconds))], [(h_rightPaths, .inr (9, [.int rightPaths_belowOwn, .int rightPaths_belowEither, .int rightPaths_other, .int rightPaths_places, .ref a_rightPaths_objects, .ref a_rightPaths_parts, .ref a_rightPaths_lengths, .ref a_rightPaths_previous, .ref a_rightPaths_arrivals, .ref a_rightPaths_firstPlaces]))], [(a_rightPaths_arrivals, .inl (G 0, 32, .inl rightPaths_arrivals))], [(a_rightPaths_firstPlaces, .inl (G 0, 16, .inl rightPaths_firstPlaces))], [(a_rightPaths_lengths, .inl (G 0, 32, .inl rightPaths_lengths))], [(a_rightPaths_objects, .inl (G 0, 32, .inl rightPaths_objects))], [(a_rightPaths_parts, .inl (G 0, 32, .inl rightPaths_parts))], [(a_rightPaths_previous, .inl (G 0, 32, .inl rightPaths_previous))], [(h_system, .inr (3, [.int system_objects, .ref a_system_words, .int system_steps, .ref a_system_sources, .ref a_system_targets, .ref a_system_labels]))], [(a_system_labels, .inl (G 0, 32, .inl system_labels))], [(a_system_sources, .inl (G 0, 32, .inl system_sources))], [(a_system_targets, .inl (G 0, 32, .inl system_targets))]] H := by rw [hH]; exact hP
  have hS : va_S (xA aa) s.heap H locs := by rw [hH, hlocs]; exact hS
  suffices GO : W p l e (rM 4 97) s m args below meth c H locs 0 0 Q (F0 m 0 ls []) by
    rw [hH, hlocs] at GO
    exact GO
  clear hH hlocs
  refine lv_aload_n hx hb dX11_findValley_0 rfl (lv_at hl 0 rfl) ?_
  refine x_get hx hb hts u_X11_findValley_X11 hown hE hP 0 rfl rfl 7 (by decide) (hts (.fieldLink RX11 46 "DecreasingDiagrams" "peaks" "LDecreasingDiagrams$Peaks;") (List.mem_of_getElem? (i := 1) rfl)) rfl dX11_findValley_1 ?_
  refine lv_aload_n hx hb dX11_findValley_4 rfl (lv_at hl 0 rfl) ?_
  refine x_get hx hb hts u_X11_findValley_X11 hown hE hP 0 rfl rfl 1 (by decide) (hts (.fieldLink RX11 19 "DecreasingDiagrams" "system" "LDecreasingDiagrams$LabelledSystem;") (List.mem_of_getElem? (i := 2) rfl)) rfl dX11_findValley_5 ?_
  obtain ⟨r_8, hr_8, hf⟩ := bd_some hf
  refine x_gov (ps := [20, 22, 10, 11, 12]) (I' := [[(h, .inr (10, [.ref h_order, .ref h_system, .ref h_rules, .ref h_savedOrder, .ref h_savedSystem, .ref h_savedRules, .int snapshotSaved, .ref h_peaks, .ref h_leftPaths, .ref h_rightPaths, .ref h_text, .ref h_labellings, .ref h_input, .ref h_explorer, .ref h_arrays, .ref a_reach]))], [(h_leftPaths, .inr (9, [.int leftPaths_belowOwn, .int leftPaths_belowEither, .int leftPaths_other, .int leftPaths_places, .ref a_leftPaths_objects, .ref a_leftPaths_parts, .ref a_leftPaths_lengths, .ref a_leftPaths_previous, .ref a_leftPaths_arrivals, .ref a_leftPaths_firstPlaces]))], [(a_leftPaths_arrivals, .inl (G 0, 32, .inl leftPaths_arrivals))], [(a_leftPaths_firstPlaces, .inl (G 0, 16, .inl leftPaths_firstPlaces))], [(a_leftPaths_lengths, .inl (G 0, 32, .inl leftPaths_lengths))], [(a_leftPaths_objects, .inl (G 0, 32, .inl leftPaths_objects))], [(a_leftPaths_parts, .inl (G 0, 32, .inl leftPaths_parts))], [(a_leftPaths_previous, .inl (G 0, 32, .inl leftPaths_previous))], [(h_order, .inr (2, [.ref a_order_pairs, .ref a_order_below]))], [(a_order_below, .inl (G 0, 8, .inl order_below))], [(h_peaks, .inr (7, [.int r_8.1, .ref a_peaks_firsts, .ref a_peaks_seconds]))], [(a_peaks_firsts, .inl (G 0, 496, .inl r_8.2.1))], [(a_peaks_seconds, .inl (G 0, 496, .inl r_8.2.2))], [(h_rightPaths, .inr (9, [.int rightPaths_belowOwn, .int rightPaths_belowEither, .int rightPaths_other, .int rightPaths_places, .ref a_rightPaths_objects, .ref a_rightPaths_parts, .ref a_rightPaths_lengths, .ref a_rightPaths_previous, .ref a_rightPaths_arrivals, .ref a_rightPaths_firstPlaces]))], [(a_rightPaths_arrivals, .inl (G 0, 32, .inl rightPaths_arrivals))], [(a_rightPaths_firstPlaces, .inl (G 0, 16, .inl rightPaths_firstPlaces))], [(a_rightPaths_lengths, .inl (G 0, 32, .inl rightPaths_lengths))], [(a_rightPaths_objects, .inl (G 0, 32, .inl rightPaths_objects))], [(a_rightPaths_parts, .inl (G 0, 32, .inl rightPaths_parts))], [(a_rightPaths_previous, .inl (G 0, 32, .inl rightPaths_previous))], [(h_system, .inr (3, [.int system_objects, .ref a_system_words, .int system_steps, .ref a_system_sources, .ref a_system_targets, .ref a_system_labels]))], [(a_system_labels, .inl (G 0, 32, .inl system_labels))], [(a_system_sources, .inl (G 0, 32, .inl system_sources))], [(a_system_targets, .inl (G 0, 32, .inl system_targets))]]) (x_runVN (As := [.ref h_system]) (rest := []) (ps := [20, 22, 10, 11, 12]) ⟨hx, hb, hml, hown, hts⟩ (k_X7_collect l D G h_peaks h_system a_system_words a_system_sources a_system_targets a_system_labels a_peaks_firsts a_peaks_seconds system_objects system_steps peaks_count system_sources peaks_firsts peaks_seconds r_8 hr_8) ⟨va_cnB 1 hts gX11_findValley_X7_collect_n195 rfl rfl rfl (hE.2 (.methodLinkNest RX11 195 yX7_collect RX11) (List.mem_of_getElem? (i := 73) rfl)) (hts (.initialized RX7) (List.mem_of_getElem? (i := 8) rfl)) (by decide +kernel) ⟨Nat.le_of_ble_eq_true rfl, Nat.le_of_ble_eq_true rfl⟩, (hts (.instanceMethod yX7_collect) (List.mem_of_getElem? (i := 7) rfl)), (hts (.selects RX7 yX7_collect yX7_collect) (List.mem_of_getElem? (i := 9) rfl))⟩ hE hP hN rfl (by decide) 10 rfl rfl rfl hl.1 (Nat.le_of_ble_eq_true rfl) dX11_findValley_8 ⟨Nat.zero_le _, Nat.zero_le _⟩) hP hN hS rfl rfl (fun H locs hP hS => ?_)
  refine lv_aload_n hx hb dX11_findValley_11 rfl (lv_at hl 0 rfl) ?_
  refine x_get hx hb hts u_X11_findValley_X11 hown hE hP 0 rfl rfl 7 (by decide) (hts (.fieldLink RX11 46 "DecreasingDiagrams" "peaks" "LDecreasingDiagrams$Peaks;") (List.mem_of_getElem? (i := 1) rfl)) rfl dX11_findValley_12 ?_
  refine lv_iload_n hx hb dX11_findValley_15 rfl (lv_at hl 1 rfl) ?_
  obtain ⟨r_16, hr_16, hf⟩ := bd_some hf
  refine x_goi (ps := [10]) (I' := [[(h, .inr (10, [.ref h_order, .ref h_system, .ref h_rules, .ref h_savedOrder, .ref h_savedSystem, .ref h_savedRules, .int snapshotSaved, .ref h_peaks, .ref h_leftPaths, .ref h_rightPaths, .ref h_text, .ref h_labellings, .ref h_input, .ref h_explorer, .ref h_arrays, .ref a_reach]))], [(h_leftPaths, .inr (9, [.int leftPaths_belowOwn, .int leftPaths_belowEither, .int leftPaths_other, .int leftPaths_places, .ref a_leftPaths_objects, .ref a_leftPaths_parts, .ref a_leftPaths_lengths, .ref a_leftPaths_previous, .ref a_leftPaths_arrivals, .ref a_leftPaths_firstPlaces]))], [(a_leftPaths_arrivals, .inl (G 0, 32, .inl leftPaths_arrivals))], [(a_leftPaths_firstPlaces, .inl (G 0, 16, .inl leftPaths_firstPlaces))], [(a_leftPaths_lengths, .inl (G 0, 32, .inl leftPaths_lengths))], [(a_leftPaths_objects, .inl (G 0, 32, .inl leftPaths_objects))], [(a_leftPaths_parts, .inl (G 0, 32, .inl leftPaths_parts))], [(a_leftPaths_previous, .inl (G 0, 32, .inl leftPaths_previous))], [(h_order, .inr (2, [.ref a_order_pairs, .ref a_order_below]))], [(a_order_below, .inl (G 0, 8, .inl order_below))], [(h_peaks, .inr (7, [.int r_8.1, .ref a_peaks_firsts, .ref a_peaks_seconds]))], [(a_peaks_firsts, .inl (G 0, 496, .inl r_8.2.1))], [(a_peaks_seconds, .inl (G 0, 496, .inl r_8.2.2))], [(h_rightPaths, .inr (9, [.int rightPaths_belowOwn, .int rightPaths_belowEither, .int rightPaths_other, .int rightPaths_places, .ref a_rightPaths_objects, .ref a_rightPaths_parts, .ref a_rightPaths_lengths, .ref a_rightPaths_previous, .ref a_rightPaths_arrivals, .ref a_rightPaths_firstPlaces]))], [(a_rightPaths_arrivals, .inl (G 0, 32, .inl rightPaths_arrivals))], [(a_rightPaths_firstPlaces, .inl (G 0, 16, .inl rightPaths_firstPlaces))], [(a_rightPaths_lengths, .inl (G 0, 32, .inl rightPaths_lengths))], [(a_rightPaths_objects, .inl (G 0, 32, .inl rightPaths_objects))], [(a_rightPaths_parts, .inl (G 0, 32, .inl rightPaths_parts))], [(a_rightPaths_previous, .inl (G 0, 32, .inl rightPaths_previous))], [(h_system, .inr (3, [.int system_objects, .ref a_system_words, .int system_steps, .ref a_system_sources, .ref a_system_targets, .ref a_system_labels]))], [(a_system_labels, .inl (G 0, 32, .inl system_labels))], [(a_system_sources, .inl (G 0, 32, .inl system_sources))], [(a_system_targets, .inl (G 0, 32, .inl system_targets))]]) (x_runVN (As := [.int v1]) (rest := []) (ps := [10]) ⟨hx, hb, hml, hown, hts⟩ (k_X7_has l D G h_peaks a_peaks_firsts a_peaks_seconds r_8.1 v1 r_16 hr_16) ⟨va_cnB 1 hts gX11_findValley_X7_has_n208 rfl rfl rfl (hE.2 (.methodLinkNest RX11 208 yX7_has RX11) (List.mem_of_getElem? (i := 74) rfl)) (hts (.initialized RX7) (List.mem_of_getElem? (i := 8) rfl)) (by decide +kernel) ⟨Nat.le_of_ble_eq_true rfl, Nat.le_of_ble_eq_true rfl⟩, (hts (.instanceMethod yX7_has) (List.mem_of_getElem? (i := 14) rfl)), (hts (.selects RX7 yX7_has yX7_has) (List.mem_of_getElem? (i := 15) rfl))⟩ hE hP hN rfl (by decide) 10 rfl rfl rfl hl.1 (Nat.le_of_ble_eq_true rfl) dX11_findValley_16 ⟨Nat.zero_le _, Nat.zero_le _⟩) hP hN hS rfl rfl (fun H locs hP hS => ?_)
  refine lv_if_ne (tgt := 24) hx hb dX11_findValley_19 (by decide) (fun c_19 => ?_) (fun c_19 => ?_)
  · have hf := it_pos c_19 hf
    refine lv_aload_n hx hb dX11_findValley_24 rfl (lv_at hl 0 rfl) ?_
    refine x_get hx hb hts u_X11_findValley_X11 hown hE hP 0 rfl rfl 8 (by decide) (hts (.fieldLink RX11 53 "DecreasingDiagrams" "leftPaths" "LDecreasingDiagrams$SidePaths;") (List.mem_of_getElem? (i := 3) rfl)) rfl dX11_findValley_25 ?_
    refine lv_aload_n hx hb dX11_findValley_28 rfl (lv_at hl 0 rfl) ?_
    refine x_get hx hb hts u_X11_findValley_X11 hown hE hP 0 rfl rfl 1 (by decide) (hts (.fieldLink RX11 19 "DecreasingDiagrams" "system" "LDecreasingDiagrams$LabelledSystem;") (List.mem_of_getElem? (i := 2) rfl)) rfl dX11_findValley_29 ?_
    refine lv_aload_n hx hb dX11_findValley_32 rfl (lv_at hl 0 rfl) ?_
    refine x_get hx hb hts u_X11_findValley_X11 hown hE hP 0 rfl rfl 0 (by decide) (hts (.fieldLink RX11 12 "DecreasingDiagrams" "order" "LDecreasingDiagrams$LabelOrder;") (List.mem_of_getElem? (i := 4) rfl)) rfl dX11_findValley_33 ?_
    refine lv_aload_n hx hb dX11_findValley_36 rfl (lv_at hl 0 rfl) ?_
    refine x_get hx hb hts u_X11_findValley_X11 hown hE hP 0 rfl rfl 7 (by decide) (hts (.fieldLink RX11 46 "DecreasingDiagrams" "peaks" "LDecreasingDiagrams$Peaks;") (List.mem_of_getElem? (i := 1) rfl)) rfl dX11_findValley_37 ?_
    refine x_getN hx hb hts u_X11_findValley_X7 hown hE hP 10 rfl rfl 1 (by decide) (hE.2 (.fieldLinkNest RX11 202 "DecreasingDiagrams$Peaks" "firsts" "[I" RX11) (List.mem_of_getElem? (i := 29) rfl)) rfl dX11_findValley_40 ?_
    refine lv_iload_n hx hb dX11_findValley_43 rfl (lv_at hl 1 rfl) ?_
    obtain ⟨hi, hf⟩ := ck_some hf
    refine x_iald hx hb hE hP 11 rfl hi dX11_findValley_44 ?_
    refine lv_aload_n hx hb dX11_findValley_45 rfl (lv_at hl 0 rfl) ?_
    refine x_get hx hb hts u_X11_findValley_X11 hown hE hP 0 rfl rfl 7 (by decide) (hts (.fieldLink RX11 46 "DecreasingDiagrams" "peaks" "LDecreasingDiagrams$Peaks;") (List.mem_of_getElem? (i := 1) rfl)) rfl dX11_findValley_46 ?_
    refine x_getN hx hb hts u_X11_findValley_X7 hown hE hP 10 rfl rfl 2 (by decide) (hE.2 (.fieldLinkNest RX11 205 "DecreasingDiagrams$Peaks" "seconds" "[I" RX11) (List.mem_of_getElem? (i := 30) rfl)) rfl dX11_findValley_49 ?_
    refine lv_iload_n hx hb dX11_findValley_52 rfl (lv_at hl 1 rfl) ?_
    obtain ⟨hi, hf⟩ := ck_some hf
    refine x_iald hx hb hE hP 12 rfl hi dX11_findValley_53 ?_
    obtain ⟨r_54, hr_54, hf⟩ := bd_some hf
    refine x_gov (ps := [20, 21, 22, 23, 8, 9, 1, 2, 3, 4, 5, 6, 7]) (I' := [[(h, .inr (10, [.ref h_order, .ref h_system, .ref h_rules, .ref h_savedOrder, .ref h_savedSystem, .ref h_savedRules, .int snapshotSaved, .ref h_peaks, .ref h_leftPaths, .ref h_rightPaths, .ref h_text, .ref h_labellings, .ref h_input, .ref h_explorer, .ref h_arrays, .ref a_reach]))], [(h_leftPaths, .inr (9, [.int r_54.2.2.1, .int r_54.2.1, .int r_54.2.2.2.2.2.2.1, .int r_54.2.2.2.2.2.2.2.2.1, .ref a_leftPaths_objects, .ref a_leftPaths_parts, .ref a_leftPaths_lengths, .ref a_leftPaths_previous, .ref a_leftPaths_arrivals, .ref a_leftPaths_firstPlaces]))], [(a_leftPaths_arrivals, .inl (G 0, 32, .inl r_54.1))], [(a_leftPaths_firstPlaces, .inl (G 0, 16, .inl r_54.2.2.2.1))], [(a_leftPaths_lengths, .inl (G 0, 32, .inl r_54.2.2.2.2.1))], [(a_leftPaths_objects, .inl (G 0, 32, .inl r_54.2.2.2.2.2.1))], [(a_leftPaths_parts, .inl (G 0, 32, .inl r_54.2.2.2.2.2.2.2.1))], [(a_leftPaths_previous, .inl (G 0, 32, .inl r_54.2.2.2.2.2.2.2.2.2))], [(h_order, .inr (2, [.ref a_order_pairs, .ref a_order_below]))], [(a_order_below, .inl (G 0, 8, .inl order_below))], [(h_peaks, .inr (7, [.int r_8.1, .ref a_peaks_firsts, .ref a_peaks_seconds]))], [(a_peaks_firsts, .inl (G 0, 496, .inl r_8.2.1))], [(a_peaks_seconds, .inl (G 0, 496, .inl r_8.2.2))], [(h_rightPaths, .inr (9, [.int rightPaths_belowOwn, .int rightPaths_belowEither, .int rightPaths_other, .int rightPaths_places, .ref a_rightPaths_objects, .ref a_rightPaths_parts, .ref a_rightPaths_lengths, .ref a_rightPaths_previous, .ref a_rightPaths_arrivals, .ref a_rightPaths_firstPlaces]))], [(a_rightPaths_arrivals, .inl (G 0, 32, .inl rightPaths_arrivals))], [(a_rightPaths_firstPlaces, .inl (G 0, 16, .inl rightPaths_firstPlaces))], [(a_rightPaths_lengths, .inl (G 0, 32, .inl rightPaths_lengths))], [(a_rightPaths_objects, .inl (G 0, 32, .inl rightPaths_objects))], [(a_rightPaths_parts, .inl (G 0, 32, .inl rightPaths_parts))], [(a_rightPaths_previous, .inl (G 0, 32, .inl rightPaths_previous))], [(h_system, .inr (3, [.int system_objects, .ref a_system_words, .int system_steps, .ref a_system_sources, .ref a_system_targets, .ref a_system_labels]))], [(a_system_labels, .inl (G 0, 32, .inl system_labels))], [(a_system_sources, .inl (G 0, 32, .inl system_sources))], [(a_system_targets, .inl (G 0, 32, .inl system_targets))]]) (x_runVN (As := [.ref h_system, .ref h_order, .int (r_8.2.1 v1.toNatClampNeg), .int (r_8.2.2 v1.toNatClampNeg)]) (rest := []) (ps := [20, 21, 22, 23, 8, 9, 1, 2, 3, 4, 5, 6, 7]) ⟨hx, hb, hml, hown, hts⟩ (k_X9_search l D G h_leftPaths h_system h_order a_system_words a_system_sources a_system_targets a_system_labels a_order_pairs a_order_below a_leftPaths_objects a_leftPaths_parts a_leftPaths_lengths a_leftPaths_previous a_leftPaths_arrivals a_leftPaths_firstPlaces system_objects system_steps leftPaths_belowOwn leftPaths_belowEither leftPaths_other leftPaths_places system_labels system_sources system_targets order_below leftPaths_arrivals leftPaths_firstPlaces leftPaths_lengths leftPaths_objects leftPaths_parts leftPaths_previous (r_8.2.1 v1.toNatClampNeg) (r_8.2.2 v1.toNatClampNeg) r_54 hr_54) ⟨va_cnB 4 hts gX11_findValley_X9_search_n352 rfl rfl rfl (hE.2 (.methodLinkNest RX11 352 yX9_search RX11) (List.mem_of_getElem? (i := 78) rfl)) (hts (.initialized RX9) (List.mem_of_getElem? (i := 18) rfl)) (by decide +kernel) ⟨Nat.le_of_ble_eq_true rfl, Nat.le_of_ble_eq_true rfl⟩, (hts (.instanceMethod yX9_search) (List.mem_of_getElem? (i := 17) rfl)), (hts (.selects RX9 yX9_search yX9_search) (List.mem_of_getElem? (i := 19) rfl))⟩ hE hP hN rfl (by decide) 1 rfl rfl rfl hl.1 (Nat.le_of_ble_eq_true rfl) dX11_findValley_54 ⟨Nat.zero_le _, Nat.zero_le _⟩) hP hN hS rfl rfl (fun H locs hP hS => ?_)
    refine lv_aload_n hx hb dX11_findValley_57 rfl (lv_at hl 0 rfl) ?_
    refine x_get hx hb hts u_X11_findValley_X11 hown hE hP 0 rfl rfl 9 (by decide) (hts (.fieldLink RX11 57 "DecreasingDiagrams" "rightPaths" "LDecreasingDiagrams$SidePaths;") (List.mem_of_getElem? (i := 5) rfl)) rfl dX11_findValley_58 ?_
    refine lv_aload_n hx hb dX11_findValley_61 rfl (lv_at hl 0 rfl) ?_
    refine x_get hx hb hts u_X11_findValley_X11 hown hE hP 0 rfl rfl 1 (by decide) (hts (.fieldLink RX11 19 "DecreasingDiagrams" "system" "LDecreasingDiagrams$LabelledSystem;") (List.mem_of_getElem? (i := 2) rfl)) rfl dX11_findValley_62 ?_
    refine lv_aload_n hx hb dX11_findValley_65 rfl (lv_at hl 0 rfl) ?_
    refine x_get hx hb hts u_X11_findValley_X11 hown hE hP 0 rfl rfl 0 (by decide) (hts (.fieldLink RX11 12 "DecreasingDiagrams" "order" "LDecreasingDiagrams$LabelOrder;") (List.mem_of_getElem? (i := 4) rfl)) rfl dX11_findValley_66 ?_
    refine lv_aload_n hx hb dX11_findValley_69 rfl (lv_at hl 0 rfl) ?_
    refine x_get hx hb hts u_X11_findValley_X11 hown hE hP 0 rfl rfl 7 (by decide) (hts (.fieldLink RX11 46 "DecreasingDiagrams" "peaks" "LDecreasingDiagrams$Peaks;") (List.mem_of_getElem? (i := 1) rfl)) rfl dX11_findValley_70 ?_
    refine x_getN hx hb hts u_X11_findValley_X7 hown hE hP 10 rfl rfl 2 (by decide) (hE.2 (.fieldLinkNest RX11 205 "DecreasingDiagrams$Peaks" "seconds" "[I" RX11) (List.mem_of_getElem? (i := 30) rfl)) rfl dX11_findValley_73 ?_
    refine lv_iload_n hx hb dX11_findValley_76 rfl (lv_at hl 1 rfl) ?_
    obtain ⟨hi, hf⟩ := ck_some hf
    refine x_iald hx hb hE hP 12 rfl hi dX11_findValley_77 ?_
    refine lv_aload_n hx hb dX11_findValley_78 rfl (lv_at hl 0 rfl) ?_
    refine x_get hx hb hts u_X11_findValley_X11 hown hE hP 0 rfl rfl 7 (by decide) (hts (.fieldLink RX11 46 "DecreasingDiagrams" "peaks" "LDecreasingDiagrams$Peaks;") (List.mem_of_getElem? (i := 1) rfl)) rfl dX11_findValley_79 ?_
    refine x_getN hx hb hts u_X11_findValley_X7 hown hE hP 10 rfl rfl 1 (by decide) (hE.2 (.fieldLinkNest RX11 202 "DecreasingDiagrams$Peaks" "firsts" "[I" RX11) (List.mem_of_getElem? (i := 29) rfl)) rfl dX11_findValley_82 ?_
    refine lv_iload_n hx hb dX11_findValley_85 rfl (lv_at hl 1 rfl) ?_
    obtain ⟨hi, hf⟩ := ck_some hf
    refine x_iald hx hb hE hP 11 rfl hi dX11_findValley_86 ?_
    obtain ⟨r_87, hr_87, hf⟩ := bd_some hf
    refine x_gov (ps := [20, 21, 22, 23, 8, 9, 13, 14, 15, 16, 17, 18, 19]) (I' := [[(h, .inr (10, [.ref h_order, .ref h_system, .ref h_rules, .ref h_savedOrder, .ref h_savedSystem, .ref h_savedRules, .int snapshotSaved, .ref h_peaks, .ref h_leftPaths, .ref h_rightPaths, .ref h_text, .ref h_labellings, .ref h_input, .ref h_explorer, .ref h_arrays, .ref a_reach]))], [(h_leftPaths, .inr (9, [.int r_54.2.2.1, .int r_54.2.1, .int r_54.2.2.2.2.2.2.1, .int r_54.2.2.2.2.2.2.2.2.1, .ref a_leftPaths_objects, .ref a_leftPaths_parts, .ref a_leftPaths_lengths, .ref a_leftPaths_previous, .ref a_leftPaths_arrivals, .ref a_leftPaths_firstPlaces]))], [(a_leftPaths_arrivals, .inl (G 0, 32, .inl r_54.1))], [(a_leftPaths_firstPlaces, .inl (G 0, 16, .inl r_54.2.2.2.1))], [(a_leftPaths_lengths, .inl (G 0, 32, .inl r_54.2.2.2.2.1))], [(a_leftPaths_objects, .inl (G 0, 32, .inl r_54.2.2.2.2.2.1))], [(a_leftPaths_parts, .inl (G 0, 32, .inl r_54.2.2.2.2.2.2.2.1))], [(a_leftPaths_previous, .inl (G 0, 32, .inl r_54.2.2.2.2.2.2.2.2.2))], [(h_order, .inr (2, [.ref a_order_pairs, .ref a_order_below]))], [(a_order_below, .inl (G 0, 8, .inl order_below))], [(h_peaks, .inr (7, [.int r_8.1, .ref a_peaks_firsts, .ref a_peaks_seconds]))], [(a_peaks_firsts, .inl (G 0, 496, .inl r_8.2.1))], [(a_peaks_seconds, .inl (G 0, 496, .inl r_8.2.2))], [(h_rightPaths, .inr (9, [.int r_87.2.2.1, .int r_87.2.1, .int r_87.2.2.2.2.2.2.1, .int r_87.2.2.2.2.2.2.2.2.1, .ref a_rightPaths_objects, .ref a_rightPaths_parts, .ref a_rightPaths_lengths, .ref a_rightPaths_previous, .ref a_rightPaths_arrivals, .ref a_rightPaths_firstPlaces]))], [(a_rightPaths_arrivals, .inl (G 0, 32, .inl r_87.1))], [(a_rightPaths_firstPlaces, .inl (G 0, 16, .inl r_87.2.2.2.1))], [(a_rightPaths_lengths, .inl (G 0, 32, .inl r_87.2.2.2.2.1))], [(a_rightPaths_objects, .inl (G 0, 32, .inl r_87.2.2.2.2.2.1))], [(a_rightPaths_parts, .inl (G 0, 32, .inl r_87.2.2.2.2.2.2.2.1))], [(a_rightPaths_previous, .inl (G 0, 32, .inl r_87.2.2.2.2.2.2.2.2.2))], [(h_system, .inr (3, [.int system_objects, .ref a_system_words, .int system_steps, .ref a_system_sources, .ref a_system_targets, .ref a_system_labels]))], [(a_system_labels, .inl (G 0, 32, .inl system_labels))], [(a_system_sources, .inl (G 0, 32, .inl system_sources))], [(a_system_targets, .inl (G 0, 32, .inl system_targets))]]) (x_runVN (As := [.ref h_system, .ref h_order, .int (r_8.2.2 v1.toNatClampNeg), .int (r_8.2.1 v1.toNatClampNeg)]) (rest := []) (ps := [20, 21, 22, 23, 8, 9, 13, 14, 15, 16, 17, 18, 19]) ⟨hx, hb, hml, hown, hts⟩ (k_X9_search l D G h_rightPaths h_system h_order a_system_words a_system_sources a_system_targets a_system_labels a_order_pairs a_order_below a_rightPaths_objects a_rightPaths_parts a_rightPaths_lengths a_rightPaths_previous a_rightPaths_arrivals a_rightPaths_firstPlaces system_objects system_steps rightPaths_belowOwn rightPaths_belowEither rightPaths_other rightPaths_places system_labels system_sources system_targets order_below rightPaths_arrivals rightPaths_firstPlaces rightPaths_lengths rightPaths_objects rightPaths_parts rightPaths_previous (r_8.2.2 v1.toNatClampNeg) (r_8.2.1 v1.toNatClampNeg) r_87 hr_87) ⟨va_cnB 4 hts gX11_findValley_X9_search_n352 rfl rfl rfl (hE.2 (.methodLinkNest RX11 352 yX9_search RX11) (List.mem_of_getElem? (i := 78) rfl)) (hts (.initialized RX9) (List.mem_of_getElem? (i := 18) rfl)) (by decide +kernel) ⟨Nat.le_of_ble_eq_true rfl, Nat.le_of_ble_eq_true rfl⟩, (hts (.instanceMethod yX9_search) (List.mem_of_getElem? (i := 17) rfl)), (hts (.selects RX9 yX9_search yX9_search) (List.mem_of_getElem? (i := 19) rfl))⟩ hE hP hN rfl (by decide) 13 rfl rfl rfl hl.1 (Nat.le_of_ble_eq_true rfl) dX11_findValley_87 ⟨Nat.zero_le _, Nat.zero_le _⟩) hP hN hS rfl rfl (fun H locs hP hS => ?_)
    refine lv_bipush (v := -2) hx hb dX11_findValley_90 (by decide) ?_
    obtain ⟨v2_92, e_v2_92, hf⟩ := lt_some hf
    refine x_istore_n (v := v2_92) (lv' := [(2, .int v2_92), (0, .ref h), (1, .int v1)]) hx hb dX11_findValley_92 e_v2_92 rfl hl (by decide) rfl (fun ls hl => ?_)
    refine lv_ldcw (v := 2147483647) hx hb hown (hts (.constant RX11 356 (2147483647)) (List.mem_of_getElem? (i := 6) rfl)) dX11_findValley_93 ?_
    obtain ⟨v3_96, e_v3_96, hf⟩ := lt_some hf
    refine x_istore_n (v := v3_96) (lv' := [(3, .int v3_96), (2, .int v2_92), (0, .ref h), (1, .int v1)]) hx hb dX11_findValley_96 e_v3_96 rfl hl (by decide) rfl (fun ls hl => ?_)
    refine lv_iconst (v := 0) hx hb dX11_findValley_97 (by decide) ?_
    obtain ⟨v4_98, e_v4_98, hf⟩ := lt_some hf
    refine x_istore (v := v4_98) (lv' := [(4, .int v4_98), (3, .int v3_96), (2, .int v2_92), (0, .ref h), (1, .int v1)]) hx hb dX11_findValley_98 e_v4_98 hl (by decide) rfl (fun ls hl => ?_)
    exact L100 r_54.1 r_54.2.1 r_54.2.2.1 r_54.2.2.2.1 r_54.2.2.2.2.1 r_54.2.2.2.2.2.1 r_54.2.2.2.2.2.2.1 r_54.2.2.2.2.2.2.2.1 r_54.2.2.2.2.2.2.2.2.1 r_54.2.2.2.2.2.2.2.2.2 r_8.1 r_8.2.1 r_8.2.2 r_87.1 r_87.2.1 r_87.2.2.1 r_87.2.2.2.1 r_87.2.2.2.2.1 r_87.2.2.2.2.2.1 r_87.2.2.2.2.2.2.1 r_87.2.2.2.2.2.2.2.1 r_87.2.2.2.2.2.2.2.2.1 r_87.2.2.2.2.2.2.2.2.2   fuel v2_92 v3_96 v4_98 H locs ls hP hS (lv_sub hl [3, 2, 1, 0] rfl) hf
  · have hf := it_neg (fun h => h c_19) hf
    refine lv_iconst (v := -1) hx hb dX11_findValley_22 (by decide) ?_
    have hf := Option.some.inj hf
    subst hf
    subst hQ
    exact x_iret hx hb hr hlocks hP hS dX11_findValley_23

set_option maxRecDepth 20000 in
theorem u_X11_writePeak_X11 : ∀ w ∈ wsX110, w ∈ wsX11_writePeak := xx_pl _ [13, 14, 15, 16, 17, 18, 19, 20, 21, 22, 23, 24, 25, 26, 27, 28] (by decide +kernel)
set_option maxRecDepth 20000 in
theorem u_X11_writePeak_X3 : ∀ w ∈ wsX30, w ∈ wsX11_writePeak := xx_pl _ [29, 30, 31, 32, 33, 34] (by decide +kernel)
def f_X11_writePeak (text_length : Int32) (system_sources : (Nat → Int32)) (system_targets : (Nat → Int32)) (text_signs : (Nat → Int32)) (v1 : Int32) (v2 : Int32) : Option (Int32 × (Nat → Int32)) :=
  ck v1 32 ((f_X6_putNumber text_length text_signs (system_targets v1.toNatClampNeg)).bind (fun r_13 => (f_X6_putSign r_13.1 r_13.2 60).bind (fun r_22 => (f_X6_putNumber r_22.1 r_22.2 v1).bind (fun r_30 => (f_X6_putSign r_30.1 r_30.2 45).bind (fun r_39 => ck v1 32 ((f_X6_putNumber r_39.1 r_39.2 (system_sources v1.toNatClampNeg)).bind (fun r_55 => (f_X6_putSign r_55.1 r_55.2 45).bind (fun r_64 => (f_X6_putNumber r_64.1 r_64.2 v2).bind (fun r_72 => (f_X6_putSign r_72.1 r_72.2 62).bind (fun r_81 => ck v2 32 ((f_X6_putNumber r_81.1 r_81.2 (system_targets v2.toNatClampNeg)).bind (fun r_97 => some (r_97.1, r_97.2)))))))))))))
set_option maxHeartbeats 4000000 in
set_option maxRecDepth 100000 in
theorem k_X11_writePeak (l : Launch) (D : va_G) (G : Nat → ClassId) (h : Nat) (h_order : Nat) (h_system : Nat) (h_rules : Nat) (h_savedOrder : Nat) (h_savedSystem : Nat) (h_savedRules : Nat) (h_peaks : Nat) (h_leftPaths : Nat) (h_rightPaths : Nat) (h_text : Nat) (h_labellings : Nat) (h_input : Nat) (h_explorer : Nat) (h_arrays : Nat) (a_reach : Nat) (a_system_words : Nat) (a_system_sources : Nat) (a_system_targets : Nat) (a_system_labels : Nat) (a_text_signs : Nat) (snapshotSaved : Int32) (system_objects : Int32) (system_steps : Int32) (text_length : Int32) (system_sources : (Nat → Int32)) (system_targets : (Nat → Int32)) (text_signs : (Nat → Int32))  (v1 : Int32) (v2 : Int32) (out : Int32 × (Nat → Int32)) (hf : f_X11_writePeak text_length system_sources system_targets text_signs v1 v2 = some out) : xMet l yX11_writePeak wsX11_writePeak (rM 2 42) D G [.ref h, .int v1, .int v2] [[(h, .inr (10, [.ref h_order, .ref h_system, .ref h_rules, .ref h_savedOrder, .ref h_savedSystem, .ref h_savedRules, .int snapshotSaved, .ref h_peaks, .ref h_leftPaths, .ref h_rightPaths, .ref h_text, .ref h_labellings, .ref h_input, .ref h_explorer, .ref h_arrays, .ref a_reach]))], [(h_system, .inr (3, [.int system_objects, .ref a_system_words, .int system_steps, .ref a_system_sources, .ref a_system_targets, .ref a_system_labels]))], [(a_system_sources, .inl (G 0, 32, .inl system_sources))], [(a_system_targets, .inl (G 0, 32, .inl system_targets))], [(h_text, .inr (6, [.int text_length, .ref a_text_signs]))], [(a_text_signs, .inl (G 3, 202, .inl text_signs))]] (xQv D [[(h, .inr (10, [.ref h_order, .ref h_system, .ref h_rules, .ref h_savedOrder, .ref h_savedSystem, .ref h_savedRules, .int snapshotSaved, .ref h_peaks, .ref h_leftPaths, .ref h_rightPaths, .ref h_text, .ref h_labellings, .ref h_input, .ref h_explorer, .ref h_arrays, .ref a_reach]))], [(h_system, .inr (3, [.int system_objects, .ref a_system_words, .int system_steps, .ref a_system_sources, .ref a_system_targets, .ref a_system_labels]))], [(a_system_sources, .inl (G 0, 32, .inl system_sources))], [(a_system_targets, .inl (G 0, 32, .inl system_targets))], [(h_text, .inr (6, [.int out.1, .ref a_text_signs]))], [(a_text_signs, .inl (G 3, 202, .inl out.2))]]) := by
  refine x_ent (cc := cX11_writePeak) (maxL := 3) (by decide) rfl (Nat.le_of_ble_eq_true rfl) ?_
  intro p e s m below meth c aa ls args Q hQ hx hb hr hml hown hts hlocks hE hN hP hl hS
  have hown : s.vm.findClass RX11 = some m.cls := hown
  have hl : lv_has ls 3 [(0, .ref h), (1, .int v1), (2, .int v2)] := hl
  rw [f_X11_writePeak] at hf
  obtain ⟨H, hH⟩ : ∃ H : Heap, H = s.heap := ⟨_, rfl⟩
  obtain ⟨locs, hlocs⟩ : ∃ locs : List Loc, locs = [] := ⟨_, rfl⟩
  have hP : xW D aa [[(h, .inr (10, [.ref h_order, .ref h_system, .ref h_rules, .ref h_savedOrder, .ref h_savedSystem, .ref h_savedRules, .int snapshotSaved, .ref h_peaks, .ref h_leftPaths, .ref h_rightPaths, .ref h_text, .ref h_labellings, .ref h_input, .ref h_explorer, .ref h_arrays, .ref a_reach]))], [(h_system, .inr (3, [.int system_objects, .ref a_system_words, .int system_steps, .ref a_system_sources, .ref a_system_targets, .ref a_system_labels]))], [(a_system_sources, .inl (G 0, 32, .inl system_sources))], [(a_system_targets, .inl (G 0, 32, .inl system_targets))], [(h_text, .inr (6, [.int text_length, .ref a_text_signs]))], [(a_text_signs, .inl (G 3, 202, .inl text_signs))]] H := by rw [hH]; exact hP
  have hS : va_S (xA aa) s.heap H locs := by rw [hH, hlocs]; exact hS
  suffices GO : W p l e (rM 2 42) s m args below meth c H locs 0 0 Q (F0 m 0 ls []) by
    rw [hH, hlocs] at GO
    exact GO
  clear hH hlocs
  refine lv_aload_n hx hb dX11_writePeak_0 rfl (lv_at hl 0 rfl) ?_
  refine x_get hx hb hts u_X11_writePeak_X11 hown hE hP 0 rfl rfl 10 (by decide) (hts (.fieldLink RX11 63 "DecreasingDiagrams" "text" "LDecreasingDiagrams$OutputText;") (List.mem_of_getElem? (i := 1) rfl)) rfl dX11_writePeak_1 ?_
  refine lv_aload_n hx hb dX11_writePeak_4 rfl (lv_at hl 0 rfl) ?_
  refine x_get hx hb hts u_X11_writePeak_X11 hown hE hP 0 rfl rfl 1 (by decide) (hts (.fieldLink RX11 19 "DecreasingDiagrams" "system" "LDecreasingDiagrams$LabelledSystem;") (List.mem_of_getElem? (i := 2) rfl)) rfl dX11_writePeak_5 ?_
  refine x_getN hx hb hts u_X11_writePeak_X3 hown hE hP 1 rfl rfl 4 (by decide) (hE.2 (.fieldLinkNest RX11 158 "DecreasingDiagrams$LabelledSystem" "targets" "[I" RX11) (List.mem_of_getElem? (i := 17) rfl)) rfl dX11_writePeak_8 ?_
  refine lv_iload_n hx hb dX11_writePeak_11 rfl (lv_at hl 1 rfl) ?_
  obtain ⟨hi, hf⟩ := ck_some hf
  refine x_iald hx hb hE hP 3 rfl hi dX11_writePeak_12 ?_
  obtain ⟨r_13, hr_13, hf⟩ := bd_some hf
  refine x_gov (ps := [4, 5]) (I' := [[(h, .inr (10, [.ref h_order, .ref h_system, .ref h_rules, .ref h_savedOrder, .ref h_savedSystem, .ref h_savedRules, .int snapshotSaved, .ref h_peaks, .ref h_leftPaths, .ref h_rightPaths, .ref h_text, .ref h_labellings, .ref h_input, .ref h_explorer, .ref h_arrays, .ref a_reach]))], [(h_system, .inr (3, [.int system_objects, .ref a_system_words, .int system_steps, .ref a_system_sources, .ref a_system_targets, .ref a_system_labels]))], [(a_system_sources, .inl (G 0, 32, .inl system_sources))], [(a_system_targets, .inl (G 0, 32, .inl system_targets))], [(h_text, .inr (6, [.int r_13.1, .ref a_text_signs]))], [(a_text_signs, .inl (G 3, 202, .inl r_13.2))]]) (x_runVN (As := [.int (system_targets v1.toNatClampNeg)]) (rest := []) (ps := [4, 5]) ⟨hx, hb, hml, hown, hts⟩ (k_X6_putNumber l D G h_text a_text_signs text_length text_signs (system_targets v1.toNatClampNeg) r_13 hr_13) ⟨va_cnB 1 hts gX11_writePeak_X6_putNumber_n360 rfl rfl rfl (hE.2 (.methodLinkNest RX11 360 yX6_putNumber RX11) (List.mem_of_getElem? (i := 85) rfl)) (hts (.initialized RX6) (List.mem_of_getElem? (i := 4) rfl)) (by decide +kernel) ⟨Nat.le_of_ble_eq_true rfl, Nat.le_of_ble_eq_true rfl⟩, (hts (.instanceMethod yX6_putNumber) (List.mem_of_getElem? (i := 3) rfl)), (hts (.selects RX6 yX6_putNumber yX6_putNumber) (List.mem_of_getElem? (i := 5) rfl))⟩ hE hP hN rfl (by decide) 4 rfl rfl rfl hl.1 (Nat.le_of_ble_eq_true rfl) dX11_writePeak_13 ⟨Nat.zero_le _, Nat.zero_le _⟩) hP hN hS rfl rfl (fun H locs hP hS => ?_)
  refine lv_aload_n hx hb dX11_writePeak_16 rfl (lv_at hl 0 rfl) ?_
  refine x_get hx hb hts u_X11_writePeak_X11 hown hE hP 0 rfl rfl 10 (by decide) (hts (.fieldLink RX11 63 "DecreasingDiagrams" "text" "LDecreasingDiagrams$OutputText;") (List.mem_of_getElem? (i := 1) rfl)) rfl dX11_writePeak_17 ?_
  refine lv_bipush (v := 60) hx hb dX11_writePeak_20 (by decide) ?_
  obtain ⟨r_22, hr_22, hf⟩ := bd_some hf
  refine x_gov (ps := [4, 5]) (I' := [[(h, .inr (10, [.ref h_order, .ref h_system, .ref h_rules, .ref h_savedOrder, .ref h_savedSystem, .ref h_savedRules, .int snapshotSaved, .ref h_peaks, .ref h_leftPaths, .ref h_rightPaths, .ref h_text, .ref h_labellings, .ref h_input, .ref h_explorer, .ref h_arrays, .ref a_reach]))], [(h_system, .inr (3, [.int system_objects, .ref a_system_words, .int system_steps, .ref a_system_sources, .ref a_system_targets, .ref a_system_labels]))], [(a_system_sources, .inl (G 0, 32, .inl system_sources))], [(a_system_targets, .inl (G 0, 32, .inl system_targets))], [(h_text, .inr (6, [.int r_22.1, .ref a_text_signs]))], [(a_text_signs, .inl (G 3, 202, .inl r_22.2))]]) (x_runVN (As := [.int 60]) (rest := []) (ps := [4, 5]) ⟨hx, hb, hml, hown, hts⟩ (k_X6_putSign l D G h_text a_text_signs r_13.1 r_13.2 60 r_22 hr_22) ⟨va_cnB 1 hts gX11_writePeak_X6_putSign_n239 rfl rfl rfl (hE.2 (.methodLinkNest RX11 239 yX6_putSign RX11) (List.mem_of_getElem? (i := 86) rfl)) (hts (.initialized RX6) (List.mem_of_getElem? (i := 4) rfl)) (by decide +kernel) ⟨Nat.le_of_ble_eq_true rfl, Nat.le_of_ble_eq_true rfl⟩, (hts (.instanceMethod yX6_putSign) (List.mem_of_getElem? (i := 8) rfl)), (hts (.selects RX6 yX6_putSign yX6_putSign) (List.mem_of_getElem? (i := 9) rfl))⟩ hE hP hN rfl (by decide) 4 rfl rfl rfl hl.1 (Nat.le_of_ble_eq_true rfl) dX11_writePeak_22 ⟨Nat.zero_le _, Nat.zero_le _⟩) hP hN hS rfl rfl (fun H locs hP hS => ?_)
  refine lv_aload_n hx hb dX11_writePeak_25 rfl (lv_at hl 0 rfl) ?_
  refine x_get hx hb hts u_X11_writePeak_X11 hown hE hP 0 rfl rfl 10 (by decide) (hts (.fieldLink RX11 63 "DecreasingDiagrams" "text" "LDecreasingDiagrams$OutputText;") (List.mem_of_getElem? (i := 1) rfl)) rfl dX11_writePeak_26 ?_
  refine lv_iload_n hx hb dX11_writePeak_29 rfl (lv_at hl 1 rfl) ?_
  obtain ⟨r_30, hr_30, hf⟩ := bd_some hf
  refine x_gov (ps := [4, 5]) (I' := [[(h, .inr (10, [.ref h_order, .ref h_system, .ref h_rules, .ref h_savedOrder, .ref h_savedSystem, .ref h_savedRules, .int snapshotSaved, .ref h_peaks, .ref h_leftPaths, .ref h_rightPaths, .ref h_text, .ref h_labellings, .ref h_input, .ref h_explorer, .ref h_arrays, .ref a_reach]))], [(h_system, .inr (3, [.int system_objects, .ref a_system_words, .int system_steps, .ref a_system_sources, .ref a_system_targets, .ref a_system_labels]))], [(a_system_sources, .inl (G 0, 32, .inl system_sources))], [(a_system_targets, .inl (G 0, 32, .inl system_targets))], [(h_text, .inr (6, [.int r_30.1, .ref a_text_signs]))], [(a_text_signs, .inl (G 3, 202, .inl r_30.2))]]) (x_runVN (As := [.int v1]) (rest := []) (ps := [4, 5]) ⟨hx, hb, hml, hown, hts⟩ (k_X6_putNumber l D G h_text a_text_signs r_22.1 r_22.2 v1 r_30 hr_30) ⟨va_cnB 1 hts gX11_writePeak_X6_putNumber_n360 rfl rfl rfl (hE.2 (.methodLinkNest RX11 360 yX6_putNumber RX11) (List.mem_of_getElem? (i := 85) rfl)) (hts (.initialized RX6) (List.mem_of_getElem? (i := 4) rfl)) (by decide +kernel) ⟨Nat.le_of_ble_eq_true rfl, Nat.le_of_ble_eq_true rfl⟩, (hts (.instanceMethod yX6_putNumber) (List.mem_of_getElem? (i := 3) rfl)), (hts (.selects RX6 yX6_putNumber yX6_putNumber) (List.mem_of_getElem? (i := 5) rfl))⟩ hE hP hN rfl (by decide) 4 rfl rfl rfl hl.1 (Nat.le_of_ble_eq_true rfl) dX11_writePeak_30 ⟨Nat.zero_le _, Nat.zero_le _⟩) hP hN hS rfl rfl (fun H locs hP hS => ?_)
  refine lv_aload_n hx hb dX11_writePeak_33 rfl (lv_at hl 0 rfl) ?_
  refine x_get hx hb hts u_X11_writePeak_X11 hown hE hP 0 rfl rfl 10 (by decide) (hts (.fieldLink RX11 63 "DecreasingDiagrams" "text" "LDecreasingDiagrams$OutputText;") (List.mem_of_getElem? (i := 1) rfl)) rfl dX11_writePeak_34 ?_
  refine lv_bipush (v := 45) hx hb dX11_writePeak_37 (by decide) ?_
  obtain ⟨r_39, hr_39, hf⟩ := bd_some hf
  refine x_gov (ps := [4, 5]) (I' := [[(h, .inr (10, [.ref h_order, .ref h_system, .ref h_rules, .ref h_savedOrder, .ref h_savedSystem, .ref h_savedRules, .int snapshotSaved, .ref h_peaks, .ref h_leftPaths, .ref h_rightPaths, .ref h_text, .ref h_labellings, .ref h_input, .ref h_explorer, .ref h_arrays, .ref a_reach]))], [(h_system, .inr (3, [.int system_objects, .ref a_system_words, .int system_steps, .ref a_system_sources, .ref a_system_targets, .ref a_system_labels]))], [(a_system_sources, .inl (G 0, 32, .inl system_sources))], [(a_system_targets, .inl (G 0, 32, .inl system_targets))], [(h_text, .inr (6, [.int r_39.1, .ref a_text_signs]))], [(a_text_signs, .inl (G 3, 202, .inl r_39.2))]]) (x_runVN (As := [.int 45]) (rest := []) (ps := [4, 5]) ⟨hx, hb, hml, hown, hts⟩ (k_X6_putSign l D G h_text a_text_signs r_30.1 r_30.2 45 r_39 hr_39) ⟨va_cnB 1 hts gX11_writePeak_X6_putSign_n239 rfl rfl rfl (hE.2 (.methodLinkNest RX11 239 yX6_putSign RX11) (List.mem_of_getElem? (i := 86) rfl)) (hts (.initialized RX6) (List.mem_of_getElem? (i := 4) rfl)) (by decide +kernel) ⟨Nat.le_of_ble_eq_true rfl, Nat.le_of_ble_eq_true rfl⟩, (hts (.instanceMethod yX6_putSign) (List.mem_of_getElem? (i := 8) rfl)), (hts (.selects RX6 yX6_putSign yX6_putSign) (List.mem_of_getElem? (i := 9) rfl))⟩ hE hP hN rfl (by decide) 4 rfl rfl rfl hl.1 (Nat.le_of_ble_eq_true rfl) dX11_writePeak_39 ⟨Nat.zero_le _, Nat.zero_le _⟩) hP hN hS rfl rfl (fun H locs hP hS => ?_)
  refine lv_aload_n hx hb dX11_writePeak_42 rfl (lv_at hl 0 rfl) ?_
  refine x_get hx hb hts u_X11_writePeak_X11 hown hE hP 0 rfl rfl 10 (by decide) (hts (.fieldLink RX11 63 "DecreasingDiagrams" "text" "LDecreasingDiagrams$OutputText;") (List.mem_of_getElem? (i := 1) rfl)) rfl dX11_writePeak_43 ?_
  refine lv_aload_n hx hb dX11_writePeak_46 rfl (lv_at hl 0 rfl) ?_
  refine x_get hx hb hts u_X11_writePeak_X11 hown hE hP 0 rfl rfl 1 (by decide) (hts (.fieldLink RX11 19 "DecreasingDiagrams" "system" "LDecreasingDiagrams$LabelledSystem;") (List.mem_of_getElem? (i := 2) rfl)) rfl dX11_writePeak_47 ?_
  refine x_getN hx hb hts u_X11_writePeak_X3 hown hE hP 1 rfl rfl 3 (by decide) (hE.2 (.fieldLinkNest RX11 155 "DecreasingDiagrams$LabelledSystem" "sources" "[I" RX11) (List.mem_of_getElem? (i := 14) rfl)) rfl dX11_writePeak_50 ?_
  refine lv_iload_n hx hb dX11_writePeak_53 rfl (lv_at hl 1 rfl) ?_
  obtain ⟨hi, hf⟩ := ck_some hf
  refine x_iald hx hb hE hP 2 rfl hi dX11_writePeak_54 ?_
  obtain ⟨r_55, hr_55, hf⟩ := bd_some hf
  refine x_gov (ps := [4, 5]) (I' := [[(h, .inr (10, [.ref h_order, .ref h_system, .ref h_rules, .ref h_savedOrder, .ref h_savedSystem, .ref h_savedRules, .int snapshotSaved, .ref h_peaks, .ref h_leftPaths, .ref h_rightPaths, .ref h_text, .ref h_labellings, .ref h_input, .ref h_explorer, .ref h_arrays, .ref a_reach]))], [(h_system, .inr (3, [.int system_objects, .ref a_system_words, .int system_steps, .ref a_system_sources, .ref a_system_targets, .ref a_system_labels]))], [(a_system_sources, .inl (G 0, 32, .inl system_sources))], [(a_system_targets, .inl (G 0, 32, .inl system_targets))], [(h_text, .inr (6, [.int r_55.1, .ref a_text_signs]))], [(a_text_signs, .inl (G 3, 202, .inl r_55.2))]]) (x_runVN (As := [.int (system_sources v1.toNatClampNeg)]) (rest := []) (ps := [4, 5]) ⟨hx, hb, hml, hown, hts⟩ (k_X6_putNumber l D G h_text a_text_signs r_39.1 r_39.2 (system_sources v1.toNatClampNeg) r_55 hr_55) ⟨va_cnB 1 hts gX11_writePeak_X6_putNumber_n360 rfl rfl rfl (hE.2 (.methodLinkNest RX11 360 yX6_putNumber RX11) (List.mem_of_getElem? (i := 85) rfl)) (hts (.initialized RX6) (List.mem_of_getElem? (i := 4) rfl)) (by decide +kernel) ⟨Nat.le_of_ble_eq_true rfl, Nat.le_of_ble_eq_true rfl⟩, (hts (.instanceMethod yX6_putNumber) (List.mem_of_getElem? (i := 3) rfl)), (hts (.selects RX6 yX6_putNumber yX6_putNumber) (List.mem_of_getElem? (i := 5) rfl))⟩ hE hP hN rfl (by decide) 4 rfl rfl rfl hl.1 (Nat.le_of_ble_eq_true rfl) dX11_writePeak_55 ⟨Nat.zero_le _, Nat.zero_le _⟩) hP hN hS rfl rfl (fun H locs hP hS => ?_)
  refine lv_aload_n hx hb dX11_writePeak_58 rfl (lv_at hl 0 rfl) ?_
  refine x_get hx hb hts u_X11_writePeak_X11 hown hE hP 0 rfl rfl 10 (by decide) (hts (.fieldLink RX11 63 "DecreasingDiagrams" "text" "LDecreasingDiagrams$OutputText;") (List.mem_of_getElem? (i := 1) rfl)) rfl dX11_writePeak_59 ?_
  refine lv_bipush (v := 45) hx hb dX11_writePeak_62 (by decide) ?_
  obtain ⟨r_64, hr_64, hf⟩ := bd_some hf
  refine x_gov (ps := [4, 5]) (I' := [[(h, .inr (10, [.ref h_order, .ref h_system, .ref h_rules, .ref h_savedOrder, .ref h_savedSystem, .ref h_savedRules, .int snapshotSaved, .ref h_peaks, .ref h_leftPaths, .ref h_rightPaths, .ref h_text, .ref h_labellings, .ref h_input, .ref h_explorer, .ref h_arrays, .ref a_reach]))], [(h_system, .inr (3, [.int system_objects, .ref a_system_words, .int system_steps, .ref a_system_sources, .ref a_system_targets, .ref a_system_labels]))], [(a_system_sources, .inl (G 0, 32, .inl system_sources))], [(a_system_targets, .inl (G 0, 32, .inl system_targets))], [(h_text, .inr (6, [.int r_64.1, .ref a_text_signs]))], [(a_text_signs, .inl (G 3, 202, .inl r_64.2))]]) (x_runVN (As := [.int 45]) (rest := []) (ps := [4, 5]) ⟨hx, hb, hml, hown, hts⟩ (k_X6_putSign l D G h_text a_text_signs r_55.1 r_55.2 45 r_64 hr_64) ⟨va_cnB 1 hts gX11_writePeak_X6_putSign_n239 rfl rfl rfl (hE.2 (.methodLinkNest RX11 239 yX6_putSign RX11) (List.mem_of_getElem? (i := 86) rfl)) (hts (.initialized RX6) (List.mem_of_getElem? (i := 4) rfl)) (by decide +kernel) ⟨Nat.le_of_ble_eq_true rfl, Nat.le_of_ble_eq_true rfl⟩, (hts (.instanceMethod yX6_putSign) (List.mem_of_getElem? (i := 8) rfl)), (hts (.selects RX6 yX6_putSign yX6_putSign) (List.mem_of_getElem? (i := 9) rfl))⟩ hE hP hN rfl (by decide) 4 rfl rfl rfl hl.1 (Nat.le_of_ble_eq_true rfl) dX11_writePeak_64 ⟨Nat.zero_le _, Nat.zero_le _⟩) hP hN hS rfl rfl (fun H locs hP hS => ?_)
  refine lv_aload_n hx hb dX11_writePeak_67 rfl (lv_at hl 0 rfl) ?_
  refine x_get hx hb hts u_X11_writePeak_X11 hown hE hP 0 rfl rfl 10 (by decide) (hts (.fieldLink RX11 63 "DecreasingDiagrams" "text" "LDecreasingDiagrams$OutputText;") (List.mem_of_getElem? (i := 1) rfl)) rfl dX11_writePeak_68 ?_
  refine lv_iload_n hx hb dX11_writePeak_71 rfl (lv_at hl 2 rfl) ?_
  obtain ⟨r_72, hr_72, hf⟩ := bd_some hf
  refine x_gov (ps := [4, 5]) (I' := [[(h, .inr (10, [.ref h_order, .ref h_system, .ref h_rules, .ref h_savedOrder, .ref h_savedSystem, .ref h_savedRules, .int snapshotSaved, .ref h_peaks, .ref h_leftPaths, .ref h_rightPaths, .ref h_text, .ref h_labellings, .ref h_input, .ref h_explorer, .ref h_arrays, .ref a_reach]))], [(h_system, .inr (3, [.int system_objects, .ref a_system_words, .int system_steps, .ref a_system_sources, .ref a_system_targets, .ref a_system_labels]))], [(a_system_sources, .inl (G 0, 32, .inl system_sources))], [(a_system_targets, .inl (G 0, 32, .inl system_targets))], [(h_text, .inr (6, [.int r_72.1, .ref a_text_signs]))], [(a_text_signs, .inl (G 3, 202, .inl r_72.2))]]) (x_runVN (As := [.int v2]) (rest := []) (ps := [4, 5]) ⟨hx, hb, hml, hown, hts⟩ (k_X6_putNumber l D G h_text a_text_signs r_64.1 r_64.2 v2 r_72 hr_72) ⟨va_cnB 1 hts gX11_writePeak_X6_putNumber_n360 rfl rfl rfl (hE.2 (.methodLinkNest RX11 360 yX6_putNumber RX11) (List.mem_of_getElem? (i := 85) rfl)) (hts (.initialized RX6) (List.mem_of_getElem? (i := 4) rfl)) (by decide +kernel) ⟨Nat.le_of_ble_eq_true rfl, Nat.le_of_ble_eq_true rfl⟩, (hts (.instanceMethod yX6_putNumber) (List.mem_of_getElem? (i := 3) rfl)), (hts (.selects RX6 yX6_putNumber yX6_putNumber) (List.mem_of_getElem? (i := 5) rfl))⟩ hE hP hN rfl (by decide) 4 rfl rfl rfl hl.1 (Nat.le_of_ble_eq_true rfl) dX11_writePeak_72 ⟨Nat.zero_le _, Nat.zero_le _⟩) hP hN hS rfl rfl (fun H locs hP hS => ?_)
  refine lv_aload_n hx hb dX11_writePeak_75 rfl (lv_at hl 0 rfl) ?_
  refine x_get hx hb hts u_X11_writePeak_X11 hown hE hP 0 rfl rfl 10 (by decide) (hts (.fieldLink RX11 63 "DecreasingDiagrams" "text" "LDecreasingDiagrams$OutputText;") (List.mem_of_getElem? (i := 1) rfl)) rfl dX11_writePeak_76 ?_
  refine lv_bipush (v := 62) hx hb dX11_writePeak_79 (by decide) ?_
  obtain ⟨r_81, hr_81, hf⟩ := bd_some hf
  refine x_gov (ps := [4, 5]) (I' := [[(h, .inr (10, [.ref h_order, .ref h_system, .ref h_rules, .ref h_savedOrder, .ref h_savedSystem, .ref h_savedRules, .int snapshotSaved, .ref h_peaks, .ref h_leftPaths, .ref h_rightPaths, .ref h_text, .ref h_labellings, .ref h_input, .ref h_explorer, .ref h_arrays, .ref a_reach]))], [(h_system, .inr (3, [.int system_objects, .ref a_system_words, .int system_steps, .ref a_system_sources, .ref a_system_targets, .ref a_system_labels]))], [(a_system_sources, .inl (G 0, 32, .inl system_sources))], [(a_system_targets, .inl (G 0, 32, .inl system_targets))], [(h_text, .inr (6, [.int r_81.1, .ref a_text_signs]))], [(a_text_signs, .inl (G 3, 202, .inl r_81.2))]]) (x_runVN (As := [.int 62]) (rest := []) (ps := [4, 5]) ⟨hx, hb, hml, hown, hts⟩ (k_X6_putSign l D G h_text a_text_signs r_72.1 r_72.2 62 r_81 hr_81) ⟨va_cnB 1 hts gX11_writePeak_X6_putSign_n239 rfl rfl rfl (hE.2 (.methodLinkNest RX11 239 yX6_putSign RX11) (List.mem_of_getElem? (i := 86) rfl)) (hts (.initialized RX6) (List.mem_of_getElem? (i := 4) rfl)) (by decide +kernel) ⟨Nat.le_of_ble_eq_true rfl, Nat.le_of_ble_eq_true rfl⟩, (hts (.instanceMethod yX6_putSign) (List.mem_of_getElem? (i := 8) rfl)), (hts (.selects RX6 yX6_putSign yX6_putSign) (List.mem_of_getElem? (i := 9) rfl))⟩ hE hP hN rfl (by decide) 4 rfl rfl rfl hl.1 (Nat.le_of_ble_eq_true rfl) dX11_writePeak_81 ⟨Nat.zero_le _, Nat.zero_le _⟩) hP hN hS rfl rfl (fun H locs hP hS => ?_)
  refine lv_aload_n hx hb dX11_writePeak_84 rfl (lv_at hl 0 rfl) ?_
  refine x_get hx hb hts u_X11_writePeak_X11 hown hE hP 0 rfl rfl 10 (by decide) (hts (.fieldLink RX11 63 "DecreasingDiagrams" "text" "LDecreasingDiagrams$OutputText;") (List.mem_of_getElem? (i := 1) rfl)) rfl dX11_writePeak_85 ?_
  refine lv_aload_n hx hb dX11_writePeak_88 rfl (lv_at hl 0 rfl) ?_
  refine x_get hx hb hts u_X11_writePeak_X11 hown hE hP 0 rfl rfl 1 (by decide) (hts (.fieldLink RX11 19 "DecreasingDiagrams" "system" "LDecreasingDiagrams$LabelledSystem;") (List.mem_of_getElem? (i := 2) rfl)) rfl dX11_writePeak_89 ?_
  refine x_getN hx hb hts u_X11_writePeak_X3 hown hE hP 1 rfl rfl 4 (by decide) (hE.2 (.fieldLinkNest RX11 158 "DecreasingDiagrams$LabelledSystem" "targets" "[I" RX11) (List.mem_of_getElem? (i := 17) rfl)) rfl dX11_writePeak_92 ?_
  refine lv_iload_n hx hb dX11_writePeak_95 rfl (lv_at hl 2 rfl) ?_
  obtain ⟨hi, hf⟩ := ck_some hf
  refine x_iald hx hb hE hP 3 rfl hi dX11_writePeak_96 ?_
  obtain ⟨r_97, hr_97, hf⟩ := bd_some hf
  refine x_gov (ps := [4, 5]) (I' := [[(h, .inr (10, [.ref h_order, .ref h_system, .ref h_rules, .ref h_savedOrder, .ref h_savedSystem, .ref h_savedRules, .int snapshotSaved, .ref h_peaks, .ref h_leftPaths, .ref h_rightPaths, .ref h_text, .ref h_labellings, .ref h_input, .ref h_explorer, .ref h_arrays, .ref a_reach]))], [(h_system, .inr (3, [.int system_objects, .ref a_system_words, .int system_steps, .ref a_system_sources, .ref a_system_targets, .ref a_system_labels]))], [(a_system_sources, .inl (G 0, 32, .inl system_sources))], [(a_system_targets, .inl (G 0, 32, .inl system_targets))], [(h_text, .inr (6, [.int r_97.1, .ref a_text_signs]))], [(a_text_signs, .inl (G 3, 202, .inl r_97.2))]]) (x_runVN (As := [.int (system_targets v2.toNatClampNeg)]) (rest := []) (ps := [4, 5]) ⟨hx, hb, hml, hown, hts⟩ (k_X6_putNumber l D G h_text a_text_signs r_81.1 r_81.2 (system_targets v2.toNatClampNeg) r_97 hr_97) ⟨va_cnB 1 hts gX11_writePeak_X6_putNumber_n360 rfl rfl rfl (hE.2 (.methodLinkNest RX11 360 yX6_putNumber RX11) (List.mem_of_getElem? (i := 85) rfl)) (hts (.initialized RX6) (List.mem_of_getElem? (i := 4) rfl)) (by decide +kernel) ⟨Nat.le_of_ble_eq_true rfl, Nat.le_of_ble_eq_true rfl⟩, (hts (.instanceMethod yX6_putNumber) (List.mem_of_getElem? (i := 3) rfl)), (hts (.selects RX6 yX6_putNumber yX6_putNumber) (List.mem_of_getElem? (i := 5) rfl))⟩ hE hP hN rfl (by decide) 4 rfl rfl rfl hl.1 (Nat.le_of_ble_eq_true rfl) dX11_writePeak_97 ⟨Nat.zero_le _, Nat.zero_le _⟩) hP hN hS rfl rfl (fun H locs hP hS => ?_)
  have hf := Option.some.inj hf
  subst hf
  subst hQ
  exact x_vret hx hb hr hlocks hP hS dX11_writePeak_100

set_option maxRecDepth 20000 in
theorem u_X11_writePath_X11 : ∀ w ∈ wsX110, w ∈ wsX11_writePath := xx_pl _ [28, 29, 30, 31, 32, 33, 34, 35, 36, 37, 38, 39, 40, 41, 42, 43] (by decide +kernel)
def f_X11_writePath_L9 (p1_arrivals : (Nat → Int32)) (p1_firstPlaces : (Nat → Int32)) (p1_lengths : (Nat → Int32)) (p1_previous : (Nat → Int32)) (v2 : Int32) (v3 : Int32) (rec_9 : Int32 → Int32 → (Nat → Int32) → Option (Int32 × (Nat → Int32))) (v4 : Int32) (text_length : Int32) (text_signs : (Nat → Int32)) : Option (Int32 × (Nat → Int32)) :=
  if v3 ≤ v4 then (some (text_length, text_signs)) else ((f_X6_putSign text_length text_signs 46).bind (fun r_21 => (f_X9_stepTo p1_arrivals p1_firstPlaces p1_lengths p1_previous v2 v4).bind (fun r_32 => (f_X6_putNumber r_21.1 r_21.2 r_32).bind (fun r_35 => lt (v4 + 1) (fun v4_38 => rec_9 v4_38 r_35.1 r_35.2)))))
def f_X11_writePath (text_length : Int32) (p1_arrivals : (Nat → Int32)) (p1_firstPlaces : (Nat → Int32)) (p1_lengths : (Nat → Int32)) (p1_previous : (Nat → Int32)) (text_signs : (Nat → Int32)) (v2 : Int32) : Option (Int32 × (Nat → Int32)) :=
  (f_X9_lengthTo p1_firstPlaces p1_lengths v2).bind (fun r_2 => lt r_2 (fun v3_5 => lt 0 (fun v4_7 => lp (τ := Int32 → Int32 → (Nat → Int32) → Option (Int32 × (Nat → Int32))) (fun _ _ _ => none) (f_X11_writePath_L9 p1_arrivals p1_firstPlaces p1_lengths p1_previous v2 v3_5) fuel v4_7 text_length text_signs)))
set_option maxHeartbeats 4000000 in
set_option maxRecDepth 100000 in
theorem k_X11_writePath (l : Launch) (D : va_G) (G : Nat → ClassId) (h : Nat) (h_p1 : Nat) (a_p1_objects : Nat) (a_p1_parts : Nat) (a_p1_lengths : Nat) (a_p1_previous : Nat) (a_p1_arrivals : Nat) (a_p1_firstPlaces : Nat) (h_order : Nat) (h_system : Nat) (h_rules : Nat) (h_savedOrder : Nat) (h_savedSystem : Nat) (h_savedRules : Nat) (h_peaks : Nat) (h_leftPaths : Nat) (h_rightPaths : Nat) (h_text : Nat) (h_labellings : Nat) (h_input : Nat) (h_explorer : Nat) (h_arrays : Nat) (a_reach : Nat) (a_text_signs : Nat) (p1_belowOwn : Int32) (p1_belowEither : Int32) (p1_other : Int32) (p1_places : Int32) (snapshotSaved : Int32) (text_length : Int32) (p1_arrivals : (Nat → Int32)) (p1_firstPlaces : (Nat → Int32)) (p1_lengths : (Nat → Int32)) (p1_previous : (Nat → Int32)) (text_signs : (Nat → Int32))  (v2 : Int32) (out : Int32 × (Nat → Int32)) (hf : f_X11_writePath text_length p1_arrivals p1_firstPlaces p1_lengths p1_previous text_signs v2 = some out) : xMet l yX11_writePath wsX11_writePath (rM 3 67) D G [.ref h, .ref h_p1, .int v2] [[(h_p1, .inr (9, [.int p1_belowOwn, .int p1_belowEither, .int p1_other, .int p1_places, .ref a_p1_objects, .ref a_p1_parts, .ref a_p1_lengths, .ref a_p1_previous, .ref a_p1_arrivals, .ref a_p1_firstPlaces]))], [(a_p1_arrivals, .inl (G 0, 32, .inl p1_arrivals))], [(a_p1_firstPlaces, .inl (G 0, 16, .inl p1_firstPlaces))], [(a_p1_lengths, .inl (G 0, 32, .inl p1_lengths))], [(a_p1_previous, .inl (G 0, 32, .inl p1_previous))], [(h, .inr (10, [.ref h_order, .ref h_system, .ref h_rules, .ref h_savedOrder, .ref h_savedSystem, .ref h_savedRules, .int snapshotSaved, .ref h_peaks, .ref h_leftPaths, .ref h_rightPaths, .ref h_text, .ref h_labellings, .ref h_input, .ref h_explorer, .ref h_arrays, .ref a_reach]))], [(h_text, .inr (6, [.int text_length, .ref a_text_signs]))], [(a_text_signs, .inl (G 3, 202, .inl text_signs))]] (xQv D [[(h_p1, .inr (9, [.int p1_belowOwn, .int p1_belowEither, .int p1_other, .int p1_places, .ref a_p1_objects, .ref a_p1_parts, .ref a_p1_lengths, .ref a_p1_previous, .ref a_p1_arrivals, .ref a_p1_firstPlaces]))], [(a_p1_arrivals, .inl (G 0, 32, .inl p1_arrivals))], [(a_p1_firstPlaces, .inl (G 0, 16, .inl p1_firstPlaces))], [(a_p1_lengths, .inl (G 0, 32, .inl p1_lengths))], [(a_p1_previous, .inl (G 0, 32, .inl p1_previous))], [(h, .inr (10, [.ref h_order, .ref h_system, .ref h_rules, .ref h_savedOrder, .ref h_savedSystem, .ref h_savedRules, .int snapshotSaved, .ref h_peaks, .ref h_leftPaths, .ref h_rightPaths, .ref h_text, .ref h_labellings, .ref h_input, .ref h_explorer, .ref h_arrays, .ref a_reach]))], [(h_text, .inr (6, [.int out.1, .ref a_text_signs]))], [(a_text_signs, .inl (G 3, 202, .inl out.2))]]) := by
  refine x_ent (cc := cX11_writePath) (maxL := 5) (by decide) rfl (Nat.le_of_ble_eq_true rfl) ?_
  intro p e s m below meth c aa ls args Q hQ hx hb hr hml hown hts hlocks hE hN hP hl hS
  have hown : s.vm.findClass RX11 = some m.cls := hown
  have hl : lv_has ls 5 [(0, .ref h), (1, .ref h_p1), (2, .int v2)] := hl
  have L9 : ∀ (v3 : Int32), ∀ (n_9 : Nat) (v4 : Int32) (text_length : Int32) (text_signs : (Nat → Int32)) (H : Heap) (locs : List Loc) (ls : Array Slot), xW D aa [[(h_p1, .inr (9, [.int p1_belowOwn, .int p1_belowEither, .int p1_other, .int p1_places, .ref a_p1_objects, .ref a_p1_parts, .ref a_p1_lengths, .ref a_p1_previous, .ref a_p1_arrivals, .ref a_p1_firstPlaces]))], [(a_p1_arrivals, .inl (G 0, 32, .inl p1_arrivals))], [(a_p1_firstPlaces, .inl (G 0, 16, .inl p1_firstPlaces))], [(a_p1_lengths, .inl (G 0, 32, .inl p1_lengths))], [(a_p1_previous, .inl (G 0, 32, .inl p1_previous))], [(h, .inr (10, [.ref h_order, .ref h_system, .ref h_rules, .ref h_savedOrder, .ref h_savedSystem, .ref h_savedRules, .int snapshotSaved, .ref h_peaks, .ref h_leftPaths, .ref h_rightPaths, .ref h_text, .ref h_labellings, .ref h_input, .ref h_explorer, .ref h_arrays, .ref a_reach]))], [(h_text, .inr (6, [.int text_length, .ref a_text_signs]))], [(a_text_signs, .inl (G 3, 202, .inl text_signs))]] H → va_S (xA aa) s.heap H locs → lv_has ls 5 [(0, .ref h), (1, .ref h_p1), (2, .int v2), (3, .int v3), (4, .int v4)] → lp (τ := Int32 → Int32 → (Nat → Int32) → Option (Int32 × (Nat → Int32))) (fun _ _ _ => none) (f_X11_writePath_L9 p1_arrivals p1_firstPlaces p1_lengths p1_previous v2 v3) n_9 v4 text_length text_signs = some out → W p l e (rM 3 67) s m args below meth c H locs 0 0 Q (F0 m 9 ls []) := by
    intro v3   n_9
    induction n_9 with
    | zero =>
      intro v4 text_length text_signs H locs ls hP hS hl hf
      exact no_some hf
    | succ n_9 ih_9 =>
      intro v4 text_length text_signs H locs ls hP hS hl hf
      have hf : f_X11_writePath_L9 p1_arrivals p1_firstPlaces p1_lengths p1_previous v2 v3 (lp (τ := Int32 → Int32 → (Nat → Int32) → Option (Int32 × (Nat → Int32))) (fun _ _ _ => none) (f_X11_writePath_L9 p1_arrivals p1_firstPlaces p1_lengths p1_previous v2 v3) n_9) v4 text_length text_signs = some out := hf
      rw [f_X11_writePath_L9] at hf
      refine lv_iload hx hb dX11_writePath_9 (lv_at hl 4 rfl) ?_
      refine lv_iload_n hx hb dX11_writePath_11 rfl (lv_at hl 3 rfl) ?_
      refine lv_icmp_ge (tgt := 44) hx hb dX11_writePath_12 (by decide) (fun c_12 => ?_) (fun c_12 => ?_)
      · have hf := it_pos c_12 hf
        have hf := Option.some.inj hf
        subst hf
        subst hQ
        exact x_vret hx hb hr hlocks hP hS dX11_writePath_44
      · have hf := it_neg c_12 hf
        refine lv_aload_n hx hb dX11_writePath_15 rfl (lv_at hl 0 rfl) ?_
        refine x_get hx hb hts u_X11_writePath_X11 hown hE hP 5 rfl rfl 10 (by decide) (hts (.fieldLink RX11 63 "DecreasingDiagrams" "text" "LDecreasingDiagrams$OutputText;") (List.mem_of_getElem? (i := 1) rfl)) rfl dX11_writePath_16 ?_
        refine lv_bipush (v := 46) hx hb dX11_writePath_19 (by decide) ?_
        obtain ⟨r_21, hr_21, hf⟩ := bd_some hf
        refine x_gov (ps := [6, 7]) (I' := [[(h_p1, .inr (9, [.int p1_belowOwn, .int p1_belowEither, .int p1_other, .int p1_places, .ref a_p1_objects, .ref a_p1_parts, .ref a_p1_lengths, .ref a_p1_previous, .ref a_p1_arrivals, .ref a_p1_firstPlaces]))], [(a_p1_arrivals, .inl (G 0, 32, .inl p1_arrivals))], [(a_p1_firstPlaces, .inl (G 0, 16, .inl p1_firstPlaces))], [(a_p1_lengths, .inl (G 0, 32, .inl p1_lengths))], [(a_p1_previous, .inl (G 0, 32, .inl p1_previous))], [(h, .inr (10, [.ref h_order, .ref h_system, .ref h_rules, .ref h_savedOrder, .ref h_savedSystem, .ref h_savedRules, .int snapshotSaved, .ref h_peaks, .ref h_leftPaths, .ref h_rightPaths, .ref h_text, .ref h_labellings, .ref h_input, .ref h_explorer, .ref h_arrays, .ref a_reach]))], [(h_text, .inr (6, [.int r_21.1, .ref a_text_signs]))], [(a_text_signs, .inl (G 3, 202, .inl r_21.2))]]) (x_runVN (As := [.int 46]) (rest := []) (ps := [6, 7]) ⟨hx, hb, hml, hown, hts⟩ (k_X6_putSign l D G h_text a_text_signs text_length text_signs 46 r_21 hr_21) ⟨va_cnB 1 hts gX11_writePath_X6_putSign_n239 rfl rfl rfl (hE.2 (.methodLinkNest RX11 239 yX6_putSign RX11) (List.mem_of_getElem? (i := 86) rfl)) (hts (.initialized RX6) (List.mem_of_getElem? (i := 13) rfl)) (by decide +kernel) ⟨Nat.le_of_ble_eq_true rfl, Nat.le_of_ble_eq_true rfl⟩, (hts (.instanceMethod yX6_putSign) (List.mem_of_getElem? (i := 12) rfl)), (hts (.selects RX6 yX6_putSign yX6_putSign) (List.mem_of_getElem? (i := 14) rfl))⟩ hE hP hN rfl (by decide) 6 rfl rfl rfl hl.1 (Nat.le_of_ble_eq_true rfl) dX11_writePath_21 ⟨Nat.zero_le _, Nat.zero_le _⟩) hP hN hS rfl rfl (fun H locs hP hS => ?_)
        refine lv_aload_n hx hb dX11_writePath_24 rfl (lv_at hl 0 rfl) ?_
        refine x_get hx hb hts u_X11_writePath_X11 hown hE hP 5 rfl rfl 10 (by decide) (hts (.fieldLink RX11 63 "DecreasingDiagrams" "text" "LDecreasingDiagrams$OutputText;") (List.mem_of_getElem? (i := 1) rfl)) rfl dX11_writePath_25 ?_
        refine lv_aload_n hx hb dX11_writePath_28 rfl (lv_at hl 1 rfl) ?_
        refine lv_iload_n hx hb dX11_writePath_29 rfl (lv_at hl 2 rfl) ?_
        refine lv_iload hx hb dX11_writePath_30 (lv_at hl 4 rfl) ?_
        obtain ⟨r_32, hr_32, hf⟩ := bd_some hf
        refine x_goi (ps := [0, 1, 2, 3, 4]) (I' := [[(h_p1, .inr (9, [.int p1_belowOwn, .int p1_belowEither, .int p1_other, .int p1_places, .ref a_p1_objects, .ref a_p1_parts, .ref a_p1_lengths, .ref a_p1_previous, .ref a_p1_arrivals, .ref a_p1_firstPlaces]))], [(a_p1_arrivals, .inl (G 0, 32, .inl p1_arrivals))], [(a_p1_firstPlaces, .inl (G 0, 16, .inl p1_firstPlaces))], [(a_p1_lengths, .inl (G 0, 32, .inl p1_lengths))], [(a_p1_previous, .inl (G 0, 32, .inl p1_previous))], [(h, .inr (10, [.ref h_order, .ref h_system, .ref h_rules, .ref h_savedOrder, .ref h_savedSystem, .ref h_savedRules, .int snapshotSaved, .ref h_peaks, .ref h_leftPaths, .ref h_rightPaths, .ref h_text, .ref h_labellings, .ref h_input, .ref h_explorer, .ref h_arrays, .ref a_reach]))], [(h_text, .inr (6, [.int r_21.1, .ref a_text_signs]))], [(a_text_signs, .inl (G 3, 202, .inl r_21.2))]]) (x_runVN (As := [.int v2, .int v4]) (rest := [.ref h_text]) (ps := [0, 1, 2, 3, 4]) ⟨hx, hb, hml, hown, hts⟩ (k_X9_stepTo l D G h_p1 a_p1_objects a_p1_parts a_p1_lengths a_p1_previous a_p1_arrivals a_p1_firstPlaces p1_belowOwn p1_belowEither p1_other p1_places p1_arrivals p1_firstPlaces p1_lengths p1_previous v2 v4 r_32 hr_32) ⟨va_cnB 2 hts gX11_writePath_X9_stepTo_n228 rfl rfl rfl (hE.2 (.methodLinkNest RX11 228 yX9_stepTo RX11) (List.mem_of_getElem? (i := 82) rfl)) (hts (.initialized RX9) (List.mem_of_getElem? (i := 3) rfl)) (by decide +kernel) ⟨Nat.le_of_ble_eq_true rfl, Nat.le_of_ble_eq_true rfl⟩, (hts (.instanceMethod yX9_stepTo) (List.mem_of_getElem? (i := 18) rfl)), (hts (.selects RX9 yX9_stepTo yX9_stepTo) (List.mem_of_getElem? (i := 19) rfl))⟩ hE hP hN rfl (by decide) 0 rfl rfl rfl hl.1 (Nat.le_of_ble_eq_true rfl) dX11_writePath_32 ⟨Nat.zero_le _, Nat.zero_le _⟩) hP hN hS rfl rfl (fun H locs hP hS => ?_)
        obtain ⟨r_35, hr_35, hf⟩ := bd_some hf
        refine x_gov (ps := [6, 7]) (I' := [[(h_p1, .inr (9, [.int p1_belowOwn, .int p1_belowEither, .int p1_other, .int p1_places, .ref a_p1_objects, .ref a_p1_parts, .ref a_p1_lengths, .ref a_p1_previous, .ref a_p1_arrivals, .ref a_p1_firstPlaces]))], [(a_p1_arrivals, .inl (G 0, 32, .inl p1_arrivals))], [(a_p1_firstPlaces, .inl (G 0, 16, .inl p1_firstPlaces))], [(a_p1_lengths, .inl (G 0, 32, .inl p1_lengths))], [(a_p1_previous, .inl (G 0, 32, .inl p1_previous))], [(h, .inr (10, [.ref h_order, .ref h_system, .ref h_rules, .ref h_savedOrder, .ref h_savedSystem, .ref h_savedRules, .int snapshotSaved, .ref h_peaks, .ref h_leftPaths, .ref h_rightPaths, .ref h_text, .ref h_labellings, .ref h_input, .ref h_explorer, .ref h_arrays, .ref a_reach]))], [(h_text, .inr (6, [.int r_35.1, .ref a_text_signs]))], [(a_text_signs, .inl (G 3, 202, .inl r_35.2))]]) (x_runVN (As := [.int r_32]) (rest := []) (ps := [6, 7]) ⟨hx, hb, hml, hown, hts⟩ (k_X6_putNumber l D G h_text a_text_signs r_21.1 r_21.2 r_32 r_35 hr_35) ⟨va_cnB 1 hts gX11_writePath_X6_putNumber_n360 rfl rfl rfl (hE.2 (.methodLinkNest RX11 360 yX6_putNumber RX11) (List.mem_of_getElem? (i := 85) rfl)) (hts (.initialized RX6) (List.mem_of_getElem? (i := 13) rfl)) (by decide +kernel) ⟨Nat.le_of_ble_eq_true rfl, Nat.le_of_ble_eq_true rfl⟩, (hts (.instanceMethod yX6_putNumber) (List.mem_of_getElem? (i := 24) rfl)), (hts (.selects RX6 yX6_putNumber yX6_putNumber) (List.mem_of_getElem? (i := 25) rfl))⟩ hE hP hN rfl (by decide) 6 rfl rfl rfl hl.1 (Nat.le_of_ble_eq_true rfl) dX11_writePath_35 ⟨Nat.zero_le _, Nat.zero_le _⟩) hP hN hS rfl rfl (fun H locs hP hS => ?_)
        obtain ⟨v4_38, e_v4_38, hf⟩ := lt_some hf
        refine lv_iinc (v := v4_38) (lv' := [(4, .int v4_38), (0, .ref h), (1, .ref h_p1), (2, .int v2), (3, .int v3)]) hx hb dX11_writePath_38 hl (k := 4) rfl (by rw [e_v4_38]; rfl) (by decide) rfl (fun ls hl => ?_)
        refine lv_goto (tgt := 9) hx hb dX11_writePath_41 (by decide) ?_
        exact ih_9 v4_38 r_35.1 r_35.2 H locs ls hP hS (lv_sub hl [1, 2, 3, 4, 0] rfl) hf
  rw [f_X11_writePath] at hf
  obtain ⟨H, hH⟩ : ∃ H : Heap, H = s.heap := ⟨_, rfl⟩
  obtain ⟨locs, hlocs⟩ : ∃ locs : List Loc, locs = [] := ⟨_, rfl⟩
  have hP : xW D aa [[(h_p1, .inr (9, [.int p1_belowOwn, .int p1_belowEither, .int p1_other, .int p1_places, .ref a_p1_objects, .ref a_p1_parts, .ref a_p1_lengths, .ref a_p1_previous, .ref a_p1_arrivals, .ref a_p1_firstPlaces]))], [(a_p1_arrivals, .inl (G 0, 32, .inl p1_arrivals))], [(a_p1_firstPlaces, .inl (G 0, 16, .inl p1_firstPlaces))], [(a_p1_lengths, .inl (G 0, 32, .inl p1_lengths))], [(a_p1_previous, .inl (G 0, 32, .inl p1_previous))], [(h, .inr (10, [.ref h_order, .ref h_system, .ref h_rules, .ref h_savedOrder, .ref h_savedSystem, .ref h_savedRules, .int snapshotSaved, .ref h_peaks, .ref h_leftPaths, .ref h_rightPaths, .ref h_text, .ref h_labellings, .ref h_input, .ref h_explorer, .ref h_arrays, .ref a_reach]))], [(h_text, .inr (6, [.int text_length, .ref a_text_signs]))], [(a_text_signs, .inl (G 3, 202, .inl text_signs))]] H := by rw [hH]; exact hP
  have hS : va_S (xA aa) s.heap H locs := by rw [hH, hlocs]; exact hS
  suffices GO : W p l e (rM 3 67) s m args below meth c H locs 0 0 Q (F0 m 0 ls []) by
    rw [hH, hlocs] at GO
    exact GO
  clear hH hlocs
  refine lv_aload_n hx hb dX11_writePath_0 rfl (lv_at hl 1 rfl) ?_
  refine lv_iload_n hx hb dX11_writePath_1 rfl (lv_at hl 2 rfl) ?_
  obtain ⟨r_2, hr_2, hf⟩ := bd_some hf
  refine x_goi (ps := [0, 2, 3]) (I' := [[(h_p1, .inr (9, [.int p1_belowOwn, .int p1_belowEither, .int p1_other, .int p1_places, .ref a_p1_objects, .ref a_p1_parts, .ref a_p1_lengths, .ref a_p1_previous, .ref a_p1_arrivals, .ref a_p1_firstPlaces]))], [(a_p1_arrivals, .inl (G 0, 32, .inl p1_arrivals))], [(a_p1_firstPlaces, .inl (G 0, 16, .inl p1_firstPlaces))], [(a_p1_lengths, .inl (G 0, 32, .inl p1_lengths))], [(a_p1_previous, .inl (G 0, 32, .inl p1_previous))], [(h, .inr (10, [.ref h_order, .ref h_system, .ref h_rules, .ref h_savedOrder, .ref h_savedSystem, .ref h_savedRules, .int snapshotSaved, .ref h_peaks, .ref h_leftPaths, .ref h_rightPaths, .ref h_text, .ref h_labellings, .ref h_input, .ref h_explorer, .ref h_arrays, .ref a_reach]))], [(h_text, .inr (6, [.int text_length, .ref a_text_signs]))], [(a_text_signs, .inl (G 3, 202, .inl text_signs))]]) (x_runVN (As := [.int v2]) (rest := []) (ps := [0, 2, 3]) ⟨hx, hb, hml, hown, hts⟩ (k_X9_lengthTo l D G h_p1 a_p1_objects a_p1_parts a_p1_lengths a_p1_previous a_p1_arrivals a_p1_firstPlaces p1_belowOwn p1_belowEither p1_other p1_places p1_firstPlaces p1_lengths v2 r_2 hr_2) ⟨va_cnB 1 hts gX11_writePath_X9_lengthTo_n225 rfl rfl rfl (hE.2 (.methodLinkNest RX11 225 yX9_lengthTo RX11) (List.mem_of_getElem? (i := 81) rfl)) (hts (.initialized RX9) (List.mem_of_getElem? (i := 3) rfl)) (by decide +kernel) ⟨Nat.le_of_ble_eq_true rfl, Nat.le_of_ble_eq_true rfl⟩, (hts (.instanceMethod yX9_lengthTo) (List.mem_of_getElem? (i := 2) rfl)), (hts (.selects RX9 yX9_lengthTo yX9_lengthTo) (List.mem_of_getElem? (i := 4) rfl))⟩ hE hP hN rfl (by decide) 0 rfl rfl rfl hl.1 (Nat.le_of_ble_eq_true rfl) dX11_writePath_2 ⟨Nat.zero_le _, Nat.zero_le _⟩) hP hN hS rfl rfl (fun H locs hP hS => ?_)
  obtain ⟨v3_5, e_v3_5, hf⟩ := lt_some hf
  refine x_istore_n (v := v3_5) (lv' := [(3, .int v3_5), (0, .ref h), (1, .ref h_p1), (2, .int v2)]) hx hb dX11_writePath_5 e_v3_5 rfl hl (by decide) rfl (fun ls hl => ?_)
  refine lv_iconst (v := 0) hx hb dX11_writePath_6 (by decide) ?_
  obtain ⟨v4_7, e_v4_7, hf⟩ := lt_some hf
  refine x_istore (v := v4_7) (lv' := [(4, .int v4_7), (3, .int v3_5), (0, .ref h), (1, .ref h_p1), (2, .int v2)]) hx hb dX11_writePath_7 e_v4_7 hl (by decide) rfl (fun ls hl => ?_)
  exact L9 v3_5   fuel v4_7 text_length text_signs H locs ls hP hS (lv_sub hl [2, 3, 4, 1, 0] rfl) hf
