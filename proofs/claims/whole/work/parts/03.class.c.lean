def f_X11_lowestMember (v0 : Int32) : Option (Int32) :=
  (f_J6_bitCount_0f7a4 ((v0 &&& (-v0)) - 1)).bind (fun r_6 => some r_6)
set_option maxHeartbeats 4000000 in
set_option maxRecDepth 100000 in
theorem k_X11_lowestMember (l : Launch) (D : va_G) (G : Nat → ClassId) (fu : Nat)    (v0 : Int32) (out : Int32) (hf : f_X11_lowestMember v0 = some out) : xMet l yX11_lowestMember wsX11_lowestMember (rM 1 20) D G [.int v0] [] (xQi D [] out) := by
  refine x_ent (cc := cX11_lowestMember) (maxL := 1) (by decide) rfl (Nat.le_of_ble_eq_true rfl) ?_
  intro p e s m blw meth c aa ls args Q H locs hQ hx hb hr hml hown hts hlocks hE hN hl hP hS
  have hown : s.vm.findClass RX11 = some m.cls := hown
  have hl : lv_has ls 1 [(0, .int v0)] := hl
  refine lv_iload_n hx hb dX11_lowestMember_0 rfl (lv_at hl 0 rfl) ?_
  refine lv_iload_n hx hb dX11_lowestMember_1 rfl (lv_at hl 0 rfl) ?_
  refine lv_ineg hx hb dX11_lowestMember_2 ?_
  refine lv_iand hx hb dX11_lowestMember_3 ?_
  refine lv_iconst (v := 1) hx hb dX11_lowestMember_4 (by decide) ?_
  refine lv_isub hx hb dX11_lowestMember_5 ?_
  obtain ⟨r_6, hr_6, hf⟩ := bd_some hf
  refine x_goi0 (ps := []) (x_runS (As := [.int ((v0 &&& (-v0)) - 1)]) (rest := []) (ps := []) ⟨hx, hb, hml, hown, hts⟩ (k_J6_bitCount_0f7a4 l D G fu ((v0 &&& (-v0)) - 1) r_6 hr_6) (va_cwS 1 hts gX11_lowestMember_J6_bitCount_0f7a4 rfl rfl rfl (by decide +kernel) ⟨Nat.le_of_ble_eq_true rfl, Nat.le_of_ble_eq_true rfl⟩) hE hP hN rfl (by decide) rfl hl.1 (Nat.le_of_ble_eq_true rfl) dX11_lowestMember_6 ⟨Nat.zero_le _, Nat.zero_le _⟩) hP hN hS rfl (fun H locs hP hS => ?_)
  have hf := Option.some.inj hf
  rewrite [← hQ, ← hf]
  exact x_iret hx hb hr hlocks hP hS dX11_lowestMember_9

set_option maxRecDepth 20000 in
theorem u_X11_component_X11 : ∀ w ∈ wsX110, w ∈ wsX11_component := xx_pl _ [26, 27, 28, 29, 30, 31, 32, 33, 34, 35, 36, 37, 38, 39, 40, 41] (by decide +kernel)
def f_X11_component (fu : Nat) (system_objects : Int32) (system_steps : Int32) (system_sources : (Nat → Int32)) (system_targets : (Nat → Int32)) (v1 : Int32) : Option (Int32) :=
  (f_X3_hasObject system_objects v1).bind (fun r_5 => if r_5 = 0 then (some (-1)) else ((f_X3_convertible fu system_objects system_steps system_sources system_targets v1).bind (fun r_16 => (f_X11_lowestMember r_16).bind (fun r_19 => some r_19))))
set_option maxHeartbeats 4000000 in
set_option maxRecDepth 100000 in
theorem k_X11_component (l : Launch) (D : va_G) (G : Nat → ClassId) (fu : Nat) (h : Nat) (h_order : Nat) (h_system : Nat) (h_rules : Nat) (h_savedOrder : Nat) (h_savedSystem : Nat) (h_savedRules : Nat) (h_peaks : Nat) (h_leftPaths : Nat) (h_rightPaths : Nat) (h_text : Nat) (h_labellings : Nat) (h_input : Nat) (h_explorer : Nat) (h_arrays : Nat) (a_reach : Nat) (a_system_words : Nat) (a_system_sources : Nat) (a_system_targets : Nat) (a_system_labels : Nat) (snapshotSaved : Int32) (system_objects : Int32) (system_steps : Int32) (system_sources : (Nat → Int32)) (system_targets : (Nat → Int32))  (v1 : Int32) (out : Int32) (hf : f_X11_component fu system_objects system_steps system_sources system_targets v1 = some out) : xMet l yX11_component wsX11_component (rM 2 45) D G [.ref h, .int v1] [[(h, .inr (10, [.ref h_order, .ref h_system, .ref h_rules, .ref h_savedOrder, .ref h_savedSystem, .ref h_savedRules, .int snapshotSaved, .ref h_peaks, .ref h_leftPaths, .ref h_rightPaths, .ref h_text, .ref h_labellings, .ref h_input, .ref h_explorer, .ref h_arrays, .ref a_reach]))], [(h_system, .inr (3, [.int system_objects, .ref a_system_words, .int system_steps, .ref a_system_sources, .ref a_system_targets, .ref a_system_labels]))], [(a_system_sources, .inl (G 0, 32, .inl system_sources))], [(a_system_targets, .inl (G 0, 32, .inl system_targets))]] (xQi D [[(h, .inr (10, [.ref h_order, .ref h_system, .ref h_rules, .ref h_savedOrder, .ref h_savedSystem, .ref h_savedRules, .int snapshotSaved, .ref h_peaks, .ref h_leftPaths, .ref h_rightPaths, .ref h_text, .ref h_labellings, .ref h_input, .ref h_explorer, .ref h_arrays, .ref a_reach]))], [(h_system, .inr (3, [.int system_objects, .ref a_system_words, .int system_steps, .ref a_system_sources, .ref a_system_targets, .ref a_system_labels]))], [(a_system_sources, .inl (G 0, 32, .inl system_sources))], [(a_system_targets, .inl (G 0, 32, .inl system_targets))]] out) := by
  refine x_ent (cc := cX11_component) (maxL := 2) (by decide) rfl (Nat.le_of_ble_eq_true rfl) ?_
  intro p e s m blw meth c aa ls args Q H locs hQ hx hb hr hml hown hts hlocks hE hN hl hP hS
  have hown : s.vm.findClass RX11 = some m.cls := hown
  have hl : lv_has ls 2 [(0, .ref h), (1, .int v1)] := hl
  refine lv_aload_n hx hb dX11_component_0 rfl (lv_at hl 0 rfl) ?_
  refine x_get hx hb hts u_X11_component_X11 hown hE hP 0 rfl rfl 1 (by decide) (hts (.fieldLink RX11 19 "DecreasingDiagrams" "system" "LDecreasingDiagrams$LabelledSystem;") (List.mem_of_getElem? (i := 1) rfl)) rfl dX11_component_1 ?_
  refine lv_iload_n hx hb dX11_component_4 rfl (lv_at hl 1 rfl) ?_
  obtain ⟨r_5, hr_5, hf⟩ := bd_some hf
  refine x_goi0 (ps := [1]) (x_runVN (As := [.int v1]) (rest := []) (ps := [1]) ⟨hx, hb, hml, hown, hts⟩ (k_X3_hasObject l D G fu h_system a_system_words a_system_sources a_system_targets a_system_labels system_objects system_steps v1 r_5 hr_5) ⟨va_cnB 1 hts gX11_component_X3_hasObject_n128 rfl rfl rfl (hE.2 (.methodLinkNest RX11 128 yX3_hasObject RX11) (List.mem_of_getElem? (i := 61) rfl)) (hts (.initialized RX3) (List.mem_of_getElem? (i := 3) rfl)) (by decide +kernel) ⟨Nat.le_of_ble_eq_true rfl, Nat.le_of_ble_eq_true rfl⟩, (hts (.instanceMethod yX3_hasObject) (List.mem_of_getElem? (i := 2) rfl)), (hts (.selects RX3 yX3_hasObject yX3_hasObject) (List.mem_of_getElem? (i := 4) rfl))⟩ hE hP hN rfl (by decide) 1 rfl rfl rfl hl.1 (Nat.le_of_ble_eq_true rfl) dX11_component_5 ⟨Nat.zero_le _, Nat.zero_le _⟩) hP hN hS rfl (fun H locs hP hS => ?_)
  refine lv_if_eq (tgt := 25) hx hb dX11_component_8 (by decide) (fun c_8 => ?_) (fun c_8 => ?_)
  · have hf := it_pos c_8 hf
    refine lv_iconst (v := -1) hx hb dX11_component_25 (by decide) ?_
    have hf := Option.some.inj hf
    rewrite [← hQ, ← hf]
    exact x_iret hx hb hr hlocks hP hS dX11_component_26
  · have hf := it_neg c_8 hf
    refine lv_aload_n hx hb dX11_component_11 rfl (lv_at hl 0 rfl) ?_
    refine x_get hx hb hts u_X11_component_X11 hown hE hP 0 rfl rfl 1 (by decide) (hts (.fieldLink RX11 19 "DecreasingDiagrams" "system" "LDecreasingDiagrams$LabelledSystem;") (List.mem_of_getElem? (i := 1) rfl)) rfl dX11_component_12 ?_
    refine lv_iload_n hx hb dX11_component_15 rfl (lv_at hl 1 rfl) ?_
    obtain ⟨r_16, hr_16, hf⟩ := bd_some hf
    refine x_goi0 (ps := [1, 2, 3]) (x_runVN (As := [.int v1]) (rest := []) (ps := [1, 2, 3]) ⟨hx, hb, hml, hown, hts⟩ (k_X3_convertible l D G fu h_system a_system_words a_system_sources a_system_targets a_system_labels system_objects system_steps system_sources system_targets v1 r_16 hr_16) ⟨va_cnB 1 hts gX11_component_X3_convertible_n182 rfl rfl rfl (hE.2 (.methodLinkNest RX11 182 yX3_convertible RX11) (List.mem_of_getElem? (i := 69) rfl)) (hts (.initialized RX3) (List.mem_of_getElem? (i := 3) rfl)) (by decide +kernel) ⟨Nat.le_of_ble_eq_true rfl, Nat.le_of_ble_eq_true rfl⟩, (hts (.instanceMethod yX3_convertible) (List.mem_of_getElem? (i := 7) rfl)), (hts (.selects RX3 yX3_convertible yX3_convertible) (List.mem_of_getElem? (i := 8) rfl))⟩ hE hP hN rfl (by decide) 1 rfl rfl rfl hl.1 (Nat.le_of_ble_eq_true rfl) dX11_component_16 ⟨Nat.zero_le _, Nat.zero_le _⟩) hP hN hS rfl (fun H locs hP hS => ?_)
    obtain ⟨r_19, hr_19, hf⟩ := bd_some hf
    refine x_goi0 (ps := []) (x_runS (As := [.int r_16]) (rest := []) (ps := []) ⟨hx, hb, hml, hown, hts⟩ (k_X11_lowestMember l D G fu r_16 r_19 hr_19) (va_cwS 1 hts gX11_component_X11_lowestMember rfl rfl rfl (by decide +kernel) ⟨Nat.le_of_ble_eq_true rfl, Nat.le_of_ble_eq_true rfl⟩) hE hP hN rfl (by decide) rfl hl.1 (Nat.le_of_ble_eq_true rfl) dX11_component_19 ⟨Nat.zero_le _, Nat.zero_le _⟩) hP hN hS rfl (fun H locs hP hS => ?_)
    refine lv_goto (tgt := 26) hx hb dX11_component_22 (by decide) ?_
    have hf := Option.some.inj hf
    rewrite [← hQ, ← hf]
    exact x_iret hx hb hr hlocks hP hS dX11_component_26

set_option maxRecDepth 20000 in
theorem u_X11_unjoinablePair_X11 : ∀ w ∈ wsX110, w ∈ wsX11_unjoinablePair := xx_pl _ [7, 8, 9, 10, 11, 12, 13, 14, 15, 16, 17, 18, 19, 20, 21, 22] (by decide +kernel)
set_option maxRecDepth 20000 in
theorem u_X11_unjoinablePair_X3 : ∀ w ∈ wsX30, w ∈ wsX11_unjoinablePair := xx_pl _ [23, 24, 25, 26, 27, 28] (by decide +kernel)
def f_X11_unjoinablePair_J73 (rec_2 : (Int32 → Option (Int32))) (v2 : Int32) : Option (Int32) :=
  lt (v2 + 1) (fun v2_73 => rec_2 v2_73)
def f_X11_unjoinablePair_J67 (rec_17 : (Int32 → Option (Int32))) (v3 : Int32) : Option (Int32) :=
  lt (v3 + 1) (fun v3_67 => rec_17 v3_67)
def f_X11_unjoinablePair_J60  (v2 : Int32) (v3 : Int32) : Option (Int32) :=
  some ((16 * v2) + v3)
def f_X11_unjoinablePair_L17 (system_objects : Int32) (reach : (Nat → Int32)) (v1 : Int32) (v2 : Int32) (rec_2 : (Int32 → Option (Int32))) (rec_17 : Int32 → Option (Int32)) (v3 : Int32) : Option (Int32) :=
  if system_objects ≤ v3 then (f_X11_unjoinablePair_J73 rec_2 v2) else ((f_X11_isIn v1 v2).bind (fun r_30 => if r_30 = 0 then (f_X11_unjoinablePair_J67 rec_17 v3) else ((f_X11_isIn v1 v3).bind (fun r_38 => if r_38 = 0 then (f_X11_unjoinablePair_J67 rec_17 v3) else (ck v2 16 (ck v3 16 (if ¬ ((reach v2.toNatClampNeg) &&& (reach v3.toNatClampNeg)) = 0 then (f_X11_unjoinablePair_J67 rec_17 v3) else (f_X11_unjoinablePair_J60 v2 v3))))))))
def f_X11_unjoinablePair_L2 (fu : Nat) (system_objects : Int32) (reach : (Nat → Int32)) (v1 : Int32) (rec_2 : Int32 → Option (Int32)) (v2 : Int32) : Option (Int32) :=
  if system_objects ≤ v2 then (some (-2)) else (lt (v2 + 1) (fun v3_16 => lp (τ := Int32 → Option (Int32)) (fun _ => none) (f_X11_unjoinablePair_L17 system_objects reach v1 v2 rec_2) fu v3_16))
def f_X11_unjoinablePair (fu : Nat) (system_objects : Int32) (reach : (Nat → Int32)) (v1 : Int32) : Option (Int32) :=
  lt (0 : Int32) (fun v2_1 => lp (τ := Int32 → Option (Int32)) (fun _ => none) (f_X11_unjoinablePair_L2 fu system_objects reach v1) fu v2_1)
set_option maxHeartbeats 4000000 in
set_option maxRecDepth 100000 in
theorem k_X11_unjoinablePair (l : Launch) (D : va_G) (G : Nat → ClassId) (fu : Nat) (h : Nat) (h_order : Nat) (h_system : Nat) (h_rules : Nat) (h_savedOrder : Nat) (h_savedSystem : Nat) (h_savedRules : Nat) (h_peaks : Nat) (h_leftPaths : Nat) (h_rightPaths : Nat) (h_text : Nat) (h_labellings : Nat) (h_input : Nat) (h_explorer : Nat) (h_arrays : Nat) (a_reach : Nat) (a_system_words : Nat) (a_system_sources : Nat) (a_system_targets : Nat) (a_system_labels : Nat) (snapshotSaved : Int32) (system_objects : Int32) (system_steps : Int32) (reach : (Nat → Int32))  (v1 : Int32) (out : Int32) (hf : f_X11_unjoinablePair fu system_objects reach v1 = some out) : xMet l yX11_unjoinablePair wsX11_unjoinablePair (rM 1 21) D G [.ref h, .int v1] [[(h, .inr (10, [.ref h_order, .ref h_system, .ref h_rules, .ref h_savedOrder, .ref h_savedSystem, .ref h_savedRules, .int snapshotSaved, .ref h_peaks, .ref h_leftPaths, .ref h_rightPaths, .ref h_text, .ref h_labellings, .ref h_input, .ref h_explorer, .ref h_arrays, .ref a_reach]))], [(a_reach, .inl (G 0, 16, .inl reach))], [(h_system, .inr (3, [.int system_objects, .ref a_system_words, .int system_steps, .ref a_system_sources, .ref a_system_targets, .ref a_system_labels]))]] (xQi D [[(h, .inr (10, [.ref h_order, .ref h_system, .ref h_rules, .ref h_savedOrder, .ref h_savedSystem, .ref h_savedRules, .int snapshotSaved, .ref h_peaks, .ref h_leftPaths, .ref h_rightPaths, .ref h_text, .ref h_labellings, .ref h_input, .ref h_explorer, .ref h_arrays, .ref a_reach]))], [(a_reach, .inl (G 0, 16, .inl reach))], [(h_system, .inr (3, [.int system_objects, .ref a_system_words, .int system_steps, .ref a_system_sources, .ref a_system_targets, .ref a_system_labels]))]] out) := by
  refine x_ent (cc := cX11_unjoinablePair) (maxL := 4) (by decide) rfl (Nat.le_of_ble_eq_true rfl) ?_
  intro p e s m blw meth c aa ls args Q H locs hQ hx hb hr hml hown hts hlocks hE hN hl hP hS
  have hown : s.vm.findClass RX11 = some m.cls := hown
  have hl : lv_has ls 4 [(0, .ref h), (1, .int v1)] := hl
  have J60 : ∀ (v2 : Int32) (v3 : Int32) (H : Heap) (locs : List Loc) (ls : Array Slot), xW D aa [[(h, .inr (10, [.ref h_order, .ref h_system, .ref h_rules, .ref h_savedOrder, .ref h_savedSystem, .ref h_savedRules, .int snapshotSaved, .ref h_peaks, .ref h_leftPaths, .ref h_rightPaths, .ref h_text, .ref h_labellings, .ref h_input, .ref h_explorer, .ref h_arrays, .ref a_reach]))], [(a_reach, .inl (G 0, 16, .inl reach))], [(h_system, .inr (3, [.int system_objects, .ref a_system_words, .int system_steps, .ref a_system_sources, .ref a_system_targets, .ref a_system_labels]))]] H → va_S (xA aa) s.heap H locs → lv_has ls 4 [(2, .int v2), (3, .int v3)] → f_X11_unjoinablePair_J60  v2 v3 = some out → W p l e (rM 1 21) s m args blw meth c H locs 0 0 Q (F0 m 60 ls []) := by
    intro v2 v3  H locs ls  hP hS hl hf
    refine lv_bipush (v := 16) hx hb dX11_unjoinablePair_60 (by decide) ?_
    refine lv_iload_n hx hb dX11_unjoinablePair_62 rfl (lv_at hl 0 rfl) ?_
    refine lv_imul hx hb dX11_unjoinablePair_63 ?_
    refine lv_iload_n hx hb dX11_unjoinablePair_64 rfl (lv_at hl 1 rfl) ?_
    refine lv_iadd hx hb dX11_unjoinablePair_65 ?_
    have hf := Option.some.inj hf
    rewrite [← hQ, ← hf]
    exact x_iret hx hb hr hlocks hP hS dX11_unjoinablePair_66
  have L2 : ∀ (n_2 : Nat) (v2 : Int32) (H : Heap) (locs : List Loc) (ls : Array Slot), xW D aa [[(h, .inr (10, [.ref h_order, .ref h_system, .ref h_rules, .ref h_savedOrder, .ref h_savedSystem, .ref h_savedRules, .int snapshotSaved, .ref h_peaks, .ref h_leftPaths, .ref h_rightPaths, .ref h_text, .ref h_labellings, .ref h_input, .ref h_explorer, .ref h_arrays, .ref a_reach]))], [(a_reach, .inl (G 0, 16, .inl reach))], [(h_system, .inr (3, [.int system_objects, .ref a_system_words, .int system_steps, .ref a_system_sources, .ref a_system_targets, .ref a_system_labels]))]] H → va_S (xA aa) s.heap H locs → lv_has ls 4 [(0, .ref h), (1, .int v1), (2, .int v2)] → lp (τ := Int32 → Option (Int32)) (fun _ => none) (f_X11_unjoinablePair_L2 fu system_objects reach v1) n_2 v2 = some out → W p l e (rM 1 21) s m args blw meth c H locs 0 0 Q (F0 m 2 ls []) := by
    intro    n_2
    induction n_2 with
    | zero =>
      intro v2 H locs ls hP hS hl hf
      exact no_some hf
    | succ n_2 ih_2 =>
      intro v2 H locs ls hP hS hl hf
      have hf : f_X11_unjoinablePair_L2 fu system_objects reach v1 (lp (τ := Int32 → Option (Int32)) (fun _ => none) (f_X11_unjoinablePair_L2 fu system_objects reach v1) n_2) v2 = some out := hf
      have J73 : ∀ (v2 : Int32) (H : Heap) (locs : List Loc) (ls : Array Slot), xW D aa [[(h, .inr (10, [.ref h_order, .ref h_system, .ref h_rules, .ref h_savedOrder, .ref h_savedSystem, .ref h_savedRules, .int snapshotSaved, .ref h_peaks, .ref h_leftPaths, .ref h_rightPaths, .ref h_text, .ref h_labellings, .ref h_input, .ref h_explorer, .ref h_arrays, .ref a_reach]))], [(a_reach, .inl (G 0, 16, .inl reach))], [(h_system, .inr (3, [.int system_objects, .ref a_system_words, .int system_steps, .ref a_system_sources, .ref a_system_targets, .ref a_system_labels]))]] H → va_S (xA aa) s.heap H locs → lv_has ls 4 [(0, .ref h), (1, .int v1), (2, .int v2)] → f_X11_unjoinablePair_J73 (lp (τ := Int32 → Option (Int32)) (fun _ => none) (f_X11_unjoinablePair_L2 fu system_objects reach v1) n_2) v2 = some out → W p l e (rM 1 21) s m args blw meth c H locs 0 0 Q (F0 m 73 ls []) := by
        intro v2  H locs ls  hP hS hl hf
        obtain ⟨v2_73, e_v2_73, hf⟩ := lt_some hf
        refine lv_iinc (v := v2_73) (lv' := [(2, .int v2_73), (0, .ref h), (1, .int v1)]) hx hb dX11_unjoinablePair_73 hl (k := 2) rfl (by rw [e_v2_73]; rfl) (by decide) rfl (fun ls hl => ?_)
        refine lv_goto (tgt := 2) hx hb dX11_unjoinablePair_76 (by decide) ?_
        exact ih_2 v2_73 H locs ls hP hS (lv_sub hl [1, 2, 0] rfl) hf
      have L17 : ∀ (v2 : Int32), ∀ (n_17 : Nat) (v3 : Int32) (H : Heap) (locs : List Loc) (ls : Array Slot), xW D aa [[(h, .inr (10, [.ref h_order, .ref h_system, .ref h_rules, .ref h_savedOrder, .ref h_savedSystem, .ref h_savedRules, .int snapshotSaved, .ref h_peaks, .ref h_leftPaths, .ref h_rightPaths, .ref h_text, .ref h_labellings, .ref h_input, .ref h_explorer, .ref h_arrays, .ref a_reach]))], [(a_reach, .inl (G 0, 16, .inl reach))], [(h_system, .inr (3, [.int system_objects, .ref a_system_words, .int system_steps, .ref a_system_sources, .ref a_system_targets, .ref a_system_labels]))]] H → va_S (xA aa) s.heap H locs → lv_has ls 4 [(0, .ref h), (1, .int v1), (2, .int v2), (3, .int v3)] → lp (τ := Int32 → Option (Int32)) (fun _ => none) (f_X11_unjoinablePair_L17 system_objects reach v1 v2 (lp (τ := Int32 → Option (Int32)) (fun _ => none) (f_X11_unjoinablePair_L2 fu system_objects reach v1) n_2)) n_17 v3 = some out → W p l e (rM 1 21) s m args blw meth c H locs 0 0 Q (F0 m 17 ls []) := by
        intro v2   n_17
        induction n_17 with
        | zero =>
          intro v3 H locs ls hP hS hl hf
          exact no_some hf
        | succ n_17 ih_17 =>
          intro v3 H locs ls hP hS hl hf
          have hf : f_X11_unjoinablePair_L17 system_objects reach v1 v2 (lp (τ := Int32 → Option (Int32)) (fun _ => none) (f_X11_unjoinablePair_L2 fu system_objects reach v1) n_2) (lp (τ := Int32 → Option (Int32)) (fun _ => none) (f_X11_unjoinablePair_L17 system_objects reach v1 v2 (lp (τ := Int32 → Option (Int32)) (fun _ => none) (f_X11_unjoinablePair_L2 fu system_objects reach v1) n_2)) n_17) v3 = some out := hf
          have J67 : ∀ (v3 : Int32) (H : Heap) (locs : List Loc) (ls : Array Slot), xW D aa [[(h, .inr (10, [.ref h_order, .ref h_system, .ref h_rules, .ref h_savedOrder, .ref h_savedSystem, .ref h_savedRules, .int snapshotSaved, .ref h_peaks, .ref h_leftPaths, .ref h_rightPaths, .ref h_text, .ref h_labellings, .ref h_input, .ref h_explorer, .ref h_arrays, .ref a_reach]))], [(a_reach, .inl (G 0, 16, .inl reach))], [(h_system, .inr (3, [.int system_objects, .ref a_system_words, .int system_steps, .ref a_system_sources, .ref a_system_targets, .ref a_system_labels]))]] H → va_S (xA aa) s.heap H locs → lv_has ls 4 [(0, .ref h), (1, .int v1), (2, .int v2), (3, .int v3)] → f_X11_unjoinablePair_J67 (lp (τ := Int32 → Option (Int32)) (fun _ => none) (f_X11_unjoinablePair_L17 system_objects reach v1 v2 (lp (τ := Int32 → Option (Int32)) (fun _ => none) (f_X11_unjoinablePair_L2 fu system_objects reach v1) n_2)) n_17) v3 = some out → W p l e (rM 1 21) s m args blw meth c H locs 0 0 Q (F0 m 67 ls []) := by
            intro v3  H locs ls  hP hS hl hf
            obtain ⟨v3_67, e_v3_67, hf⟩ := lt_some hf
            refine lv_iinc (v := v3_67) (lv' := [(3, .int v3_67), (0, .ref h), (1, .int v1), (2, .int v2)]) hx hb dX11_unjoinablePair_67 hl (k := 3) rfl (by rw [e_v3_67]; rfl) (by decide) rfl (fun ls hl => ?_)
            refine lv_goto (tgt := 17) hx hb dX11_unjoinablePair_70 (by decide) ?_
            exact ih_17 v3_67 H locs ls hP hS (lv_sub hl [1, 2, 3, 0] rfl) hf
          refine lv_iload_n hx hb dX11_unjoinablePair_17 rfl (lv_at hl 3 rfl) ?_
          refine lv_aload_n hx hb dX11_unjoinablePair_18 rfl (lv_at hl 0 rfl) ?_
          refine x_get hx hb hts u_X11_unjoinablePair_X11 hown hE hP 0 rfl rfl 1 (by decide) (hts (.fieldLink RX11 19 "DecreasingDiagrams" "system" "LDecreasingDiagrams$LabelledSystem;") (List.mem_of_getElem? (i := 1) rfl)) rfl dX11_unjoinablePair_19 ?_
          refine x_getN hx hb hts u_X11_unjoinablePair_X3 hown hE hP 2 rfl rfl 0 (by decide) (hE.2 (.fieldLinkNest RX11 149 "DecreasingDiagrams$LabelledSystem" "objects" "I" RX11) (List.mem_of_getElem? (i := 5) rfl)) rfl dX11_unjoinablePair_22 ?_
          refine lv_icmp_ge (tgt := 73) hx hb dX11_unjoinablePair_25 (by decide) (fun c_25 => ?_) (fun c_25 => ?_)
          · have hf := it_pos c_25 hf
            exact J73 v2  H locs ls  hP hS (lv_sub hl [0, 1, 2] rfl) hf
          · have hf := it_neg c_25 hf
            refine lv_iload_n hx hb dX11_unjoinablePair_28 rfl (lv_at hl 1 rfl) ?_
            refine lv_iload_n hx hb dX11_unjoinablePair_29 rfl (lv_at hl 2 rfl) ?_
            obtain ⟨r_30, hr_30, hf⟩ := bd_some hf
            refine x_goi0 (ps := []) (x_runS (As := [.int v1, .int v2]) (rest := []) (ps := []) ⟨hx, hb, hml, hown, hts⟩ (k_X11_isIn l D G fu v1 v2 r_30 hr_30) (va_cwS 2 hts gX11_unjoinablePair_X11_isIn rfl rfl rfl (by decide +kernel) ⟨Nat.le_of_ble_eq_true rfl, Nat.le_of_ble_eq_true rfl⟩) hE hP hN rfl (by decide) rfl hl.1 (Nat.le_of_ble_eq_true rfl) dX11_unjoinablePair_30 ⟨Nat.zero_le _, Nat.zero_le _⟩) hP hN hS rfl (fun H locs hP hS => ?_)
            refine lv_if_eq (tgt := 67) hx hb dX11_unjoinablePair_33 (by decide) (fun c_33 => ?_) (fun c_33 => ?_)
            · have hf := it_pos c_33 hf
              exact J67 v3  H locs ls  hP hS (lv_sub hl [0, 1, 2, 3] rfl) hf
            · have hf := it_neg c_33 hf
              refine lv_iload_n hx hb dX11_unjoinablePair_36 rfl (lv_at hl 1 rfl) ?_
              refine lv_iload_n hx hb dX11_unjoinablePair_37 rfl (lv_at hl 3 rfl) ?_
              obtain ⟨r_38, hr_38, hf⟩ := bd_some hf
              refine x_goi0 (ps := []) (x_runS (As := [.int v1, .int v3]) (rest := []) (ps := []) ⟨hx, hb, hml, hown, hts⟩ (k_X11_isIn l D G fu v1 v3 r_38 hr_38) (va_cwS 2 hts gX11_unjoinablePair_X11_isIn rfl rfl rfl (by decide +kernel) ⟨Nat.le_of_ble_eq_true rfl, Nat.le_of_ble_eq_true rfl⟩) hE hP hN rfl (by decide) rfl hl.1 (Nat.le_of_ble_eq_true rfl) dX11_unjoinablePair_38 ⟨Nat.zero_le _, Nat.zero_le _⟩) hP hN hS rfl (fun H locs hP hS => ?_)
              refine lv_if_eq (tgt := 67) hx hb dX11_unjoinablePair_41 (by decide) (fun c_41 => ?_) (fun c_41 => ?_)
              · have hf := it_pos c_41 hf
                exact J67 v3  H locs ls  hP hS (lv_sub hl [0, 1, 2, 3] rfl) hf
              · have hf := it_neg c_41 hf
                refine lv_aload_n hx hb dX11_unjoinablePair_44 rfl (lv_at hl 0 rfl) ?_
                refine x_get hx hb hts u_X11_unjoinablePair_X11 hown hE hP 0 rfl rfl 15 (by decide) (hts (.fieldLink RX11 95 "DecreasingDiagrams" "reach" "[I") (List.mem_of_getElem? (i := 2) rfl)) rfl dX11_unjoinablePair_45 ?_
                refine lv_iload_n hx hb dX11_unjoinablePair_48 rfl (lv_at hl 2 rfl) ?_
                obtain ⟨hi, hf⟩ := ck_some hf
                refine x_iald hx hb hE hP 1 rfl hi dX11_unjoinablePair_49 ?_
                refine lv_aload_n hx hb dX11_unjoinablePair_50 rfl (lv_at hl 0 rfl) ?_
                refine x_get hx hb hts u_X11_unjoinablePair_X11 hown hE hP 0 rfl rfl 15 (by decide) (hts (.fieldLink RX11 95 "DecreasingDiagrams" "reach" "[I") (List.mem_of_getElem? (i := 2) rfl)) rfl dX11_unjoinablePair_51 ?_
                refine lv_iload_n hx hb dX11_unjoinablePair_54 rfl (lv_at hl 3 rfl) ?_
                obtain ⟨hi, hf⟩ := ck_some hf
                refine x_iald hx hb hE hP 1 rfl hi dX11_unjoinablePair_55 ?_
                refine lv_iand hx hb dX11_unjoinablePair_56 ?_
                refine lv_if_ne (tgt := 67) hx hb dX11_unjoinablePair_57 (by decide) (fun c_57 => ?_) (fun c_57 => ?_)
                · have hf := it_pos c_57 hf
                  exact J67 v3  H locs ls  hP hS (lv_sub hl [0, 1, 2, 3] rfl) hf
                · have hf := it_neg (fun h => h c_57) hf
                  exact J60 v2 v3  H locs ls  hP hS (lv_sub hl [2, 3] rfl) hf
      refine lv_iload_n hx hb dX11_unjoinablePair_2 rfl (lv_at hl 2 rfl) ?_
      refine lv_aload_n hx hb dX11_unjoinablePair_3 rfl (lv_at hl 0 rfl) ?_
      refine x_get hx hb hts u_X11_unjoinablePair_X11 hown hE hP 0 rfl rfl 1 (by decide) (hts (.fieldLink RX11 19 "DecreasingDiagrams" "system" "LDecreasingDiagrams$LabelledSystem;") (List.mem_of_getElem? (i := 1) rfl)) rfl dX11_unjoinablePair_4 ?_
      refine x_getN hx hb hts u_X11_unjoinablePair_X3 hown hE hP 2 rfl rfl 0 (by decide) (hE.2 (.fieldLinkNest RX11 149 "DecreasingDiagrams$LabelledSystem" "objects" "I" RX11) (List.mem_of_getElem? (i := 5) rfl)) rfl dX11_unjoinablePair_7 ?_
      refine lv_icmp_ge (tgt := 79) hx hb dX11_unjoinablePair_10 (by decide) (fun c_10 => ?_) (fun c_10 => ?_)
      · have hf := it_pos c_10 hf
        refine lv_bipush (v := -2) hx hb dX11_unjoinablePair_79 (by decide) ?_
        have hf := Option.some.inj hf
        rewrite [← hQ, ← hf]
        exact x_iret hx hb hr hlocks hP hS dX11_unjoinablePair_81
      · have hf := it_neg c_10 hf
        refine lv_iload_n hx hb dX11_unjoinablePair_13 rfl (lv_at hl 2 rfl) ?_
        refine lv_iconst (v := 1) hx hb dX11_unjoinablePair_14 (by decide) ?_
        refine lv_iadd hx hb dX11_unjoinablePair_15 ?_
        obtain ⟨v3_16, e_v3_16, hf⟩ := lt_some hf
        refine x_istore_n (v := v3_16) (lv' := [(3, .int v3_16), (0, .ref h), (1, .int v1), (2, .int v2)]) hx hb dX11_unjoinablePair_16 e_v3_16 rfl hl (by decide) rfl (fun ls hl => ?_)
        exact L17 v2   fu v3_16 H locs ls hP hS (lv_sub hl [1, 2, 3, 0] rfl) hf
  refine lv_iconst (v := 0) hx hb dX11_unjoinablePair_0 (by decide) ?_
  obtain ⟨v2_1, e_v2_1, hf⟩ := lt_some hf
  refine x_istore_n (v := v2_1) (lv' := [(2, .int v2_1), (0, .ref h), (1, .int v1)]) hx hb dX11_unjoinablePair_1 e_v2_1 rfl hl (by decide) rfl (fun ls hl => ?_)
  exact L2    fu v2_1 H locs ls hP hS (lv_sub hl [1, 2, 0] rfl) hf

set_option maxRecDepth 20000 in
theorem u_X11_firstCounterexample_X11 : ∀ w ∈ wsX110, w ∈ wsX11_firstCounterexample := xx_pl _ [28, 29, 30, 31, 32, 33, 34, 35, 36, 37, 38, 39, 40, 41, 42, 43] (by decide +kernel)
set_option maxRecDepth 20000 in
theorem u_X11_firstCounterexample_X3 : ∀ w ∈ wsX30, w ∈ wsX11_firstCounterexample := xx_pl _ [44, 45, 46, 47, 48, 49] (by decide +kernel)
def f_X11_firstCounterexample_J41  (v1 : Int32) (v2 : Int32) (reach : (Nat → Int32)) : Option (Int32 × (Nat → Int32)) :=
  some ((256 * v1) + v2, reach)
def f_X11_firstCounterexample_L13 (fu : Nat) (system_objects : Int32) (reach : (Nat → Int32)) (rec_13 : Int32 → Option (Int32 × (Nat → Int32))) (v1 : Int32) : Option (Int32 × (Nat → Int32)) :=
  if system_objects ≤ v1 then (some ((-2), reach)) else (ck v1 16 ((f_X11_unjoinablePair fu system_objects reach (reach v1.toNatClampNeg)).bind (fun r_31 => lt r_31 (fun v2_34 => if v2_34 = (-2) then (lt (v1 + 1) (fun v1_49 => rec_13 v1_49)) else (f_X11_firstCounterexample_J41 v1 v2_34 reach)))))
def f_X11_firstCounterexample (fu : Nat) (system_objects : Int32) (system_steps : Int32) (reach : (Nat → Int32)) (system_labels : (Nat → Int32)) (system_sources : (Nat → Int32)) (system_targets : (Nat → Int32)) : Option (Int32 × (Nat → Int32)) :=
  (f_X3_fillReach fu system_objects system_steps reach system_labels system_sources system_targets 16).bind (fun r_8 => lt (0 : Int32) (fun v1_12 => lp (τ := Int32 → Option (Int32 × (Nat → Int32))) (fun _ => none) (f_X11_firstCounterexample_L13 fu system_objects r_8) fu v1_12))
set_option maxHeartbeats 4000000 in
set_option maxRecDepth 100000 in
theorem k_X11_firstCounterexample (l : Launch) (D : va_G) (G : Nat → ClassId) (fu : Nat) (h : Nat) (h_order : Nat) (h_system : Nat) (h_rules : Nat) (h_savedOrder : Nat) (h_savedSystem : Nat) (h_savedRules : Nat) (h_peaks : Nat) (h_leftPaths : Nat) (h_rightPaths : Nat) (h_text : Nat) (h_labellings : Nat) (h_input : Nat) (h_explorer : Nat) (h_arrays : Nat) (a_reach : Nat) (a_system_words : Nat) (a_system_sources : Nat) (a_system_targets : Nat) (a_system_labels : Nat) (snapshotSaved : Int32) (system_objects : Int32) (system_steps : Int32) (reach : (Nat → Int32)) (system_labels : (Nat → Int32)) (system_sources : (Nat → Int32)) (system_targets : (Nat → Int32))   (out : Int32 × (Nat → Int32)) (hf : f_X11_firstCounterexample fu system_objects system_steps reach system_labels system_sources system_targets = some out) : xMet l yX11_firstCounterexample wsX11_firstCounterexample (rM 3 71) D G [.ref h] [[(h, .inr (10, [.ref h_order, .ref h_system, .ref h_rules, .ref h_savedOrder, .ref h_savedSystem, .ref h_savedRules, .int snapshotSaved, .ref h_peaks, .ref h_leftPaths, .ref h_rightPaths, .ref h_text, .ref h_labellings, .ref h_input, .ref h_explorer, .ref h_arrays, .ref a_reach]))], [(a_reach, .inl (G 0, 16, .inl reach))], [(h_system, .inr (3, [.int system_objects, .ref a_system_words, .int system_steps, .ref a_system_sources, .ref a_system_targets, .ref a_system_labels]))], [(a_system_labels, .inl (G 0, 32, .inl system_labels))], [(a_system_sources, .inl (G 0, 32, .inl system_sources))], [(a_system_targets, .inl (G 0, 32, .inl system_targets))]] (xQi D [[(h, .inr (10, [.ref h_order, .ref h_system, .ref h_rules, .ref h_savedOrder, .ref h_savedSystem, .ref h_savedRules, .int snapshotSaved, .ref h_peaks, .ref h_leftPaths, .ref h_rightPaths, .ref h_text, .ref h_labellings, .ref h_input, .ref h_explorer, .ref h_arrays, .ref a_reach]))], [(a_reach, .inl (G 0, 16, .inl out.2))], [(h_system, .inr (3, [.int system_objects, .ref a_system_words, .int system_steps, .ref a_system_sources, .ref a_system_targets, .ref a_system_labels]))], [(a_system_labels, .inl (G 0, 32, .inl system_labels))], [(a_system_sources, .inl (G 0, 32, .inl system_sources))], [(a_system_targets, .inl (G 0, 32, .inl system_targets))]] out.1) := by
  refine x_ent (cc := cX11_firstCounterexample) (maxL := 3) (by decide) rfl (Nat.le_of_ble_eq_true rfl) ?_
  intro p e s m blw meth c aa ls args Q H locs hQ hx hb hr hml hown hts hlocks hE hN hl hP hS
  have hown : s.vm.findClass RX11 = some m.cls := hown
  have hl : lv_has ls 3 [(0, .ref h)] := hl
  have J41 : ∀ (v1 : Int32) (v2 : Int32) (reach : (Nat → Int32)) (H : Heap) (locs : List Loc) (ls : Array Slot), xW D aa [[(h, .inr (10, [.ref h_order, .ref h_system, .ref h_rules, .ref h_savedOrder, .ref h_savedSystem, .ref h_savedRules, .int snapshotSaved, .ref h_peaks, .ref h_leftPaths, .ref h_rightPaths, .ref h_text, .ref h_labellings, .ref h_input, .ref h_explorer, .ref h_arrays, .ref a_reach]))], [(a_reach, .inl (G 0, 16, .inl reach))], [(h_system, .inr (3, [.int system_objects, .ref a_system_words, .int system_steps, .ref a_system_sources, .ref a_system_targets, .ref a_system_labels]))], [(a_system_labels, .inl (G 0, 32, .inl system_labels))], [(a_system_sources, .inl (G 0, 32, .inl system_sources))], [(a_system_targets, .inl (G 0, 32, .inl system_targets))]] H → va_S (xA aa) s.heap H locs → lv_has ls 3 [(1, .int v1), (2, .int v2)] → f_X11_firstCounterexample_J41  v1 v2 reach = some out → W p l e (rM 3 71) s m args blw meth c H locs 0 0 Q (F0 m 41 ls []) := by
    intro v1 v2 reach  H locs ls  hP hS hl hf
    refine lv_sipush (v := 256) hx hb dX11_firstCounterexample_41 (by decide) ?_
    refine lv_iload_n hx hb dX11_firstCounterexample_44 rfl (lv_at hl 0 rfl) ?_
    refine lv_imul hx hb dX11_firstCounterexample_45 ?_
    refine lv_iload_n hx hb dX11_firstCounterexample_46 rfl (lv_at hl 1 rfl) ?_
    refine lv_iadd hx hb dX11_firstCounterexample_47 ?_
    have hf := Option.some.inj hf
    rewrite [← hQ, ← hf]
    exact x_iret hx hb hr hlocks hP hS dX11_firstCounterexample_48
  have L13 : ∀ (reach : (Nat → Int32)), ∀ (n_13 : Nat) (v1 : Int32) (H : Heap) (locs : List Loc) (ls : Array Slot), xW D aa [[(h, .inr (10, [.ref h_order, .ref h_system, .ref h_rules, .ref h_savedOrder, .ref h_savedSystem, .ref h_savedRules, .int snapshotSaved, .ref h_peaks, .ref h_leftPaths, .ref h_rightPaths, .ref h_text, .ref h_labellings, .ref h_input, .ref h_explorer, .ref h_arrays, .ref a_reach]))], [(a_reach, .inl (G 0, 16, .inl reach))], [(h_system, .inr (3, [.int system_objects, .ref a_system_words, .int system_steps, .ref a_system_sources, .ref a_system_targets, .ref a_system_labels]))], [(a_system_labels, .inl (G 0, 32, .inl system_labels))], [(a_system_sources, .inl (G 0, 32, .inl system_sources))], [(a_system_targets, .inl (G 0, 32, .inl system_targets))]] H → va_S (xA aa) s.heap H locs → lv_has ls 3 [(0, .ref h), (1, .int v1)] → lp (τ := Int32 → Option (Int32 × (Nat → Int32))) (fun _ => none) (f_X11_firstCounterexample_L13 fu system_objects reach) n_13 v1 = some out → W p l e (rM 3 71) s m args blw meth c H locs 0 0 Q (F0 m 13 ls []) := by
    intro reach   n_13
    induction n_13 with
    | zero =>
      intro v1 H locs ls hP hS hl hf
      exact no_some hf
    | succ n_13 ih_13 =>
      intro v1 H locs ls hP hS hl hf
      have hf : f_X11_firstCounterexample_L13 fu system_objects reach (lp (τ := Int32 → Option (Int32 × (Nat → Int32))) (fun _ => none) (f_X11_firstCounterexample_L13 fu system_objects reach) n_13) v1 = some out := hf
      refine lv_iload_n hx hb dX11_firstCounterexample_13 rfl (lv_at hl 1 rfl) ?_
      refine lv_aload_n hx hb dX11_firstCounterexample_14 rfl (lv_at hl 0 rfl) ?_
      refine x_get hx hb hts u_X11_firstCounterexample_X11 hown hE hP 0 rfl rfl 1 (by decide) (hts (.fieldLink RX11 19 "DecreasingDiagrams" "system" "LDecreasingDiagrams$LabelledSystem;") (List.mem_of_getElem? (i := 1) rfl)) rfl dX11_firstCounterexample_15 ?_
      refine x_getN hx hb hts u_X11_firstCounterexample_X3 hown hE hP 2 rfl rfl 0 (by decide) (hE.2 (.fieldLinkNest RX11 149 "DecreasingDiagrams$LabelledSystem" "objects" "I" RX11) (List.mem_of_getElem? (i := 5) rfl)) rfl dX11_firstCounterexample_18 ?_
      refine lv_icmp_ge (tgt := 55) hx hb dX11_firstCounterexample_21 (by decide) (fun c_21 => ?_) (fun c_21 => ?_)
      · have hf := it_pos c_21 hf
        refine lv_bipush (v := -2) hx hb dX11_firstCounterexample_55 (by decide) ?_
        have hf := Option.some.inj hf
        rewrite [← hQ, ← hf]
        exact x_iret hx hb hr hlocks hP hS dX11_firstCounterexample_57
      · have hf := it_neg c_21 hf
        refine lv_aload_n hx hb dX11_firstCounterexample_24 rfl (lv_at hl 0 rfl) ?_
        refine lv_aload_n hx hb dX11_firstCounterexample_25 rfl (lv_at hl 0 rfl) ?_
        refine x_get hx hb hts u_X11_firstCounterexample_X11 hown hE hP 0 rfl rfl 15 (by decide) (hts (.fieldLink RX11 95 "DecreasingDiagrams" "reach" "[I") (List.mem_of_getElem? (i := 2) rfl)) rfl dX11_firstCounterexample_26 ?_
        refine lv_iload_n hx hb dX11_firstCounterexample_29 rfl (lv_at hl 1 rfl) ?_
        obtain ⟨hi, hf⟩ := ck_some hf
        refine x_iald hx hb hE hP 1 rfl hi dX11_firstCounterexample_30 ?_
        obtain ⟨r_31, hr_31, hf⟩ := bd_some hf
        refine x_goi0 (ps := [0, 1, 2]) (x_runV (As := [.int (reach v1.toNatClampNeg)]) (rest := []) (ps := [0, 1, 2]) ⟨hx, hb, hml, hown, hts⟩ (k_X11_unjoinablePair l D G fu h h_order h_system h_rules h_savedOrder h_savedSystem h_savedRules h_peaks h_leftPaths h_rightPaths h_text h_labellings h_input h_explorer h_arrays a_reach a_system_words a_system_sources a_system_targets a_system_labels snapshotSaved system_objects system_steps reach (reach v1.toNatClampNeg) r_31 hr_31) (cwV 1 hts gX11_firstCounterexample_X11_unjoinablePair rfl rfl rfl (by decide +kernel) ⟨Nat.le_of_ble_eq_true rfl, Nat.le_of_ble_eq_true rfl⟩) hE hP hN rfl (by decide) 0 rfl rfl rfl hl.1 (Nat.le_of_ble_eq_true rfl) dX11_firstCounterexample_31 ⟨Nat.zero_le _, Nat.zero_le _⟩) hP hN hS rfl (fun H locs hP hS => ?_)
        obtain ⟨v2_34, e_v2_34, hf⟩ := lt_some hf
        refine x_istore_n (v := v2_34) (lv' := [(2, .int v2_34), (0, .ref h), (1, .int v1)]) hx hb dX11_firstCounterexample_34 e_v2_34 rfl hl (by decide) rfl (fun ls hl => ?_)
        refine lv_iload_n hx hb dX11_firstCounterexample_35 rfl (lv_at hl 0 rfl) ?_
        refine lv_bipush (v := -2) hx hb dX11_firstCounterexample_36 (by decide) ?_
        refine lv_icmp_eq (tgt := 49) hx hb dX11_firstCounterexample_38 (by decide) (fun c_38 => ?_) (fun c_38 => ?_)
        · have hf := it_pos c_38 hf
          obtain ⟨v1_49, e_v1_49, hf⟩ := lt_some hf
          refine lv_iinc (v := v1_49) (lv' := [(1, .int v1_49), (2, .int v2_34), (0, .ref h)]) hx hb dX11_firstCounterexample_49 hl (k := 2) rfl (by rw [e_v1_49]; rfl) (by decide) rfl (fun ls hl => ?_)
          refine lv_goto (tgt := 13) hx hb dX11_firstCounterexample_52 (by decide) ?_
          exact ih_13 v1_49 H locs ls hP hS (lv_sub hl [2, 0] rfl) hf
        · have hf := it_neg c_38 hf
          exact J41 v1 v2_34 reach  H locs ls  hP hS (lv_sub hl [2, 0] rfl) hf
  refine lv_aload_n hx hb dX11_firstCounterexample_0 rfl (lv_at hl 0 rfl) ?_
  refine x_get hx hb hts u_X11_firstCounterexample_X11 hown hE hP 0 rfl rfl 1 (by decide) (hts (.fieldLink RX11 19 "DecreasingDiagrams" "system" "LDecreasingDiagrams$LabelledSystem;") (List.mem_of_getElem? (i := 1) rfl)) rfl dX11_firstCounterexample_1 ?_
  refine lv_aload_n hx hb dX11_firstCounterexample_4 rfl (lv_at hl 0 rfl) ?_
  refine x_get hx hb hts u_X11_firstCounterexample_X11 hown hE hP 0 rfl rfl 15 (by decide) (hts (.fieldLink RX11 95 "DecreasingDiagrams" "reach" "[I") (List.mem_of_getElem? (i := 2) rfl)) rfl dX11_firstCounterexample_5 ?_
  obtain ⟨r_8, hr_8, hf⟩ := bd_some hf
  refine x_gov (ps := [1, 2, 3, 4, 5]) (qs := [0]) (n := 6) (I' := [[(h, .inr (10, [.ref h_order, .ref h_system, .ref h_rules, .ref h_savedOrder, .ref h_savedSystem, .ref h_savedRules, .int snapshotSaved, .ref h_peaks, .ref h_leftPaths, .ref h_rightPaths, .ref h_text, .ref h_labellings, .ref h_input, .ref h_explorer, .ref h_arrays, .ref a_reach]))], [(a_reach, .inl (G 0, 16, .inl r_8))], [(h_system, .inr (3, [.int system_objects, .ref a_system_words, .int system_steps, .ref a_system_sources, .ref a_system_targets, .ref a_system_labels]))], [(a_system_labels, .inl (G 0, 32, .inl system_labels))], [(a_system_sources, .inl (G 0, 32, .inl system_sources))], [(a_system_targets, .inl (G 0, 32, .inl system_targets))]]) (x_runVN (As := [.ref a_reach]) (rest := []) (ps := [1, 2, 3, 4, 5]) ⟨hx, hb, hml, hown, hts⟩ (k_X3_fillReach l D G fu h_system a_reach a_system_words a_system_sources a_system_targets a_system_labels system_objects system_steps reach system_labels system_sources system_targets 16 r_8 hr_8) ⟨va_cnB 1 hts gX11_firstCounterexample_X3_fillReach_n191 rfl rfl rfl (hE.2 (.methodLinkNest RX11 191 yX3_fillReach RX11) (List.mem_of_getElem? (i := 72) rfl)) (hts (.initialized RX3) (List.mem_of_getElem? (i := 4) rfl)) (by decide +kernel) ⟨Nat.le_of_ble_eq_true rfl, Nat.le_of_ble_eq_true rfl⟩, (hts (.instanceMethod yX3_fillReach) (List.mem_of_getElem? (i := 3) rfl)), (hts (.selects RX3 yX3_fillReach yX3_fillReach) (List.mem_of_getElem? (i := 5) rfl))⟩ hE hP hN rfl (by decide) 2 rfl rfl rfl hl.1 (Nat.le_of_ble_eq_true rfl) dX11_firstCounterexample_8 ⟨Nat.zero_le _, Nat.zero_le _⟩) hP hN hS rfl rfl rfl rfl rfl (by decide) (fun H locs hP hS => ?_)
  refine lv_iconst (v := 0) hx hb dX11_firstCounterexample_11 (by decide) ?_
  obtain ⟨v1_12, e_v1_12, hf⟩ := lt_some hf
  refine x_istore_n (v := v1_12) (lv' := [(1, .int v1_12), (0, .ref h)]) hx hb dX11_firstCounterexample_12 e_v1_12 rfl hl (by decide) rfl (fun ls hl => ?_)
  exact L13 r_8   fu v1_12 H locs ls hP hS (lv_sub hl [1, 0] rfl) hf

def f_X11_counterexample (fu : Nat) (system_objects : Int32) (system_steps : Int32) (reach : (Nat → Int32)) (system_labels : (Nat → Int32)) (system_sources : (Nat → Int32)) (system_targets : (Nat → Int32)) : Option (Int32 × (Nat → Int32)) :=
  (f_X11_firstCounterexample fu system_objects system_steps reach system_labels system_sources system_targets).bind (fun r_1 => some (r_1.1, r_1.2))
set_option maxHeartbeats 4000000 in
set_option maxRecDepth 100000 in
theorem k_X11_counterexample (l : Launch) (D : va_G) (G : Nat → ClassId) (fu : Nat) (h : Nat) (h_order : Nat) (h_system : Nat) (h_rules : Nat) (h_savedOrder : Nat) (h_savedSystem : Nat) (h_savedRules : Nat) (h_peaks : Nat) (h_leftPaths : Nat) (h_rightPaths : Nat) (h_text : Nat) (h_labellings : Nat) (h_input : Nat) (h_explorer : Nat) (h_arrays : Nat) (a_reach : Nat) (a_system_words : Nat) (a_system_sources : Nat) (a_system_targets : Nat) (a_system_labels : Nat) (snapshotSaved : Int32) (system_objects : Int32) (system_steps : Int32) (reach : (Nat → Int32)) (system_labels : (Nat → Int32)) (system_sources : (Nat → Int32)) (system_targets : (Nat → Int32))   (out : Int32 × (Nat → Int32)) (hf : f_X11_counterexample fu system_objects system_steps reach system_labels system_sources system_targets = some out) : xMet l yX11_counterexample wsX11_counterexample (rM 4 93) D G [.ref h] [[(h, .inr (10, [.ref h_order, .ref h_system, .ref h_rules, .ref h_savedOrder, .ref h_savedSystem, .ref h_savedRules, .int snapshotSaved, .ref h_peaks, .ref h_leftPaths, .ref h_rightPaths, .ref h_text, .ref h_labellings, .ref h_input, .ref h_explorer, .ref h_arrays, .ref a_reach]))], [(a_reach, .inl (G 0, 16, .inl reach))], [(h_system, .inr (3, [.int system_objects, .ref a_system_words, .int system_steps, .ref a_system_sources, .ref a_system_targets, .ref a_system_labels]))], [(a_system_labels, .inl (G 0, 32, .inl system_labels))], [(a_system_sources, .inl (G 0, 32, .inl system_sources))], [(a_system_targets, .inl (G 0, 32, .inl system_targets))]] (xQi D [[(h, .inr (10, [.ref h_order, .ref h_system, .ref h_rules, .ref h_savedOrder, .ref h_savedSystem, .ref h_savedRules, .int snapshotSaved, .ref h_peaks, .ref h_leftPaths, .ref h_rightPaths, .ref h_text, .ref h_labellings, .ref h_input, .ref h_explorer, .ref h_arrays, .ref a_reach]))], [(a_reach, .inl (G 0, 16, .inl out.2))], [(h_system, .inr (3, [.int system_objects, .ref a_system_words, .int system_steps, .ref a_system_sources, .ref a_system_targets, .ref a_system_labels]))], [(a_system_labels, .inl (G 0, 32, .inl system_labels))], [(a_system_sources, .inl (G 0, 32, .inl system_sources))], [(a_system_targets, .inl (G 0, 32, .inl system_targets))]] out.1) := by
  refine x_ent (cc := cX11_counterexample) (maxL := 1) (by decide) rfl (Nat.le_of_ble_eq_true rfl) ?_
  intro p e s m blw meth c aa ls args Q H locs hQ hx hb hr hml hown hts hlocks hE hN hl hP hS
  have hown : s.vm.findClass RX11 = some m.cls := hown
  have hl : lv_has ls 1 [(0, .ref h)] := hl
  refine lv_aload_n hx hb dX11_counterexample_0 rfl (lv_at hl 0 rfl) ?_
  obtain ⟨r_1, hr_1, hf⟩ := bd_some hf
  refine x_goi (ps := [0, 1, 2, 3, 4, 5]) (qs := []) (n := 6) (I' := [[(h, .inr (10, [.ref h_order, .ref h_system, .ref h_rules, .ref h_savedOrder, .ref h_savedSystem, .ref h_savedRules, .int snapshotSaved, .ref h_peaks, .ref h_leftPaths, .ref h_rightPaths, .ref h_text, .ref h_labellings, .ref h_input, .ref h_explorer, .ref h_arrays, .ref a_reach]))], [(a_reach, .inl (G 0, 16, .inl r_1.2))], [(h_system, .inr (3, [.int system_objects, .ref a_system_words, .int system_steps, .ref a_system_sources, .ref a_system_targets, .ref a_system_labels]))], [(a_system_labels, .inl (G 0, 32, .inl system_labels))], [(a_system_sources, .inl (G 0, 32, .inl system_sources))], [(a_system_targets, .inl (G 0, 32, .inl system_targets))]]) (x_runV (As := []) (rest := []) (ps := [0, 1, 2, 3, 4, 5]) ⟨hx, hb, hml, hown, hts⟩ (k_X11_firstCounterexample l D G fu h h_order h_system h_rules h_savedOrder h_savedSystem h_savedRules h_peaks h_leftPaths h_rightPaths h_text h_labellings h_input h_explorer h_arrays a_reach a_system_words a_system_sources a_system_targets a_system_labels snapshotSaved system_objects system_steps reach system_labels system_sources system_targets r_1 hr_1) (cwV 0 hts gX11_counterexample_X11_firstCounterexample rfl rfl rfl (by decide +kernel) ⟨Nat.le_of_ble_eq_true rfl, Nat.le_of_ble_eq_true rfl⟩) hE hP hN rfl (by decide) 0 rfl rfl rfl hl.1 (Nat.le_of_ble_eq_true rfl) dX11_counterexample_1 ⟨Nat.zero_le _, Nat.zero_le _⟩) hP hN hS rfl rfl rfl rfl rfl (by decide) (fun H locs hP hS => ?_)
  have hf := Option.some.inj hf
  rewrite [← hQ, ← hf]
  exact x_iret hx hb hr hlocks hP hS dX11_counterexample_4

set_option maxRecDepth 20000 in
theorem u_X7_collect_X3 : ∀ w ∈ wsX30, w ∈ wsX7_collect := xx_pl _ [7, 8, 9, 10, 11, 12] (by decide +kernel)
set_option maxRecDepth 20000 in
theorem u_X7_collect_X7 : ∀ w ∈ wsX70, w ∈ wsX7_collect := xx_pl _ [4, 5, 6] (by decide +kernel)
def f_X7_collect_J88 (rec_7 : (Int32 → Int32 → (Nat → Int32) → (Nat → Int32) → Option (Int32 × (Nat → Int32) × (Nat → Int32)))) (v2 : Int32) (count : Int32) (firsts : (Nat → Int32)) (seconds : (Nat → Int32)) : Option (Int32 × (Nat → Int32) × (Nat → Int32)) :=
  lt (v2 + 1) (fun v2_88 => rec_7 v2_88 count firsts seconds)
def f_X7_collect_J82 (rec_19 : (Int32 → Int32 → (Nat → Int32) → (Nat → Int32) → Option (Int32 × (Nat → Int32) × (Nat → Int32)))) (v3 : Int32) (count : Int32) (firsts : (Nat → Int32)) (seconds : (Nat → Int32)) : Option (Int32 × (Nat → Int32) × (Nat → Int32)) :=
  lt (v3 + 1) (fun v3_82 => rec_19 v3_82 count firsts seconds)
def f_X7_collect_L19 (p1_steps : Int32) (p1_sources : (Nat → Int32)) (v2 : Int32) (rec_7 : (Int32 → Int32 → (Nat → Int32) → (Nat → Int32) → Option (Int32 × (Nat → Int32) × (Nat → Int32)))) (rec_19 : Int32 → Int32 → (Nat → Int32) → (Nat → Int32) → Option (Int32 × (Nat → Int32) × (Nat → Int32))) (v3 : Int32) (count : Int32) (firsts : (Nat → Int32)) (seconds : (Nat → Int32)) : Option (Int32 × (Nat → Int32) × (Nat → Int32)) :=
  if p1_steps ≤ v3 then (f_X7_collect_J88 rec_7 v2 count firsts seconds) else (ck v2 32 (ck v3 32 (if ¬ (p1_sources v2.toNatClampNeg) = (p1_sources v3.toNatClampNeg) then (f_X7_collect_J82 rec_19 v3 count firsts seconds) else (if 496 ≤ count then (f_X7_collect_J82 rec_19 v3 count firsts seconds) else (ck count 496 (lt (upd firsts count.toNatClampNeg v2) (fun firsts_61 => ck count 496 (lt (upd seconds count.toNatClampNeg v3) (fun seconds_71 => lt (count + 1) (fun count_79 => f_X7_collect_J82 rec_19 v3 count_79 firsts_61 seconds_71))))))))))
def f_X7_collect_L7 (fu : Nat) (p1_steps : Int32) (p1_sources : (Nat → Int32)) (rec_7 : Int32 → Int32 → (Nat → Int32) → (Nat → Int32) → Option (Int32 × (Nat → Int32) × (Nat → Int32))) (v2 : Int32) (count : Int32) (firsts : (Nat → Int32)) (seconds : (Nat → Int32)) : Option (Int32 × (Nat → Int32) × (Nat → Int32)) :=
  if p1_steps ≤ v2 then (some (count, firsts, seconds)) else (lt (v2 + 1) (fun v3_18 => lp (τ := Int32 → Int32 → (Nat → Int32) → (Nat → Int32) → Option (Int32 × (Nat → Int32) × (Nat → Int32))) (fun _ _ _ _ => none) (f_X7_collect_L19 p1_steps p1_sources v2 rec_7) fu v3_18 count firsts seconds))
def f_X7_collect (fu : Nat) (p1_steps : Int32) (p1_sources : (Nat → Int32)) (firsts : (Nat → Int32)) (seconds : (Nat → Int32)) : Option (Int32 × (Nat → Int32) × (Nat → Int32)) :=
  lt (0 : Int32) (fun count_2 => lt (0 : Int32) (fun v2_6 => lp (τ := Int32 → Int32 → (Nat → Int32) → (Nat → Int32) → Option (Int32 × (Nat → Int32) × (Nat → Int32))) (fun _ _ _ _ => none) (f_X7_collect_L7 fu p1_steps p1_sources) fu v2_6 count_2 firsts seconds))
set_option maxHeartbeats 4000000 in
set_option maxRecDepth 100000 in
theorem k_X7_collect (l : Launch) (D : va_G) (G : Nat → ClassId) (fu : Nat) (h : Nat) (h_p1 : Nat) (a_p1_words : Nat) (a_p1_sources : Nat) (a_p1_targets : Nat) (a_p1_labels : Nat) (a_firsts : Nat) (a_seconds : Nat) (p1_objects : Int32) (p1_steps : Int32) (count : Int32) (p1_sources : (Nat → Int32)) (firsts : (Nat → Int32)) (seconds : (Nat → Int32))   (out : Int32 × (Nat → Int32) × (Nat → Int32)) (hf : f_X7_collect fu p1_steps p1_sources firsts seconds = some out) : xMet l yX7_collect wsX7_collect (rM 0 0) D G [.ref h, .ref h_p1] [[(h_p1, .inr (3, [.int p1_objects, .ref a_p1_words, .int p1_steps, .ref a_p1_sources, .ref a_p1_targets, .ref a_p1_labels]))], [(a_p1_sources, .inl (G 0, 32, .inl p1_sources))], [(h, .inr (7, [.int count, .ref a_firsts, .ref a_seconds]))], [(a_firsts, .inl (G 0, 496, .inl firsts))], [(a_seconds, .inl (G 0, 496, .inl seconds))]] (xQv D [[(h_p1, .inr (3, [.int p1_objects, .ref a_p1_words, .int p1_steps, .ref a_p1_sources, .ref a_p1_targets, .ref a_p1_labels]))], [(a_p1_sources, .inl (G 0, 32, .inl p1_sources))], [(h, .inr (7, [.int out.1, .ref a_firsts, .ref a_seconds]))], [(a_firsts, .inl (G 0, 496, .inl out.2.1))], [(a_seconds, .inl (G 0, 496, .inl out.2.2))]]) := by
  refine x_ent (cc := cX7_collect) (maxL := 4) (by decide) rfl (Nat.le_of_ble_eq_true rfl) ?_
  intro p e s m blw meth c aa ls args Q H locs hQ hx hb hr hml hown hts hlocks hE hN hl hP hS
  have hown : s.vm.findClass RX7 = some m.cls := hown
  have hl : lv_has ls 4 [(0, .ref h), (1, .ref h_p1)] := hl
  have L7 : ∀ (n_7 : Nat) (v2 : Int32) (count : Int32) (firsts : (Nat → Int32)) (seconds : (Nat → Int32)) (H : Heap) (locs : List Loc) (ls : Array Slot), xW D aa [[(h_p1, .inr (3, [.int p1_objects, .ref a_p1_words, .int p1_steps, .ref a_p1_sources, .ref a_p1_targets, .ref a_p1_labels]))], [(a_p1_sources, .inl (G 0, 32, .inl p1_sources))], [(h, .inr (7, [.int count, .ref a_firsts, .ref a_seconds]))], [(a_firsts, .inl (G 0, 496, .inl firsts))], [(a_seconds, .inl (G 0, 496, .inl seconds))]] H → va_S (xA aa) s.heap H locs → lv_has ls 4 [(0, .ref h), (1, .ref h_p1), (2, .int v2)] → lp (τ := Int32 → Int32 → (Nat → Int32) → (Nat → Int32) → Option (Int32 × (Nat → Int32) × (Nat → Int32))) (fun _ _ _ _ => none) (f_X7_collect_L7 fu p1_steps p1_sources) n_7 v2 count firsts seconds = some out → W p l e (rM 0 0) s m args blw meth c H locs 0 0 Q (F0 m 7 ls []) := by
    intro    n_7
    induction n_7 with
    | zero =>
      intro v2 count firsts seconds H locs ls hP hS hl hf
      exact no_some hf
    | succ n_7 ih_7 =>
      intro v2 count firsts seconds H locs ls hP hS hl hf
      have hf : f_X7_collect_L7 fu p1_steps p1_sources (lp (τ := Int32 → Int32 → (Nat → Int32) → (Nat → Int32) → Option (Int32 × (Nat → Int32) × (Nat → Int32))) (fun _ _ _ _ => none) (f_X7_collect_L7 fu p1_steps p1_sources) n_7) v2 count firsts seconds = some out := hf
      have J88 : ∀ (v2 : Int32) (count : Int32) (firsts : (Nat → Int32)) (seconds : (Nat → Int32)) (H : Heap) (locs : List Loc) (ls : Array Slot), xW D aa [[(h_p1, .inr (3, [.int p1_objects, .ref a_p1_words, .int p1_steps, .ref a_p1_sources, .ref a_p1_targets, .ref a_p1_labels]))], [(a_p1_sources, .inl (G 0, 32, .inl p1_sources))], [(h, .inr (7, [.int count, .ref a_firsts, .ref a_seconds]))], [(a_firsts, .inl (G 0, 496, .inl firsts))], [(a_seconds, .inl (G 0, 496, .inl seconds))]] H → va_S (xA aa) s.heap H locs → lv_has ls 4 [(0, .ref h), (1, .ref h_p1), (2, .int v2)] → f_X7_collect_J88 (lp (τ := Int32 → Int32 → (Nat → Int32) → (Nat → Int32) → Option (Int32 × (Nat → Int32) × (Nat → Int32))) (fun _ _ _ _ => none) (f_X7_collect_L7 fu p1_steps p1_sources) n_7) v2 count firsts seconds = some out → W p l e (rM 0 0) s m args blw meth c H locs 0 0 Q (F0 m 88 ls []) := by
        intro v2 count firsts seconds  H locs ls  hP hS hl hf
        obtain ⟨v2_88, e_v2_88, hf⟩ := lt_some hf
        refine lv_iinc (v := v2_88) (lv' := [(2, .int v2_88), (0, .ref h), (1, .ref h_p1)]) hx hb dX7_collect_88 hl (k := 2) rfl (by rw [e_v2_88]; rfl) (by decide) rfl (fun ls hl => ?_)
        refine lv_goto (tgt := 7) hx hb dX7_collect_91 (by decide) ?_
        exact ih_7 v2_88 count firsts seconds H locs ls hP hS (lv_sub hl [1, 2, 0] rfl) hf
      have L19 : ∀ (v2 : Int32), ∀ (n_19 : Nat) (v3 : Int32) (count : Int32) (firsts : (Nat → Int32)) (seconds : (Nat → Int32)) (H : Heap) (locs : List Loc) (ls : Array Slot), xW D aa [[(h_p1, .inr (3, [.int p1_objects, .ref a_p1_words, .int p1_steps, .ref a_p1_sources, .ref a_p1_targets, .ref a_p1_labels]))], [(a_p1_sources, .inl (G 0, 32, .inl p1_sources))], [(h, .inr (7, [.int count, .ref a_firsts, .ref a_seconds]))], [(a_firsts, .inl (G 0, 496, .inl firsts))], [(a_seconds, .inl (G 0, 496, .inl seconds))]] H → va_S (xA aa) s.heap H locs → lv_has ls 4 [(0, .ref h), (1, .ref h_p1), (2, .int v2), (3, .int v3)] → lp (τ := Int32 → Int32 → (Nat → Int32) → (Nat → Int32) → Option (Int32 × (Nat → Int32) × (Nat → Int32))) (fun _ _ _ _ => none) (f_X7_collect_L19 p1_steps p1_sources v2 (lp (τ := Int32 → Int32 → (Nat → Int32) → (Nat → Int32) → Option (Int32 × (Nat → Int32) × (Nat → Int32))) (fun _ _ _ _ => none) (f_X7_collect_L7 fu p1_steps p1_sources) n_7)) n_19 v3 count firsts seconds = some out → W p l e (rM 0 0) s m args blw meth c H locs 0 0 Q (F0 m 19 ls []) := by
        intro v2   n_19
        induction n_19 with
        | zero =>
          intro v3 count firsts seconds H locs ls hP hS hl hf
          exact no_some hf
        | succ n_19 ih_19 =>
          intro v3 count firsts seconds H locs ls hP hS hl hf
          have hf : f_X7_collect_L19 p1_steps p1_sources v2 (lp (τ := Int32 → Int32 → (Nat → Int32) → (Nat → Int32) → Option (Int32 × (Nat → Int32) × (Nat → Int32))) (fun _ _ _ _ => none) (f_X7_collect_L7 fu p1_steps p1_sources) n_7) (lp (τ := Int32 → Int32 → (Nat → Int32) → (Nat → Int32) → Option (Int32 × (Nat → Int32) × (Nat → Int32))) (fun _ _ _ _ => none) (f_X7_collect_L19 p1_steps p1_sources v2 (lp (τ := Int32 → Int32 → (Nat → Int32) → (Nat → Int32) → Option (Int32 × (Nat → Int32) × (Nat → Int32))) (fun _ _ _ _ => none) (f_X7_collect_L7 fu p1_steps p1_sources) n_7)) n_19) v3 count firsts seconds = some out := hf
          have J82 : ∀ (v3 : Int32) (count : Int32) (firsts : (Nat → Int32)) (seconds : (Nat → Int32)) (H : Heap) (locs : List Loc) (ls : Array Slot), xW D aa [[(h_p1, .inr (3, [.int p1_objects, .ref a_p1_words, .int p1_steps, .ref a_p1_sources, .ref a_p1_targets, .ref a_p1_labels]))], [(a_p1_sources, .inl (G 0, 32, .inl p1_sources))], [(h, .inr (7, [.int count, .ref a_firsts, .ref a_seconds]))], [(a_firsts, .inl (G 0, 496, .inl firsts))], [(a_seconds, .inl (G 0, 496, .inl seconds))]] H → va_S (xA aa) s.heap H locs → lv_has ls 4 [(0, .ref h), (1, .ref h_p1), (2, .int v2), (3, .int v3)] → f_X7_collect_J82 (lp (τ := Int32 → Int32 → (Nat → Int32) → (Nat → Int32) → Option (Int32 × (Nat → Int32) × (Nat → Int32))) (fun _ _ _ _ => none) (f_X7_collect_L19 p1_steps p1_sources v2 (lp (τ := Int32 → Int32 → (Nat → Int32) → (Nat → Int32) → Option (Int32 × (Nat → Int32) × (Nat → Int32))) (fun _ _ _ _ => none) (f_X7_collect_L7 fu p1_steps p1_sources) n_7)) n_19) v3 count firsts seconds = some out → W p l e (rM 0 0) s m args blw meth c H locs 0 0 Q (F0 m 82 ls []) := by
            intro v3 count firsts seconds  H locs ls  hP hS hl hf
            obtain ⟨v3_82, e_v3_82, hf⟩ := lt_some hf
            refine lv_iinc (v := v3_82) (lv' := [(3, .int v3_82), (0, .ref h), (1, .ref h_p1), (2, .int v2)]) hx hb dX7_collect_82 hl (k := 3) rfl (by rw [e_v3_82]; rfl) (by decide) rfl (fun ls hl => ?_)
            refine lv_goto (tgt := 19) hx hb dX7_collect_85 (by decide) ?_
            exact ih_19 v3_82 count firsts seconds H locs ls hP hS (lv_sub hl [1, 2, 3, 0] rfl) hf
          refine lv_iload_n hx hb dX7_collect_19 rfl (lv_at hl 3 rfl) ?_
          refine lv_aload_n hx hb dX7_collect_20 rfl (lv_at hl 1 rfl) ?_
          refine x_getN hx hb hts u_X7_collect_X3 hown hE hP 0 rfl rfl 2 (by decide) (hE.2 (.fieldLinkNest RX7 22 "DecreasingDiagrams$LabelledSystem" "steps" "I" RX11) (List.mem_of_getElem? (i := 8) rfl)) rfl dX7_collect_21 ?_
          refine lv_icmp_ge (tgt := 88) hx hb dX7_collect_24 (by decide) (fun c_24 => ?_) (fun c_24 => ?_)
          · have hf := it_pos c_24 hf
            exact J88 v2 count firsts seconds  H locs ls  hP hS (lv_sub hl [0, 1, 2] rfl) hf
          · have hf := it_neg c_24 hf
            refine lv_aload_n hx hb dX7_collect_27 rfl (lv_at hl 1 rfl) ?_
            refine x_getN hx hb hts u_X7_collect_X3 hown hE hP 0 rfl rfl 3 (by decide) (hE.2 (.fieldLinkNest RX7 27 "DecreasingDiagrams$LabelledSystem" "sources" "[I" RX11) (List.mem_of_getElem? (i := 12) rfl)) rfl dX7_collect_28 ?_
            refine lv_iload_n hx hb dX7_collect_31 rfl (lv_at hl 2 rfl) ?_
            obtain ⟨hi, hf⟩ := ck_some hf
            refine x_iald hx hb hE hP 1 rfl hi dX7_collect_32 ?_
            refine lv_aload_n hx hb dX7_collect_33 rfl (lv_at hl 1 rfl) ?_
            refine x_getN hx hb hts u_X7_collect_X3 hown hE hP 0 rfl rfl 3 (by decide) (hE.2 (.fieldLinkNest RX7 27 "DecreasingDiagrams$LabelledSystem" "sources" "[I" RX11) (List.mem_of_getElem? (i := 12) rfl)) rfl dX7_collect_34 ?_
            refine lv_iload_n hx hb dX7_collect_37 rfl (lv_at hl 3 rfl) ?_
            obtain ⟨hi, hf⟩ := ck_some hf
            refine x_iald hx hb hE hP 1 rfl hi dX7_collect_38 ?_
            refine lv_icmp_ne (tgt := 82) hx hb dX7_collect_39 (by decide) (fun c_39 => ?_) (fun c_39 => ?_)
            · have hf := it_pos c_39 hf
              exact J82 v3 count firsts seconds  H locs ls  hP hS (lv_sub hl [0, 1, 2, 3] rfl) hf
            · have hf := it_neg (fun h => h c_39) hf
              refine lv_aload_n hx hb dX7_collect_42 rfl (lv_at hl 0 rfl) ?_
              refine x_get hx hb hts u_X7_collect_X7 hown hE hP 2 rfl rfl 0 (by decide) (hts (.fieldLink RX7 9 "DecreasingDiagrams$Peaks" "count" "I") (List.mem_of_getElem? (i := 1) rfl)) rfl dX7_collect_43 ?_
              refine lv_sipush (v := 496) hx hb dX7_collect_46 (by decide) ?_
              refine lv_icmp_ge (tgt := 82) hx hb dX7_collect_49 (by decide) (fun c_49 => ?_) (fun c_49 => ?_)
              · have hf := it_pos c_49 hf
                exact J82 v3 count firsts seconds  H locs ls  hP hS (lv_sub hl [0, 1, 2, 3] rfl) hf
              · have hf := it_neg c_49 hf
                refine lv_aload_n hx hb dX7_collect_52 rfl (lv_at hl 0 rfl) ?_
                refine x_get hx hb hts u_X7_collect_X7 hown hE hP 2 rfl rfl 1 (by decide) (hts (.fieldLink RX7 15 "DecreasingDiagrams$Peaks" "firsts" "[I") (List.mem_of_getElem? (i := 2) rfl)) rfl dX7_collect_53 ?_
                refine lv_aload_n hx hb dX7_collect_56 rfl (lv_at hl 0 rfl) ?_
                refine x_get hx hb hts u_X7_collect_X7 hown hE hP 2 rfl rfl 0 (by decide) (hts (.fieldLink RX7 9 "DecreasingDiagrams$Peaks" "count" "I") (List.mem_of_getElem? (i := 1) rfl)) rfl dX7_collect_57 ?_
                refine lv_iload_n hx hb dX7_collect_60 rfl (lv_at hl 2 rfl) ?_
                obtain ⟨hi, hf⟩ := ck_some hf
                obtain ⟨firsts_61, e_firsts_61, hf⟩ := lt_some hf
                refine x_iast (I' := [[(h_p1, .inr (3, [.int p1_objects, .ref a_p1_words, .int p1_steps, .ref a_p1_sources, .ref a_p1_targets, .ref a_p1_labels]))], [(a_p1_sources, .inl (G 0, 32, .inl p1_sources))], [(h, .inr (7, [.int count, .ref a_firsts, .ref a_seconds]))], [(a_firsts, .inl (G 0, 496, .inl firsts_61))], [(a_seconds, .inl (G 0, 496, .inl seconds))]]) hx hb hE hP hN hS 3 rfl hi e_firsts_61 rfl dX7_collect_61 (fun H locs hP hS => ?_)
                refine lv_aload_n hx hb dX7_collect_62 rfl (lv_at hl 0 rfl) ?_
                refine x_get hx hb hts u_X7_collect_X7 hown hE hP 2 rfl rfl 2 (by decide) (hts (.fieldLink RX7 19 "DecreasingDiagrams$Peaks" "seconds" "[I") (List.mem_of_getElem? (i := 3) rfl)) rfl dX7_collect_63 ?_
                refine lv_aload_n hx hb dX7_collect_66 rfl (lv_at hl 0 rfl) ?_
                refine x_get hx hb hts u_X7_collect_X7 hown hE hP 2 rfl rfl 0 (by decide) (hts (.fieldLink RX7 9 "DecreasingDiagrams$Peaks" "count" "I") (List.mem_of_getElem? (i := 1) rfl)) rfl dX7_collect_67 ?_
                refine lv_iload_n hx hb dX7_collect_70 rfl (lv_at hl 3 rfl) ?_
                obtain ⟨hi, hf⟩ := ck_some hf
                obtain ⟨seconds_71, e_seconds_71, hf⟩ := lt_some hf
                refine x_iast (I' := [[(h_p1, .inr (3, [.int p1_objects, .ref a_p1_words, .int p1_steps, .ref a_p1_sources, .ref a_p1_targets, .ref a_p1_labels]))], [(a_p1_sources, .inl (G 0, 32, .inl p1_sources))], [(h, .inr (7, [.int count, .ref a_firsts, .ref a_seconds]))], [(a_firsts, .inl (G 0, 496, .inl firsts_61))], [(a_seconds, .inl (G 0, 496, .inl seconds_71))]]) hx hb hE hP hN hS 4 rfl hi e_seconds_71 rfl dX7_collect_71 (fun H locs hP hS => ?_)
                refine lv_aload_n hx hb dX7_collect_72 rfl (lv_at hl 0 rfl) ?_
                refine lv_dup hx hb dX7_collect_73 rfl ?_
                refine x_get hx hb hts u_X7_collect_X7 hown hE hP 2 rfl rfl 0 (by decide) (hts (.fieldLink RX7 9 "DecreasingDiagrams$Peaks" "count" "I") (List.mem_of_getElem? (i := 1) rfl)) rfl dX7_collect_74 ?_
                refine lv_iconst (v := 1) hx hb dX7_collect_77 (by decide) ?_
                refine lv_iadd hx hb dX7_collect_78 ?_
                obtain ⟨count_79, e_count_79, hf⟩ := lt_some hf
                refine x_put (w := .int count_79) (ty := .int) (I' := [[(h_p1, .inr (3, [.int p1_objects, .ref a_p1_words, .int p1_steps, .ref a_p1_sources, .ref a_p1_targets, .ref a_p1_labels]))], [(a_p1_sources, .inl (G 0, 32, .inl p1_sources))], [(h, .inr (7, [.int count_79, .ref a_firsts, .ref a_seconds]))], [(a_firsts, .inl (G 0, 496, .inl firsts_61))], [(a_seconds, .inl (G 0, 496, .inl seconds_71))]]) hx hb hts u_X7_collect_X7 tyX7 tyX7_ok nmX7 hown hE hP hN hS 2 rfl rfl 0 (by decide) (hts (.fieldLink RX7 9 "DecreasingDiagrams$Peaks" "count" "I") (List.mem_of_getElem? (i := 1) rfl)) rfl (congrArg Value.int e_count_79) (by decide +kernel) rfl rfl (Nat.le_of_ble_eq_true rfl) rfl dX7_collect_79 (fun H locs hP hS => ?_)
                exact J82 v3 count_79 firsts_61 seconds_71  H locs ls  hP hS (lv_sub hl [0, 1, 2, 3] rfl) hf
      refine lv_iload_n hx hb dX7_collect_7 rfl (lv_at hl 2 rfl) ?_
      refine lv_aload_n hx hb dX7_collect_8 rfl (lv_at hl 1 rfl) ?_
      refine x_getN hx hb hts u_X7_collect_X3 hown hE hP 0 rfl rfl 2 (by decide) (hE.2 (.fieldLinkNest RX7 22 "DecreasingDiagrams$LabelledSystem" "steps" "I" RX11) (List.mem_of_getElem? (i := 8) rfl)) rfl dX7_collect_9 ?_
      refine lv_icmp_ge (tgt := 94) hx hb dX7_collect_12 (by decide) (fun c_12 => ?_) (fun c_12 => ?_)
      · have hf := it_pos c_12 hf
        have hf := Option.some.inj hf
        rewrite [← hQ, ← hf]
        exact x_vret hx hb hr hlocks hP hS dX7_collect_94
      · have hf := it_neg c_12 hf
        refine lv_iload_n hx hb dX7_collect_15 rfl (lv_at hl 2 rfl) ?_
        refine lv_iconst (v := 1) hx hb dX7_collect_16 (by decide) ?_
        refine lv_iadd hx hb dX7_collect_17 ?_
        obtain ⟨v3_18, e_v3_18, hf⟩ := lt_some hf
        refine x_istore_n (v := v3_18) (lv' := [(3, .int v3_18), (0, .ref h), (1, .ref h_p1), (2, .int v2)]) hx hb dX7_collect_18 e_v3_18 rfl hl (by decide) rfl (fun ls hl => ?_)
        exact L19 v2   fu v3_18 count firsts seconds H locs ls hP hS (lv_sub hl [1, 2, 3, 0] rfl) hf
  refine lv_aload_n hx hb dX7_collect_0 rfl (lv_at hl 0 rfl) ?_
  refine lv_iconst (v := 0) hx hb dX7_collect_1 (by decide) ?_
  obtain ⟨count_2, e_count_2, hf⟩ := lt_some hf
  refine x_put (w := .int count_2) (ty := .int) (I' := [[(h_p1, .inr (3, [.int p1_objects, .ref a_p1_words, .int p1_steps, .ref a_p1_sources, .ref a_p1_targets, .ref a_p1_labels]))], [(a_p1_sources, .inl (G 0, 32, .inl p1_sources))], [(h, .inr (7, [.int count_2, .ref a_firsts, .ref a_seconds]))], [(a_firsts, .inl (G 0, 496, .inl firsts))], [(a_seconds, .inl (G 0, 496, .inl seconds))]]) hx hb hts u_X7_collect_X7 tyX7 tyX7_ok nmX7 hown hE hP hN hS 2 rfl rfl 0 (by decide) (hts (.fieldLink RX7 9 "DecreasingDiagrams$Peaks" "count" "I") (List.mem_of_getElem? (i := 1) rfl)) rfl (congrArg Value.int e_count_2) (by decide +kernel) rfl rfl (Nat.le_of_ble_eq_true rfl) rfl dX7_collect_2 (fun H locs hP hS => ?_)
  refine lv_iconst (v := 0) hx hb dX7_collect_5 (by decide) ?_
  obtain ⟨v2_6, e_v2_6, hf⟩ := lt_some hf
  refine x_istore_n (v := v2_6) (lv' := [(2, .int v2_6), (0, .ref h), (1, .ref h_p1)]) hx hb dX7_collect_6 e_v2_6 rfl hl (by decide) rfl (fun ls hl => ?_)
  exact L7    fu v2_6 count_2 firsts seconds H locs ls hP hS (lv_sub hl [1, 2, 0] rfl) hf

set_option maxRecDepth 20000 in
theorem u_X7_suitableEnds_X3 : ∀ w ∈ wsX30, w ∈ wsX7_suitableEnds := xx_pl _ [14, 15, 16, 17, 18, 19] (by decide +kernel)
set_option maxRecDepth 20000 in
theorem u_X7_suitableEnds_X2 : ∀ w ∈ wsX20, w ∈ wsX7_suitableEnds := xx_pl _ [20, 21] (by decide +kernel)
def f_X7_suitableEnds (fu : Nat) (p0_objects : Int32) (p0_steps : Int32) (p0_labels : (Nat → Int32)) (p0_sources : (Nat → Int32)) (p0_targets : (Nat → Int32)) (p1_below : (Nat → Int32)) (v2 : Int32) (v3 : Int32) : Option (Int32) :=
  ck v2 32 (lt (p0_labels v2.toNatClampNeg) (fun v4_6 => ck v3 32 (lt (p0_labels v3.toNatClampNeg) (fun v5_14 => ck v2 32 (ck v4_6 8 ((f_X3_closure fu p0_objects p0_steps p0_labels p0_sources p0_targets (1 <<< ((p0_targets v2.toNatClampNeg) &&& 31)) (p1_below v4_6.toNatClampNeg)).bind (fun r_32 => lt r_32 (fun v6_35 => (f_X3_successors fu p0_steps p0_labels p0_sources p0_targets v6_35 (1 <<< (v5_14 &&& 31))).bind (fun r_46 => lt (v6_35 ||| r_46) (fun v6_50 => ck v4_6 8 (ck v5_14 8 ((f_X3_closure fu p0_objects p0_steps p0_labels p0_sources p0_targets v6_50 ((p1_below v4_6.toNatClampNeg) ||| (p1_below v5_14.toNatClampNeg))).bind (fun r_70 => some r_70)))))))))))))
set_option maxHeartbeats 4000000 in
set_option maxRecDepth 100000 in
theorem k_X7_suitableEnds (l : Launch) (D : va_G) (G : Nat → ClassId) (fu : Nat) (h_p0 : Nat) (h_p1 : Nat) (a_p0_words : Nat) (a_p0_sources : Nat) (a_p0_targets : Nat) (a_p0_labels : Nat) (a_p1_pairs : Nat) (a_p1_below : Nat) (p0_objects : Int32) (p0_steps : Int32) (p0_labels : (Nat → Int32)) (p0_sources : (Nat → Int32)) (p0_targets : (Nat → Int32)) (p1_below : (Nat → Int32))  (v2 : Int32) (v3 : Int32) (out : Int32) (hf : f_X7_suitableEnds fu p0_objects p0_steps p0_labels p0_sources p0_targets p1_below v2 v3 = some out) : xMet l yX7_suitableEnds wsX7_suitableEnds (rM 2 49) D G [.ref h_p0, .ref h_p1, .int v2, .int v3] [[(h_p0, .inr (3, [.int p0_objects, .ref a_p0_words, .int p0_steps, .ref a_p0_sources, .ref a_p0_targets, .ref a_p0_labels]))], [(a_p0_labels, .inl (G 0, 32, .inl p0_labels))], [(a_p0_sources, .inl (G 0, 32, .inl p0_sources))], [(a_p0_targets, .inl (G 0, 32, .inl p0_targets))], [(h_p1, .inr (2, [.ref a_p1_pairs, .ref a_p1_below]))], [(a_p1_below, .inl (G 0, 8, .inl p1_below))]] (xQi D [[(h_p0, .inr (3, [.int p0_objects, .ref a_p0_words, .int p0_steps, .ref a_p0_sources, .ref a_p0_targets, .ref a_p0_labels]))], [(a_p0_labels, .inl (G 0, 32, .inl p0_labels))], [(a_p0_sources, .inl (G 0, 32, .inl p0_sources))], [(a_p0_targets, .inl (G 0, 32, .inl p0_targets))], [(h_p1, .inr (2, [.ref a_p1_pairs, .ref a_p1_below]))], [(a_p1_below, .inl (G 0, 8, .inl p1_below))]] out) := by
  refine x_ent (cc := cX7_suitableEnds) (maxL := 7) (by decide) rfl (Nat.le_of_ble_eq_true rfl) ?_
  intro p e s m blw meth c aa ls args Q H locs hQ hx hb hr hml hown hts hlocks hE hN hl hP hS
  have hown : s.vm.findClass RX7 = some m.cls := hown
  have hl : lv_has ls 7 [(0, .ref h_p0), (1, .ref h_p1), (2, .int v2), (3, .int v3)] := hl
  refine lv_aload_n hx hb dX7_suitableEnds_0 rfl (lv_at hl 0 rfl) ?_
  refine x_getN hx hb hts u_X7_suitableEnds_X3 hown hE hP 0 rfl rfl 5 (by decide) (hE.2 (.fieldLinkNest RX7 41 "DecreasingDiagrams$LabelledSystem" "labels" "[I" RX11) (List.mem_of_getElem? (i := 20) rfl)) rfl dX7_suitableEnds_1 ?_
  refine lv_iload_n hx hb dX7_suitableEnds_4 rfl (lv_at hl 2 rfl) ?_
  obtain ⟨hi, hf⟩ := ck_some hf
  refine x_iald hx hb hE hP 1 rfl hi dX7_suitableEnds_5 ?_
  obtain ⟨v4_6, e_v4_6, hf⟩ := lt_some hf
  refine x_istore (v := v4_6) (lv' := [(4, .int v4_6), (0, .ref h_p0), (1, .ref h_p1), (2, .int v2), (3, .int v3)]) hx hb dX7_suitableEnds_6 e_v4_6 hl (by decide) rfl (fun ls hl => ?_)
  refine lv_aload_n hx hb dX7_suitableEnds_8 rfl (lv_at hl 1 rfl) ?_
  refine x_getN hx hb hts u_X7_suitableEnds_X3 hown hE hP 0 rfl rfl 5 (by decide) (hE.2 (.fieldLinkNest RX7 41 "DecreasingDiagrams$LabelledSystem" "labels" "[I" RX11) (List.mem_of_getElem? (i := 20) rfl)) rfl dX7_suitableEnds_9 ?_
  refine lv_iload_n hx hb dX7_suitableEnds_12 rfl (lv_at hl 4 rfl) ?_
  obtain ⟨hi, hf⟩ := ck_some hf
  refine x_iald hx hb hE hP 1 rfl hi dX7_suitableEnds_13 ?_
  obtain ⟨v5_14, e_v5_14, hf⟩ := lt_some hf
  refine x_istore (v := v5_14) (lv' := [(5, .int v5_14), (4, .int v4_6), (0, .ref h_p0), (1, .ref h_p1), (2, .int v2), (3, .int v3)]) hx hb dX7_suitableEnds_14 e_v5_14 hl (by decide) rfl (fun ls hl => ?_)
  refine lv_aload_n hx hb dX7_suitableEnds_16 rfl (lv_at hl 2 rfl) ?_
  refine lv_iconst (v := 1) hx hb dX7_suitableEnds_17 (by decide) ?_
  refine lv_aload_n hx hb dX7_suitableEnds_18 rfl (lv_at hl 2 rfl) ?_
  refine x_getN hx hb hts u_X7_suitableEnds_X3 hown hE hP 0 rfl rfl 4 (by decide) (hE.2 (.fieldLinkNest RX7 30 "DecreasingDiagrams$LabelledSystem" "targets" "[I" RX11) (List.mem_of_getElem? (i := 16) rfl)) rfl dX7_suitableEnds_19 ?_
  refine lv_iload_n hx hb dX7_suitableEnds_22 rfl (lv_at hl 4 rfl) ?_
  obtain ⟨hi, hf⟩ := ck_some hf
  refine x_iald hx hb hE hP 3 rfl hi dX7_suitableEnds_23 ?_
  refine lv_ishl hx hb dX7_suitableEnds_24 ?_
  refine lv_aload_n hx hb dX7_suitableEnds_25 rfl (lv_at hl 3 rfl) ?_
  refine x_getN hx hb hts u_X7_suitableEnds_X2 hown hE hP 4 rfl rfl 1 (by decide) (hE.2 (.fieldLinkNest RX7 44 "DecreasingDiagrams$LabelOrder" "below" "[I" RX11) (List.mem_of_getElem? (i := 2) rfl)) rfl dX7_suitableEnds_26 ?_
  refine lv_iload hx hb dX7_suitableEnds_29 (lv_at hl 1 rfl) ?_
  obtain ⟨hi, hf⟩ := ck_some hf
  refine x_iald hx hb hE hP 5 rfl hi dX7_suitableEnds_31 ?_
  obtain ⟨r_32, hr_32, hf⟩ := bd_some hf
  refine x_goi0 (ps := [0, 1, 2, 3]) (x_runVN (As := [.int (1 <<< ((p0_targets v2.toNatClampNeg) &&& 31)), .int (p1_below v4_6.toNatClampNeg)]) (rest := []) (ps := [0, 1, 2, 3]) ⟨hx, hb, hml, hown, hts⟩ (k_X3_closure l D G fu h_p0 a_p0_words a_p0_sources a_p0_targets a_p0_labels p0_objects p0_steps p0_labels p0_sources p0_targets (1 <<< ((p0_targets v2.toNatClampNeg) &&& 31)) (p1_below v4_6.toNatClampNeg) r_32 hr_32) ⟨va_cnB 2 hts gX7_suitableEnds_X3_closure_n49 rfl rfl rfl (hE.2 (.methodLinkNest RX7 49 yX3_closure RX11) (List.mem_of_getElem? (i := 76) rfl)) (hts (.initialized RX3) (List.mem_of_getElem? (i := 2) rfl)) (by decide +kernel) ⟨Nat.le_of_ble_eq_true rfl, Nat.le_of_ble_eq_true rfl⟩, (hts (.instanceMethod yX3_closure) (List.mem_of_getElem? (i := 1) rfl)), (hts (.selects RX3 yX3_closure yX3_closure) (List.mem_of_getElem? (i := 3) rfl))⟩ hE hP hN rfl (by decide) 0 rfl rfl rfl hl.1 (Nat.le_of_ble_eq_true rfl) dX7_suitableEnds_32 ⟨Nat.zero_le _, Nat.zero_le _⟩) hP hN hS rfl (fun H locs hP hS => ?_)
  obtain ⟨v6_35, e_v6_35, hf⟩ := lt_some hf
  refine x_istore (v := v6_35) (lv' := [(6, .int v6_35), (5, .int v5_14), (4, .int v4_6), (0, .ref h_p0), (1, .ref h_p1), (2, .int v2), (3, .int v3)]) hx hb dX7_suitableEnds_35 e_v6_35 hl (by decide) rfl (fun ls hl => ?_)
  refine lv_iload hx hb dX7_suitableEnds_37 (lv_at hl 0 rfl) ?_
  refine lv_aload_n hx hb dX7_suitableEnds_39 rfl (lv_at hl 3 rfl) ?_
  refine lv_iload hx hb dX7_suitableEnds_40 (lv_at hl 0 rfl) ?_
  refine lv_iconst (v := 1) hx hb dX7_suitableEnds_42 (by decide) ?_
  refine lv_iload hx hb dX7_suitableEnds_43 (lv_at hl 1 rfl) ?_
  refine lv_ishl hx hb dX7_suitableEnds_45 ?_
  obtain ⟨r_46, hr_46, hf⟩ := bd_some hf
  refine x_goi0 (ps := [0, 1, 2, 3]) (x_runVN (As := [.int v6_35, .int (1 <<< (v5_14 &&& 31))]) (rest := [.int v6_35]) (ps := [0, 1, 2, 3]) ⟨hx, hb, hml, hown, hts⟩ (k_X3_successors l D G fu h_p0 a_p0_words a_p0_sources a_p0_targets a_p0_labels p0_objects p0_steps p0_labels p0_sources p0_targets v6_35 (1 <<< (v5_14 &&& 31)) r_46 hr_46) ⟨va_cnB 2 hts gX7_suitableEnds_X3_successors_n53 rfl rfl rfl (hE.2 (.methodLinkNest RX7 53 yX3_successors RX11) (List.mem_of_getElem? (i := 77) rfl)) (hts (.initialized RX3) (List.mem_of_getElem? (i := 2) rfl)) (by decide +kernel) ⟨Nat.le_of_ble_eq_true rfl, Nat.le_of_ble_eq_true rfl⟩, (hts (.instanceMethod yX3_successors) (List.mem_of_getElem? (i := 7) rfl)), (hts (.selects RX3 yX3_successors yX3_successors) (List.mem_of_getElem? (i := 8) rfl))⟩ hE hP hN rfl (by decide) 0 rfl rfl rfl hl.1 (Nat.le_of_ble_eq_true rfl) dX7_suitableEnds_46 ⟨Nat.zero_le _, Nat.zero_le _⟩) hP hN hS rfl (fun H locs hP hS => ?_)
  refine lv_ior hx hb dX7_suitableEnds_49 ?_
  obtain ⟨v6_50, e_v6_50, hf⟩ := lt_some hf
  refine x_istore (v := v6_50) (lv' := [(6, .int v6_50), (5, .int v5_14), (4, .int v4_6), (0, .ref h_p0), (1, .ref h_p1), (2, .int v2), (3, .int v3)]) hx hb dX7_suitableEnds_50 e_v6_50 hl (by decide) rfl (fun ls hl => ?_)
  refine lv_aload_n hx hb dX7_suitableEnds_52 rfl (lv_at hl 3 rfl) ?_
  refine lv_iload hx hb dX7_suitableEnds_53 (lv_at hl 0 rfl) ?_
  refine lv_aload_n hx hb dX7_suitableEnds_55 rfl (lv_at hl 4 rfl) ?_
  refine x_getN hx hb hts u_X7_suitableEnds_X2 hown hE hP 4 rfl rfl 1 (by decide) (hE.2 (.fieldLinkNest RX7 44 "DecreasingDiagrams$LabelOrder" "below" "[I" RX11) (List.mem_of_getElem? (i := 2) rfl)) rfl dX7_suitableEnds_56 ?_
  refine lv_iload hx hb dX7_suitableEnds_59 (lv_at hl 2 rfl) ?_
  obtain ⟨hi, hf⟩ := ck_some hf
  refine x_iald hx hb hE hP 5 rfl hi dX7_suitableEnds_61 ?_
  refine lv_aload_n hx hb dX7_suitableEnds_62 rfl (lv_at hl 4 rfl) ?_
  refine x_getN hx hb hts u_X7_suitableEnds_X2 hown hE hP 4 rfl rfl 1 (by decide) (hE.2 (.fieldLinkNest RX7 44 "DecreasingDiagrams$LabelOrder" "below" "[I" RX11) (List.mem_of_getElem? (i := 2) rfl)) rfl dX7_suitableEnds_63 ?_
  refine lv_iload hx hb dX7_suitableEnds_66 (lv_at hl 1 rfl) ?_
  obtain ⟨hi, hf⟩ := ck_some hf
  refine x_iald hx hb hE hP 5 rfl hi dX7_suitableEnds_68 ?_
  refine lv_ior hx hb dX7_suitableEnds_69 ?_
  obtain ⟨r_70, hr_70, hf⟩ := bd_some hf
  refine x_goi0 (ps := [0, 1, 2, 3]) (x_runVN (As := [.int v6_50, .int ((p1_below v4_6.toNatClampNeg) ||| (p1_below v5_14.toNatClampNeg))]) (rest := []) (ps := [0, 1, 2, 3]) ⟨hx, hb, hml, hown, hts⟩ (k_X3_closure l D G fu h_p0 a_p0_words a_p0_sources a_p0_targets a_p0_labels p0_objects p0_steps p0_labels p0_sources p0_targets v6_50 ((p1_below v4_6.toNatClampNeg) ||| (p1_below v5_14.toNatClampNeg)) r_70 hr_70) ⟨va_cnB 2 hts gX7_suitableEnds_X3_closure_n49 rfl rfl rfl (hE.2 (.methodLinkNest RX7 49 yX3_closure RX11) (List.mem_of_getElem? (i := 76) rfl)) (hts (.initialized RX3) (List.mem_of_getElem? (i := 2) rfl)) (by decide +kernel) ⟨Nat.le_of_ble_eq_true rfl, Nat.le_of_ble_eq_true rfl⟩, (hts (.instanceMethod yX3_closure) (List.mem_of_getElem? (i := 1) rfl)), (hts (.selects RX3 yX3_closure yX3_closure) (List.mem_of_getElem? (i := 3) rfl))⟩ hE hP hN rfl (by decide) 0 rfl rfl rfl hl.1 (Nat.le_of_ble_eq_true rfl) dX7_suitableEnds_70 ⟨Nat.zero_le _, Nat.zero_le _⟩) hP hN hS rfl (fun H locs hP hS => ?_)
  have hf := Option.some.inj hf
  rewrite [← hQ, ← hf]
  exact x_iret hx hb hr hlocks hP hS dX7_suitableEnds_73

set_option maxRecDepth 20000 in
theorem u_X7_decreases_X7 : ∀ w ∈ wsX70, w ∈ wsX7_decreases := xx_pl _ [20, 21, 22] (by decide +kernel)
set_option maxRecDepth 20000 in
theorem u_X7_decreases_X3 : ∀ w ∈ wsX30, w ∈ wsX7_decreases := xx_pl _ [23, 24, 25, 26, 27, 28] (by decide +kernel)
def f_X7_decreases (fu : Nat) (p2_objects : Int32) (p2_steps : Int32) (p2_labels : (Nat → Int32)) (p2_sources : (Nat → Int32)) (p2_targets : (Nat → Int32)) (p3_below : (Nat → Int32)) (firsts : (Nat → Int32)) (seconds : (Nat → Int32)) (v1 : Int32) : Option (Int32) :=
  ck v1 496 (lt (firsts v1.toNatClampNeg) (fun v4_6 => ck v1 496 (lt (seconds v1.toNatClampNeg) (fun v5_14 => ck v4_6 32 (ck v5_14 32 (if ¬ (p2_targets v4_6.toNatClampNeg) = (p2_targets v5_14.toNatClampNeg) then ((f_X7_suitableEnds fu p2_objects p2_steps p2_labels p2_sources p2_targets p3_below v4_6 v5_14).bind (fun r_41 => lt r_41 (fun v6_44 => (f_X7_suitableEnds fu p2_objects p2_steps p2_labels p2_sources p2_targets p3_below v5_14 v4_6).bind (fun r_52 => lt r_52 (fun v7_55 => if (v6_44 &&& v7_55) = 0 then (some 0) else (some 1)))))) else (some 1)))))))
set_option maxHeartbeats 4000000 in
set_option maxRecDepth 100000 in
theorem k_X7_decreases (l : Launch) (D : va_G) (G : Nat → ClassId) (fu : Nat) (h : Nat) (h_p2 : Nat) (h_p3 : Nat) (a_p2_words : Nat) (a_p2_sources : Nat) (a_p2_targets : Nat) (a_p2_labels : Nat) (a_p3_pairs : Nat) (a_p3_below : Nat) (a_firsts : Nat) (a_seconds : Nat) (p2_objects : Int32) (p2_steps : Int32) (count : Int32) (p2_labels : (Nat → Int32)) (p2_sources : (Nat → Int32)) (p2_targets : (Nat → Int32)) (p3_below : (Nat → Int32)) (firsts : (Nat → Int32)) (seconds : (Nat → Int32))  (v1 : Int32) (out : Int32) (hf : f_X7_decreases fu p2_objects p2_steps p2_labels p2_sources p2_targets p3_below firsts seconds v1 = some out) : xMet l yX7_decreases wsX7_decreases (rM 3 75) D G [.ref h, .int v1, .ref h_p2, .ref h_p3] [[(h_p2, .inr (3, [.int p2_objects, .ref a_p2_words, .int p2_steps, .ref a_p2_sources, .ref a_p2_targets, .ref a_p2_labels]))], [(a_p2_labels, .inl (G 0, 32, .inl p2_labels))], [(a_p2_sources, .inl (G 0, 32, .inl p2_sources))], [(a_p2_targets, .inl (G 0, 32, .inl p2_targets))], [(h_p3, .inr (2, [.ref a_p3_pairs, .ref a_p3_below]))], [(a_p3_below, .inl (G 0, 8, .inl p3_below))], [(h, .inr (7, [.int count, .ref a_firsts, .ref a_seconds]))], [(a_firsts, .inl (G 0, 496, .inl firsts))], [(a_seconds, .inl (G 0, 496, .inl seconds))]] (xQi D [[(h_p2, .inr (3, [.int p2_objects, .ref a_p2_words, .int p2_steps, .ref a_p2_sources, .ref a_p2_targets, .ref a_p2_labels]))], [(a_p2_labels, .inl (G 0, 32, .inl p2_labels))], [(a_p2_sources, .inl (G 0, 32, .inl p2_sources))], [(a_p2_targets, .inl (G 0, 32, .inl p2_targets))], [(h_p3, .inr (2, [.ref a_p3_pairs, .ref a_p3_below]))], [(a_p3_below, .inl (G 0, 8, .inl p3_below))], [(h, .inr (7, [.int count, .ref a_firsts, .ref a_seconds]))], [(a_firsts, .inl (G 0, 496, .inl firsts))], [(a_seconds, .inl (G 0, 496, .inl seconds))]] out) := by
  refine x_ent (cc := cX7_decreases) (maxL := 8) (by decide) rfl (Nat.le_of_ble_eq_true rfl) ?_
  intro p e s m blw meth c aa ls args Q H locs hQ hx hb hr hml hown hts hlocks hE hN hl hP hS
  have hown : s.vm.findClass RX7 = some m.cls := hown
  have hl : lv_has ls 8 [(0, .ref h), (1, .int v1), (2, .ref h_p2), (3, .ref h_p3)] := hl
  refine lv_aload_n hx hb dX7_decreases_0 rfl (lv_at hl 0 rfl) ?_
  refine x_get hx hb hts u_X7_decreases_X7 hown hE hP 6 rfl rfl 1 (by decide) (hts (.fieldLink RX7 15 "DecreasingDiagrams$Peaks" "firsts" "[I") (List.mem_of_getElem? (i := 1) rfl)) rfl dX7_decreases_1 ?_
  refine lv_iload_n hx hb dX7_decreases_4 rfl (lv_at hl 1 rfl) ?_
  obtain ⟨hi, hf⟩ := ck_some hf
  refine x_iald hx hb hE hP 7 rfl hi dX7_decreases_5 ?_
  obtain ⟨v4_6, e_v4_6, hf⟩ := lt_some hf
  refine x_istore (v := v4_6) (lv' := [(4, .int v4_6), (0, .ref h), (1, .int v1), (2, .ref h_p2), (3, .ref h_p3)]) hx hb dX7_decreases_6 e_v4_6 hl (by decide) rfl (fun ls hl => ?_)
  refine lv_aload_n hx hb dX7_decreases_8 rfl (lv_at hl 1 rfl) ?_
  refine x_get hx hb hts u_X7_decreases_X7 hown hE hP 6 rfl rfl 2 (by decide) (hts (.fieldLink RX7 19 "DecreasingDiagrams$Peaks" "seconds" "[I") (List.mem_of_getElem? (i := 2) rfl)) rfl dX7_decreases_9 ?_
  refine lv_iload_n hx hb dX7_decreases_12 rfl (lv_at hl 2 rfl) ?_
  obtain ⟨hi, hf⟩ := ck_some hf
  refine x_iald hx hb hE hP 8 rfl hi dX7_decreases_13 ?_
  obtain ⟨v5_14, e_v5_14, hf⟩ := lt_some hf
  refine x_istore (v := v5_14) (lv' := [(5, .int v5_14), (4, .int v4_6), (0, .ref h), (1, .int v1), (2, .ref h_p2), (3, .ref h_p3)]) hx hb dX7_decreases_14 e_v5_14 hl (by decide) rfl (fun ls hl => ?_)
  refine lv_aload_n hx hb dX7_decreases_16 rfl (lv_at hl 4 rfl) ?_
  refine x_getN hx hb hts u_X7_decreases_X3 hown hE hP 0 rfl rfl 4 (by decide) (hE.2 (.fieldLinkNest RX7 30 "DecreasingDiagrams$LabelledSystem" "targets" "[I" RX11) (List.mem_of_getElem? (i := 16) rfl)) rfl dX7_decreases_17 ?_
  refine lv_iload hx hb dX7_decreases_20 (lv_at hl 1 rfl) ?_
  obtain ⟨hi, hf⟩ := ck_some hf
  refine x_iald hx hb hE hP 3 rfl hi dX7_decreases_22 ?_
  refine lv_aload_n hx hb dX7_decreases_23 rfl (lv_at hl 4 rfl) ?_
  refine x_getN hx hb hts u_X7_decreases_X3 hown hE hP 0 rfl rfl 4 (by decide) (hE.2 (.fieldLinkNest RX7 30 "DecreasingDiagrams$LabelledSystem" "targets" "[I" RX11) (List.mem_of_getElem? (i := 16) rfl)) rfl dX7_decreases_24 ?_
  refine lv_iload hx hb dX7_decreases_27 (lv_at hl 0 rfl) ?_
  obtain ⟨hi, hf⟩ := ck_some hf
  refine x_iald hx hb hE hP 3 rfl hi dX7_decreases_29 ?_
  refine lv_icmp_ne (tgt := 35) hx hb dX7_decreases_30 (by decide) (fun c_30 => ?_) (fun c_30 => ?_)
  · have hf := it_pos c_30 hf
    refine lv_aload_n hx hb dX7_decreases_35 rfl (lv_at hl 4 rfl) ?_
    refine lv_aload_n hx hb dX7_decreases_36 rfl (lv_at hl 5 rfl) ?_
    refine lv_iload hx hb dX7_decreases_37 (lv_at hl 1 rfl) ?_
    refine lv_iload hx hb dX7_decreases_39 (lv_at hl 0 rfl) ?_
    obtain ⟨r_41, hr_41, hf⟩ := bd_some hf
    refine x_goi0 (ps := [0, 1, 2, 3, 4, 5]) (x_runS (As := [.ref h_p2, .ref h_p3, .int v4_6, .int v5_14]) (rest := []) (ps := [0, 1, 2, 3, 4, 5]) ⟨hx, hb, hml, hown, hts⟩ (k_X7_suitableEnds l D G fu h_p2 h_p3 a_p2_words a_p2_sources a_p2_targets a_p2_labels a_p3_pairs a_p3_below p2_objects p2_steps p2_labels p2_sources p2_targets p3_below v4_6 v5_14 r_41 hr_41) (va_cwS 4 hts gX7_decreases_X7_suitableEnds rfl rfl rfl (by decide +kernel) ⟨Nat.le_of_ble_eq_true rfl, Nat.le_of_ble_eq_true rfl⟩) hE hP hN rfl (by decide) rfl hl.1 (Nat.le_of_ble_eq_true rfl) dX7_decreases_41 ⟨Nat.zero_le _, Nat.zero_le _⟩) hP hN hS rfl (fun H locs hP hS => ?_)
    obtain ⟨v6_44, e_v6_44, hf⟩ := lt_some hf
    refine x_istore (v := v6_44) (lv' := [(6, .int v6_44), (5, .int v5_14), (4, .int v4_6), (0, .ref h), (1, .int v1), (2, .ref h_p2), (3, .ref h_p3)]) hx hb dX7_decreases_44 e_v6_44 hl (by decide) rfl (fun ls hl => ?_)
    refine lv_aload_n hx hb dX7_decreases_46 rfl (lv_at hl 5 rfl) ?_
    refine lv_aload_n hx hb dX7_decreases_47 rfl (lv_at hl 6 rfl) ?_
    refine lv_iload hx hb dX7_decreases_48 (lv_at hl 1 rfl) ?_
    refine lv_iload hx hb dX7_decreases_50 (lv_at hl 2 rfl) ?_
    obtain ⟨r_52, hr_52, hf⟩ := bd_some hf
    refine x_goi0 (ps := [0, 1, 2, 3, 4, 5]) (x_runS (As := [.ref h_p2, .ref h_p3, .int v5_14, .int v4_6]) (rest := []) (ps := [0, 1, 2, 3, 4, 5]) ⟨hx, hb, hml, hown, hts⟩ (k_X7_suitableEnds l D G fu h_p2 h_p3 a_p2_words a_p2_sources a_p2_targets a_p2_labels a_p3_pairs a_p3_below p2_objects p2_steps p2_labels p2_sources p2_targets p3_below v5_14 v4_6 r_52 hr_52) (va_cwS 4 hts gX7_decreases_X7_suitableEnds rfl rfl rfl (by decide +kernel) ⟨Nat.le_of_ble_eq_true rfl, Nat.le_of_ble_eq_true rfl⟩) hE hP hN rfl (by decide) rfl hl.1 (Nat.le_of_ble_eq_true rfl) dX7_decreases_52 ⟨Nat.zero_le _, Nat.zero_le _⟩) hP hN hS rfl (fun H locs hP hS => ?_)
    obtain ⟨v7_55, e_v7_55, hf⟩ := lt_some hf
    refine x_istore (v := v7_55) (lv' := [(7, .int v7_55), (6, .int v6_44), (5, .int v5_14), (4, .int v4_6), (0, .ref h), (1, .int v1), (2, .ref h_p2), (3, .ref h_p3)]) hx hb dX7_decreases_55 e_v7_55 hl (by decide) rfl (fun ls hl => ?_)
    refine lv_iload hx hb dX7_decreases_57 (lv_at hl 1 rfl) ?_
    refine lv_iload hx hb dX7_decreases_59 (lv_at hl 0 rfl) ?_
    refine lv_iand hx hb dX7_decreases_61 ?_
    refine lv_if_eq (tgt := 69) hx hb dX7_decreases_62 (by decide) (fun c_62 => ?_) (fun c_62 => ?_)
    · have hf := it_pos c_62 hf
      refine lv_iconst (v := 0) hx hb dX7_decreases_69 (by decide) ?_
      have hf := Option.some.inj hf
      rewrite [← hQ, ← hf]
      exact x_zret (r := 0) hx hb hr hlocks rfl hP hS dX7_decreases_70
    · have hf := it_neg c_62 hf
      refine lv_iconst (v := 1) hx hb dX7_decreases_65 (by decide) ?_
      refine lv_goto (tgt := 70) hx hb dX7_decreases_66 (by decide) ?_
      have hf := Option.some.inj hf
      rewrite [← hQ, ← hf]
      exact x_zret (r := 1) hx hb hr hlocks rfl hP hS dX7_decreases_70
  · have hf := it_neg (fun h => h c_30) hf
    refine lv_iconst (v := 1) hx hb dX7_decreases_33 (by decide) ?_
    have hf := Option.some.inj hf
    rewrite [← hQ, ← hf]
    exact x_zret (r := 1) hx hb hr hlocks rfl hP hS dX7_decreases_34

set_option maxRecDepth 20000 in
theorem u_X11_decreasingCount_X11 : ∀ w ∈ wsX110, w ∈ wsX11_decreasingCount := xx_pl _ [30, 31, 32, 33, 34, 35, 36, 37, 38, 39, 40, 41, 42, 43, 44, 45] (by decide +kernel)
set_option maxRecDepth 20000 in
theorem u_X11_decreasingCount_X7 : ∀ w ∈ wsX70, w ∈ wsX11_decreasingCount := xx_pl _ [46, 47, 48] (by decide +kernel)
def f_X11_decreasingCount_J48 (rec_15 : (Int32 → Int32 → Option (Int32 × Int32 × (Nat → Int32) × (Nat → Int32)))) (v1 : Int32) (v2 : Int32) : Option (Int32 × Int32 × (Nat → Int32) × (Nat → Int32)) :=
  lt (v2 + 1) (fun v2_48 => rec_15 v1 v2_48)
def f_X11_decreasingCount_L15 (fu : Nat) (peaks_count : Int32) (system_objects : Int32) (system_steps : Int32) (order_below : (Nat → Int32)) (peaks_firsts : (Nat → Int32)) (peaks_seconds : (Nat → Int32)) (system_labels : (Nat → Int32)) (system_sources : (Nat → Int32)) (system_targets : (Nat → Int32)) (rec_15 : Int32 → Int32 → Option (Int32 × Int32 × (Nat → Int32) × (Nat → Int32))) (v1 : Int32) (v2 : Int32) : Option (Int32 × Int32 × (Nat → Int32) × (Nat → Int32)) :=
  if peaks_count ≤ v2 then (some (v1, peaks_count, peaks_firsts, peaks_seconds)) else ((f_X7_decreases fu system_objects system_steps system_labels system_sources system_targets order_below peaks_firsts peaks_seconds v2).bind (fun r_39 => if r_39 = 0 then (f_X11_decreasingCount_J48 rec_15 v1 v2) else (lt (v1 + 1) (fun v1_45 => f_X11_decreasingCount_J48 rec_15 v1_45 v2))))
def f_X11_decreasingCount (fu : Nat) (system_objects : Int32) (system_steps : Int32) (order_below : (Nat → Int32)) (peaks_firsts : (Nat → Int32)) (peaks_seconds : (Nat → Int32)) (system_labels : (Nat → Int32)) (system_sources : (Nat → Int32)) (system_targets : (Nat → Int32)) : Option (Int32 × Int32 × (Nat → Int32) × (Nat → Int32)) :=
  (f_X7_collect fu system_steps system_sources peaks_firsts peaks_seconds).bind (fun r_8 => lt (0 : Int32) (fun v1_12 => lt (0 : Int32) (fun v2_14 => lp (τ := Int32 → Int32 → Option (Int32 × Int32 × (Nat → Int32) × (Nat → Int32))) (fun _ _ => none) (f_X11_decreasingCount_L15 fu r_8.1 system_objects system_steps order_below r_8.2.1 r_8.2.2 system_labels system_sources system_targets) fu v1_12 v2_14)))
set_option maxHeartbeats 4000000 in
set_option maxRecDepth 100000 in
theorem k_X11_decreasingCount (l : Launch) (D : va_G) (G : Nat → ClassId) (fu : Nat) (h : Nat) (h_order : Nat) (h_system : Nat) (h_rules : Nat) (h_savedOrder : Nat) (h_savedSystem : Nat) (h_savedRules : Nat) (h_peaks : Nat) (h_leftPaths : Nat) (h_rightPaths : Nat) (h_text : Nat) (h_labellings : Nat) (h_input : Nat) (h_explorer : Nat) (h_arrays : Nat) (a_reach : Nat) (a_order_pairs : Nat) (a_order_below : Nat) (a_peaks_firsts : Nat) (a_peaks_seconds : Nat) (a_system_words : Nat) (a_system_sources : Nat) (a_system_targets : Nat) (a_system_labels : Nat) (snapshotSaved : Int32) (peaks_count : Int32) (system_objects : Int32) (system_steps : Int32) (order_below : (Nat → Int32)) (peaks_firsts : (Nat → Int32)) (peaks_seconds : (Nat → Int32)) (system_labels : (Nat → Int32)) (system_sources : (Nat → Int32)) (system_targets : (Nat → Int32))   (out : Int32 × Int32 × (Nat → Int32) × (Nat → Int32)) (hf : f_X11_decreasingCount fu system_objects system_steps order_below peaks_firsts peaks_seconds system_labels system_sources system_targets = some out) : xMet l yX11_decreasingCount wsX11_decreasingCount (rM 4 102) D G [.ref h] [[(h, .inr (10, [.ref h_order, .ref h_system, .ref h_rules, .ref h_savedOrder, .ref h_savedSystem, .ref h_savedRules, .int snapshotSaved, .ref h_peaks, .ref h_leftPaths, .ref h_rightPaths, .ref h_text, .ref h_labellings, .ref h_input, .ref h_explorer, .ref h_arrays, .ref a_reach]))], [(h_order, .inr (2, [.ref a_order_pairs, .ref a_order_below]))], [(a_order_below, .inl (G 0, 8, .inl order_below))], [(h_peaks, .inr (7, [.int peaks_count, .ref a_peaks_firsts, .ref a_peaks_seconds]))], [(a_peaks_firsts, .inl (G 0, 496, .inl peaks_firsts))], [(a_peaks_seconds, .inl (G 0, 496, .inl peaks_seconds))], [(h_system, .inr (3, [.int system_objects, .ref a_system_words, .int system_steps, .ref a_system_sources, .ref a_system_targets, .ref a_system_labels]))], [(a_system_labels, .inl (G 0, 32, .inl system_labels))], [(a_system_sources, .inl (G 0, 32, .inl system_sources))], [(a_system_targets, .inl (G 0, 32, .inl system_targets))]] (xQi D [[(h, .inr (10, [.ref h_order, .ref h_system, .ref h_rules, .ref h_savedOrder, .ref h_savedSystem, .ref h_savedRules, .int snapshotSaved, .ref h_peaks, .ref h_leftPaths, .ref h_rightPaths, .ref h_text, .ref h_labellings, .ref h_input, .ref h_explorer, .ref h_arrays, .ref a_reach]))], [(h_order, .inr (2, [.ref a_order_pairs, .ref a_order_below]))], [(a_order_below, .inl (G 0, 8, .inl order_below))], [(h_peaks, .inr (7, [.int out.2.1, .ref a_peaks_firsts, .ref a_peaks_seconds]))], [(a_peaks_firsts, .inl (G 0, 496, .inl out.2.2.1))], [(a_peaks_seconds, .inl (G 0, 496, .inl out.2.2.2))], [(h_system, .inr (3, [.int system_objects, .ref a_system_words, .int system_steps, .ref a_system_sources, .ref a_system_targets, .ref a_system_labels]))], [(a_system_labels, .inl (G 0, 32, .inl system_labels))], [(a_system_sources, .inl (G 0, 32, .inl system_sources))], [(a_system_targets, .inl (G 0, 32, .inl system_targets))]] out.1) := by
  refine x_ent (cc := cX11_decreasingCount) (maxL := 3) (by decide) rfl (Nat.le_of_ble_eq_true rfl) ?_
  intro p e s m blw meth c aa ls args Q H locs hQ hx hb hr hml hown hts hlocks hE hN hl hP hS
  have hown : s.vm.findClass RX11 = some m.cls := hown
  have hl : lv_has ls 3 [(0, .ref h)] := hl
  have L15 : ∀ (peaks_count : Int32) (peaks_firsts : (Nat → Int32)) (peaks_seconds : (Nat → Int32)), ∀ (n_15 : Nat) (v1 : Int32) (v2 : Int32) (H : Heap) (locs : List Loc) (ls : Array Slot), xW D aa [[(h, .inr (10, [.ref h_order, .ref h_system, .ref h_rules, .ref h_savedOrder, .ref h_savedSystem, .ref h_savedRules, .int snapshotSaved, .ref h_peaks, .ref h_leftPaths, .ref h_rightPaths, .ref h_text, .ref h_labellings, .ref h_input, .ref h_explorer, .ref h_arrays, .ref a_reach]))], [(h_order, .inr (2, [.ref a_order_pairs, .ref a_order_below]))], [(a_order_below, .inl (G 0, 8, .inl order_below))], [(h_peaks, .inr (7, [.int peaks_count, .ref a_peaks_firsts, .ref a_peaks_seconds]))], [(a_peaks_firsts, .inl (G 0, 496, .inl peaks_firsts))], [(a_peaks_seconds, .inl (G 0, 496, .inl peaks_seconds))], [(h_system, .inr (3, [.int system_objects, .ref a_system_words, .int system_steps, .ref a_system_sources, .ref a_system_targets, .ref a_system_labels]))], [(a_system_labels, .inl (G 0, 32, .inl system_labels))], [(a_system_sources, .inl (G 0, 32, .inl system_sources))], [(a_system_targets, .inl (G 0, 32, .inl system_targets))]] H → va_S (xA aa) s.heap H locs → lv_has ls 3 [(0, .ref h), (1, .int v1), (2, .int v2)] → lp (τ := Int32 → Int32 → Option (Int32 × Int32 × (Nat → Int32) × (Nat → Int32))) (fun _ _ => none) (f_X11_decreasingCount_L15 fu peaks_count system_objects system_steps order_below peaks_firsts peaks_seconds system_labels system_sources system_targets) n_15 v1 v2 = some out → W p l e (rM 4 102) s m args blw meth c H locs 0 0 Q (F0 m 15 ls []) := by
    intro peaks_count peaks_firsts peaks_seconds   n_15
    induction n_15 with
    | zero =>
      intro v1 v2 H locs ls hP hS hl hf
      exact no_some hf
    | succ n_15 ih_15 =>
      intro v1 v2 H locs ls hP hS hl hf
      have hf : f_X11_decreasingCount_L15 fu peaks_count system_objects system_steps order_below peaks_firsts peaks_seconds system_labels system_sources system_targets (lp (τ := Int32 → Int32 → Option (Int32 × Int32 × (Nat → Int32) × (Nat → Int32))) (fun _ _ => none) (f_X11_decreasingCount_L15 fu peaks_count system_objects system_steps order_below peaks_firsts peaks_seconds system_labels system_sources system_targets) n_15) v1 v2 = some out := hf
      have J48 : ∀ (v1 : Int32) (v2 : Int32) (H : Heap) (locs : List Loc) (ls : Array Slot), xW D aa [[(h, .inr (10, [.ref h_order, .ref h_system, .ref h_rules, .ref h_savedOrder, .ref h_savedSystem, .ref h_savedRules, .int snapshotSaved, .ref h_peaks, .ref h_leftPaths, .ref h_rightPaths, .ref h_text, .ref h_labellings, .ref h_input, .ref h_explorer, .ref h_arrays, .ref a_reach]))], [(h_order, .inr (2, [.ref a_order_pairs, .ref a_order_below]))], [(a_order_below, .inl (G 0, 8, .inl order_below))], [(h_peaks, .inr (7, [.int peaks_count, .ref a_peaks_firsts, .ref a_peaks_seconds]))], [(a_peaks_firsts, .inl (G 0, 496, .inl peaks_firsts))], [(a_peaks_seconds, .inl (G 0, 496, .inl peaks_seconds))], [(h_system, .inr (3, [.int system_objects, .ref a_system_words, .int system_steps, .ref a_system_sources, .ref a_system_targets, .ref a_system_labels]))], [(a_system_labels, .inl (G 0, 32, .inl system_labels))], [(a_system_sources, .inl (G 0, 32, .inl system_sources))], [(a_system_targets, .inl (G 0, 32, .inl system_targets))]] H → va_S (xA aa) s.heap H locs → lv_has ls 3 [(0, .ref h), (1, .int v1), (2, .int v2)] → f_X11_decreasingCount_J48 (lp (τ := Int32 → Int32 → Option (Int32 × Int32 × (Nat → Int32) × (Nat → Int32))) (fun _ _ => none) (f_X11_decreasingCount_L15 fu peaks_count system_objects system_steps order_below peaks_firsts peaks_seconds system_labels system_sources system_targets) n_15) v1 v2 = some out → W p l e (rM 4 102) s m args blw meth c H locs 0 0 Q (F0 m 48 ls []) := by
        intro v1 v2  H locs ls  hP hS hl hf
        obtain ⟨v2_48, e_v2_48, hf⟩ := lt_some hf
        refine lv_iinc (v := v2_48) (lv' := [(2, .int v2_48), (0, .ref h), (1, .int v1)]) hx hb dX11_decreasingCount_48 hl (k := 2) rfl (by rw [e_v2_48]; rfl) (by decide) rfl (fun ls hl => ?_)
        refine lv_goto (tgt := 15) hx hb dX11_decreasingCount_51 (by decide) ?_
        exact ih_15 v1 v2_48 H locs ls hP hS (lv_sub hl [1, 2, 0] rfl) hf
      refine lv_iload_n hx hb dX11_decreasingCount_15 rfl (lv_at hl 2 rfl) ?_
      refine lv_aload_n hx hb dX11_decreasingCount_16 rfl (lv_at hl 0 rfl) ?_
      refine x_get hx hb hts u_X11_decreasingCount_X11 hown hE hP 0 rfl rfl 7 (by decide) (hts (.fieldLink RX11 46 "DecreasingDiagrams" "peaks" "LDecreasingDiagrams$Peaks;") (List.mem_of_getElem? (i := 1) rfl)) rfl dX11_decreasingCount_17 ?_
      refine x_getN hx hb hts u_X11_decreasingCount_X7 hown hE hP 3 rfl rfl 0 (by decide) (hE.2 (.fieldLinkNest RX11 199 "DecreasingDiagrams$Peaks" "count" "I" RX11) (List.mem_of_getElem? (i := 28) rfl)) rfl dX11_decreasingCount_20 ?_
      refine lv_icmp_ge (tgt := 54) hx hb dX11_decreasingCount_23 (by decide) (fun c_23 => ?_) (fun c_23 => ?_)
      · have hf := it_pos c_23 hf
        refine lv_iload_n hx hb dX11_decreasingCount_54 rfl (lv_at hl 1 rfl) ?_
        have hf := Option.some.inj hf
        rewrite [← hQ, ← hf]
        exact x_iret hx hb hr hlocks hP hS dX11_decreasingCount_55
      · have hf := it_neg c_23 hf
        refine lv_aload_n hx hb dX11_decreasingCount_26 rfl (lv_at hl 0 rfl) ?_
        refine x_get hx hb hts u_X11_decreasingCount_X11 hown hE hP 0 rfl rfl 7 (by decide) (hts (.fieldLink RX11 46 "DecreasingDiagrams" "peaks" "LDecreasingDiagrams$Peaks;") (List.mem_of_getElem? (i := 1) rfl)) rfl dX11_decreasingCount_27 ?_
        refine lv_iload_n hx hb dX11_decreasingCount_30 rfl (lv_at hl 2 rfl) ?_
        refine lv_aload_n hx hb dX11_decreasingCount_31 rfl (lv_at hl 0 rfl) ?_
        refine x_get hx hb hts u_X11_decreasingCount_X11 hown hE hP 0 rfl rfl 1 (by decide) (hts (.fieldLink RX11 19 "DecreasingDiagrams" "system" "LDecreasingDiagrams$LabelledSystem;") (List.mem_of_getElem? (i := 2) rfl)) rfl dX11_decreasingCount_32 ?_
        refine lv_aload_n hx hb dX11_decreasingCount_35 rfl (lv_at hl 0 rfl) ?_
        refine x_get hx hb hts u_X11_decreasingCount_X11 hown hE hP 0 rfl rfl 0 (by decide) (hts (.fieldLink RX11 12 "DecreasingDiagrams" "order" "LDecreasingDiagrams$LabelOrder;") (List.mem_of_getElem? (i := 3) rfl)) rfl dX11_decreasingCount_36 ?_
        obtain ⟨r_39, hr_39, hf⟩ := bd_some hf
        refine x_goi0 (ps := [6, 7, 8, 9, 1, 2, 3, 4, 5]) (x_runVN (As := [.int v2, .ref h_system, .ref h_order]) (rest := []) (ps := [6, 7, 8, 9, 1, 2, 3, 4, 5]) ⟨hx, hb, hml, hown, hts⟩ (k_X7_decreases l D G fu h_peaks h_system h_order a_system_words a_system_sources a_system_targets a_system_labels a_order_pairs a_order_below a_peaks_firsts a_peaks_seconds system_objects system_steps peaks_count system_labels system_sources system_targets order_below peaks_firsts peaks_seconds v2 r_39 hr_39) ⟨va_cnB 3 hts gX11_decreasingCount_X7_decreases_n214 rfl rfl rfl (hE.2 (.methodLinkNest RX11 214 yX7_decreases RX11) (List.mem_of_getElem? (i := 75) rfl)) (hts (.initialized RX7) (List.mem_of_getElem? (i := 5) rfl)) (by decide +kernel) ⟨Nat.le_of_ble_eq_true rfl, Nat.le_of_ble_eq_true rfl⟩, (hts (.instanceMethod yX7_decreases) (List.mem_of_getElem? (i := 11) rfl)), (hts (.selects RX7 yX7_decreases yX7_decreases) (List.mem_of_getElem? (i := 12) rfl))⟩ hE hP hN rfl (by decide) 3 rfl rfl rfl hl.1 (Nat.le_of_ble_eq_true rfl) dX11_decreasingCount_39 ⟨Nat.zero_le _, Nat.zero_le _⟩) hP hN hS rfl (fun H locs hP hS => ?_)
        refine lv_if_eq (tgt := 48) hx hb dX11_decreasingCount_42 (by decide) (fun c_42 => ?_) (fun c_42 => ?_)
        · have hf := it_pos c_42 hf
          exact J48 v1 v2  H locs ls  hP hS (lv_sub hl [0, 1, 2] rfl) hf
        · have hf := it_neg c_42 hf
          obtain ⟨v1_45, e_v1_45, hf⟩ := lt_some hf
          refine lv_iinc (v := v1_45) (lv' := [(1, .int v1_45), (0, .ref h), (2, .int v2)]) hx hb dX11_decreasingCount_45 hl (k := 1) rfl (by rw [e_v1_45]; rfl) (by decide) rfl (fun ls hl => ?_)
          exact J48 v1_45 v2  H locs ls  hP hS (lv_sub hl [1, 0, 2] rfl) hf
  refine lv_aload_n hx hb dX11_decreasingCount_0 rfl (lv_at hl 0 rfl) ?_
  refine x_get hx hb hts u_X11_decreasingCount_X11 hown hE hP 0 rfl rfl 7 (by decide) (hts (.fieldLink RX11 46 "DecreasingDiagrams" "peaks" "LDecreasingDiagrams$Peaks;") (List.mem_of_getElem? (i := 1) rfl)) rfl dX11_decreasingCount_1 ?_
  refine lv_aload_n hx hb dX11_decreasingCount_4 rfl (lv_at hl 0 rfl) ?_
  refine x_get hx hb hts u_X11_decreasingCount_X11 hown hE hP 0 rfl rfl 1 (by decide) (hts (.fieldLink RX11 19 "DecreasingDiagrams" "system" "LDecreasingDiagrams$LabelledSystem;") (List.mem_of_getElem? (i := 2) rfl)) rfl dX11_decreasingCount_5 ?_
  obtain ⟨r_8, hr_8, hf⟩ := bd_some hf
  refine x_gov (ps := [6, 8, 3, 4, 5]) (qs := [0, 1, 2, 7, 9]) (n := 10) (I' := [[(h, .inr (10, [.ref h_order, .ref h_system, .ref h_rules, .ref h_savedOrder, .ref h_savedSystem, .ref h_savedRules, .int snapshotSaved, .ref h_peaks, .ref h_leftPaths, .ref h_rightPaths, .ref h_text, .ref h_labellings, .ref h_input, .ref h_explorer, .ref h_arrays, .ref a_reach]))], [(h_order, .inr (2, [.ref a_order_pairs, .ref a_order_below]))], [(a_order_below, .inl (G 0, 8, .inl order_below))], [(h_peaks, .inr (7, [.int r_8.1, .ref a_peaks_firsts, .ref a_peaks_seconds]))], [(a_peaks_firsts, .inl (G 0, 496, .inl r_8.2.1))], [(a_peaks_seconds, .inl (G 0, 496, .inl r_8.2.2))], [(h_system, .inr (3, [.int system_objects, .ref a_system_words, .int system_steps, .ref a_system_sources, .ref a_system_targets, .ref a_system_labels]))], [(a_system_labels, .inl (G 0, 32, .inl system_labels))], [(a_system_sources, .inl (G 0, 32, .inl system_sources))], [(a_system_targets, .inl (G 0, 32, .inl system_targets))]]) (x_runVN (As := [.ref h_system]) (rest := []) (ps := [6, 8, 3, 4, 5]) ⟨hx, hb, hml, hown, hts⟩ (k_X7_collect l D G fu h_peaks h_system a_system_words a_system_sources a_system_targets a_system_labels a_peaks_firsts a_peaks_seconds system_objects system_steps peaks_count system_sources peaks_firsts peaks_seconds r_8 hr_8) ⟨va_cnB 1 hts gX11_decreasingCount_X7_collect_n195 rfl rfl rfl (hE.2 (.methodLinkNest RX11 195 yX7_collect RX11) (List.mem_of_getElem? (i := 73) rfl)) (hts (.initialized RX7) (List.mem_of_getElem? (i := 5) rfl)) (by decide +kernel) ⟨Nat.le_of_ble_eq_true rfl, Nat.le_of_ble_eq_true rfl⟩, (hts (.instanceMethod yX7_collect) (List.mem_of_getElem? (i := 4) rfl)), (hts (.selects RX7 yX7_collect yX7_collect) (List.mem_of_getElem? (i := 6) rfl))⟩ hE hP hN rfl (by decide) 3 rfl rfl rfl hl.1 (Nat.le_of_ble_eq_true rfl) dX11_decreasingCount_8 ⟨Nat.zero_le _, Nat.zero_le _⟩) hP hN hS rfl rfl rfl rfl rfl (by decide) (fun H locs hP hS => ?_)
  refine lv_iconst (v := 0) hx hb dX11_decreasingCount_11 (by decide) ?_
  obtain ⟨v1_12, e_v1_12, hf⟩ := lt_some hf
  refine x_istore_n (v := v1_12) (lv' := [(1, .int v1_12), (0, .ref h)]) hx hb dX11_decreasingCount_12 e_v1_12 rfl hl (by decide) rfl (fun ls hl => ?_)
  refine lv_iconst (v := 0) hx hb dX11_decreasingCount_13 (by decide) ?_
  obtain ⟨v2_14, e_v2_14, hf⟩ := lt_some hf
  refine x_istore_n (v := v2_14) (lv' := [(2, .int v2_14), (1, .int v1_12), (0, .ref h)]) hx hb dX11_decreasingCount_14 e_v2_14 rfl hl (by decide) rfl (fun ls hl => ?_)
  exact L15 r_8.1 r_8.2.1 r_8.2.2   fu v1_12 v2_14 H locs ls hP hS (lv_sub hl [2, 1, 0] rfl) hf

set_option maxRecDepth 20000 in
theorem u_X11_distance_X11 : ∀ w ∈ wsX110, w ∈ wsX11_distance := xx_pl _ [18, 19, 20, 21, 22, 23, 24, 25, 26, 27, 28, 29, 30, 31, 32, 33] (by decide +kernel)
set_option maxRecDepth 20000 in
theorem u_X11_distance_X3 : ∀ w ∈ wsX30, w ∈ wsX11_distance := xx_pl _ [34, 35, 36, 37, 38, 39] (by decide +kernel)
def f_X11_distance_L31 (fu : Nat) (system_objects : Int32) (system_steps : Int32) (system_labels : (Nat → Int32)) (system_sources : (Nat → Int32)) (system_targets : (Nat → Int32)) (v2 : Int32) (rec_31 : Int32 → Int32 → Option (Int32)) (v3 : Int32) (v4 : Int32) : Option (Int32) :=
  if system_objects ≤ v4 then (some (-2)) else ((f_X11_isIn v3 v2).bind (fun r_45 => if r_45 = 0 then ((f_X3_successors fu system_steps system_labels system_sources system_targets v3 255).bind (fun r_62 => lt r_62 (fun v3_65 => lt (v4 + 1) (fun v4_66 => rec_31 v3_65 v4_66)))) else (some v4)))
def f_X11_distance (fu : Nat) (system_objects : Int32) (system_steps : Int32) (system_labels : (Nat → Int32)) (system_sources : (Nat → Int32)) (system_targets : (Nat → Int32)) (v1 : Int32) (v2 : Int32) : Option (Int32) :=
  (f_X3_hasObject system_objects v1).bind (fun r_5 => if r_5 = 0 then (some (-1)) else ((f_X3_hasObject system_objects v2).bind (fun r_16 => if ¬ r_16 = 0 then (lt (1 <<< (v1 &&& 31)) (fun v3_27 => lt (0 : Int32) (fun v4_29 => lp (τ := Int32 → Int32 → Option (Int32)) (fun _ _ => none) (f_X11_distance_L31 fu system_objects system_steps system_labels system_sources system_targets v2) fu v3_27 v4_29))) else (some (-1)))))
set_option maxHeartbeats 4000000 in
set_option maxRecDepth 100000 in
theorem k_X11_distance (l : Launch) (D : va_G) (G : Nat → ClassId) (fu : Nat) (h : Nat) (h_order : Nat) (h_system : Nat) (h_rules : Nat) (h_savedOrder : Nat) (h_savedSystem : Nat) (h_savedRules : Nat) (h_peaks : Nat) (h_leftPaths : Nat) (h_rightPaths : Nat) (h_text : Nat) (h_labellings : Nat) (h_input : Nat) (h_explorer : Nat) (h_arrays : Nat) (a_reach : Nat) (a_system_words : Nat) (a_system_sources : Nat) (a_system_targets : Nat) (a_system_labels : Nat) (snapshotSaved : Int32) (system_objects : Int32) (system_steps : Int32) (system_labels : (Nat → Int32)) (system_sources : (Nat → Int32)) (system_targets : (Nat → Int32))  (v1 : Int32) (v2 : Int32) (out : Int32) (hf : f_X11_distance fu system_objects system_steps system_labels system_sources system_targets v1 v2 = some out) : xMet l yX11_distance wsX11_distance (rM 1 24) D G [.ref h, .int v1, .int v2] [[(h, .inr (10, [.ref h_order, .ref h_system, .ref h_rules, .ref h_savedOrder, .ref h_savedSystem, .ref h_savedRules, .int snapshotSaved, .ref h_peaks, .ref h_leftPaths, .ref h_rightPaths, .ref h_text, .ref h_labellings, .ref h_input, .ref h_explorer, .ref h_arrays, .ref a_reach]))], [(h_system, .inr (3, [.int system_objects, .ref a_system_words, .int system_steps, .ref a_system_sources, .ref a_system_targets, .ref a_system_labels]))], [(a_system_labels, .inl (G 0, 32, .inl system_labels))], [(a_system_sources, .inl (G 0, 32, .inl system_sources))], [(a_system_targets, .inl (G 0, 32, .inl system_targets))]] (xQi D [[(h, .inr (10, [.ref h_order, .ref h_system, .ref h_rules, .ref h_savedOrder, .ref h_savedSystem, .ref h_savedRules, .int snapshotSaved, .ref h_peaks, .ref h_leftPaths, .ref h_rightPaths, .ref h_text, .ref h_labellings, .ref h_input, .ref h_explorer, .ref h_arrays, .ref a_reach]))], [(h_system, .inr (3, [.int system_objects, .ref a_system_words, .int system_steps, .ref a_system_sources, .ref a_system_targets, .ref a_system_labels]))], [(a_system_labels, .inl (G 0, 32, .inl system_labels))], [(a_system_sources, .inl (G 0, 32, .inl system_sources))], [(a_system_targets, .inl (G 0, 32, .inl system_targets))]] out) := by
  refine x_ent (cc := cX11_distance) (maxL := 5) (by decide) rfl (Nat.le_of_ble_eq_true rfl) ?_
  intro p e s m blw meth c aa ls args Q H locs hQ hx hb hr hml hown hts hlocks hE hN hl hP hS
  have hown : s.vm.findClass RX11 = some m.cls := hown
  have hl : lv_has ls 5 [(0, .ref h), (1, .int v1), (2, .int v2)] := hl
  have L31 : ∀ (n_31 : Nat) (v3 : Int32) (v4 : Int32) (H : Heap) (locs : List Loc) (ls : Array Slot), xW D aa [[(h, .inr (10, [.ref h_order, .ref h_system, .ref h_rules, .ref h_savedOrder, .ref h_savedSystem, .ref h_savedRules, .int snapshotSaved, .ref h_peaks, .ref h_leftPaths, .ref h_rightPaths, .ref h_text, .ref h_labellings, .ref h_input, .ref h_explorer, .ref h_arrays, .ref a_reach]))], [(h_system, .inr (3, [.int system_objects, .ref a_system_words, .int system_steps, .ref a_system_sources, .ref a_system_targets, .ref a_system_labels]))], [(a_system_labels, .inl (G 0, 32, .inl system_labels))], [(a_system_sources, .inl (G 0, 32, .inl system_sources))], [(a_system_targets, .inl (G 0, 32, .inl system_targets))]] H → va_S (xA aa) s.heap H locs → lv_has ls 5 [(0, .ref h), (2, .int v2), (3, .int v3), (4, .int v4)] → lp (τ := Int32 → Int32 → Option (Int32)) (fun _ _ => none) (f_X11_distance_L31 fu system_objects system_steps system_labels system_sources system_targets v2) n_31 v3 v4 = some out → W p l e (rM 1 24) s m args blw meth c H locs 0 0 Q (F0 m 31 ls []) := by
    intro    n_31
    induction n_31 with
    | zero =>
      intro v3 v4 H locs ls hP hS hl hf
      exact no_some hf
    | succ n_31 ih_31 =>
      intro v3 v4 H locs ls hP hS hl hf
      have hf : f_X11_distance_L31 fu system_objects system_steps system_labels system_sources system_targets v2 (lp (τ := Int32 → Int32 → Option (Int32)) (fun _ _ => none) (f_X11_distance_L31 fu system_objects system_steps system_labels system_sources system_targets v2) n_31) v3 v4 = some out := hf
      refine lv_iload hx hb dX11_distance_31 (lv_at hl 3 rfl) ?_
      refine lv_aload_n hx hb dX11_distance_33 rfl (lv_at hl 0 rfl) ?_
      refine x_get hx hb hts u_X11_distance_X11 hown hE hP 0 rfl rfl 1 (by decide) (hts (.fieldLink RX11 19 "DecreasingDiagrams" "system" "LDecreasingDiagrams$LabelledSystem;") (List.mem_of_getElem? (i := 1) rfl)) rfl dX11_distance_34 ?_
      refine x_getN hx hb hts u_X11_distance_X3 hown hE hP 1 rfl rfl 0 (by decide) (hE.2 (.fieldLinkNest RX11 149 "DecreasingDiagrams$LabelledSystem" "objects" "I" RX11) (List.mem_of_getElem? (i := 5) rfl)) rfl dX11_distance_37 ?_
      refine lv_icmp_ge (tgt := 72) hx hb dX11_distance_40 (by decide) (fun c_40 => ?_) (fun c_40 => ?_)
      · have hf := it_pos c_40 hf
        refine lv_bipush (v := -2) hx hb dX11_distance_72 (by decide) ?_
        have hf := Option.some.inj hf
        rewrite [← hQ, ← hf]
        exact x_iret hx hb hr hlocks hP hS dX11_distance_74
      · have hf := it_neg c_40 hf
        refine lv_iload_n hx hb dX11_distance_43 rfl (lv_at hl 2 rfl) ?_
        refine lv_iload_n hx hb dX11_distance_44 rfl (lv_at hl 1 rfl) ?_
        obtain ⟨r_45, hr_45, hf⟩ := bd_some hf
        refine x_goi0 (ps := []) (x_runS (As := [.int v3, .int v2]) (rest := []) (ps := []) ⟨hx, hb, hml, hown, hts⟩ (k_X11_isIn l D G fu v3 v2 r_45 hr_45) (va_cwS 2 hts gX11_distance_X11_isIn rfl rfl rfl (by decide +kernel) ⟨Nat.le_of_ble_eq_true rfl, Nat.le_of_ble_eq_true rfl⟩) hE hP hN rfl (by decide) rfl hl.1 (Nat.le_of_ble_eq_true rfl) dX11_distance_45 ⟨Nat.zero_le _, Nat.zero_le _⟩) hP hN hS rfl (fun H locs hP hS => ?_)
        refine lv_if_eq (tgt := 54) hx hb dX11_distance_48 (by decide) (fun c_48 => ?_) (fun c_48 => ?_)
        · have hf := it_pos c_48 hf
          refine lv_aload_n hx hb dX11_distance_54 rfl (lv_at hl 0 rfl) ?_
          refine x_get hx hb hts u_X11_distance_X11 hown hE hP 0 rfl rfl 1 (by decide) (hts (.fieldLink RX11 19 "DecreasingDiagrams" "system" "LDecreasingDiagrams$LabelledSystem;") (List.mem_of_getElem? (i := 1) rfl)) rfl dX11_distance_55 ?_
          refine lv_iload_n hx hb dX11_distance_58 rfl (lv_at hl 2 rfl) ?_
          refine lv_sipush (v := 255) hx hb dX11_distance_59 (by decide) ?_
          obtain ⟨r_62, hr_62, hf⟩ := bd_some hf
          refine x_goi0 (ps := [1, 2, 3, 4]) (x_runVN (As := [.int v3, .int 255]) (rest := []) (ps := [1, 2, 3, 4]) ⟨hx, hb, hml, hown, hts⟩ (k_X3_successors l D G fu h_system a_system_words a_system_sources a_system_targets a_system_labels system_objects system_steps system_labels system_sources system_targets v3 255 r_62 hr_62) ⟨va_cnB 2 hts gX11_distance_X3_successors_n164 rfl rfl rfl (hE.2 (.methodLinkNest RX11 164 yX3_successors RX11) (List.mem_of_getElem? (i := 66) rfl)) (hts (.initialized RX3) (List.mem_of_getElem? (i := 3) rfl)) (by decide +kernel) ⟨Nat.le_of_ble_eq_true rfl, Nat.le_of_ble_eq_true rfl⟩, (hts (.instanceMethod yX3_successors) (List.mem_of_getElem? (i := 11) rfl)), (hts (.selects RX3 yX3_successors yX3_successors) (List.mem_of_getElem? (i := 12) rfl))⟩ hE hP hN rfl (by decide) 1 rfl rfl rfl hl.1 (Nat.le_of_ble_eq_true rfl) dX11_distance_62 ⟨Nat.zero_le _, Nat.zero_le _⟩) hP hN hS rfl (fun H locs hP hS => ?_)
          obtain ⟨v3_65, e_v3_65, hf⟩ := lt_some hf
          refine x_istore_n (v := v3_65) (lv' := [(3, .int v3_65), (0, .ref h), (2, .int v2), (4, .int v4)]) hx hb dX11_distance_65 e_v3_65 rfl hl (by decide) rfl (fun ls hl => ?_)
          obtain ⟨v4_66, e_v4_66, hf⟩ := lt_some hf
          refine lv_iinc (v := v4_66) (lv' := [(4, .int v4_66), (3, .int v3_65), (0, .ref h), (2, .int v2)]) hx hb dX11_distance_66 hl (k := 3) rfl (by rw [e_v4_66]; rfl) (by decide) rfl (fun ls hl => ?_)
          refine lv_goto (tgt := 31) hx hb dX11_distance_69 (by decide) ?_
          exact ih_31 v3_65 v4_66 H locs ls hP hS (lv_sub hl [2, 3, 1, 0] rfl) hf
        · have hf := it_neg c_48 hf
          refine lv_iload hx hb dX11_distance_51 (lv_at hl 3 rfl) ?_
          have hf := Option.some.inj hf
          rewrite [← hQ, ← hf]
          exact x_iret hx hb hr hlocks hP hS dX11_distance_53
  refine lv_aload_n hx hb dX11_distance_0 rfl (lv_at hl 0 rfl) ?_
  refine x_get hx hb hts u_X11_distance_X11 hown hE hP 0 rfl rfl 1 (by decide) (hts (.fieldLink RX11 19 "DecreasingDiagrams" "system" "LDecreasingDiagrams$LabelledSystem;") (List.mem_of_getElem? (i := 1) rfl)) rfl dX11_distance_1 ?_
  refine lv_iload_n hx hb dX11_distance_4 rfl (lv_at hl 1 rfl) ?_
  obtain ⟨r_5, hr_5, hf⟩ := bd_some hf
  refine x_goi0 (ps := [1]) (x_runVN (As := [.int v1]) (rest := []) (ps := [1]) ⟨hx, hb, hml, hown, hts⟩ (k_X3_hasObject l D G fu h_system a_system_words a_system_sources a_system_targets a_system_labels system_objects system_steps v1 r_5 hr_5) ⟨va_cnB 1 hts gX11_distance_X3_hasObject_n128 rfl rfl rfl (hE.2 (.methodLinkNest RX11 128 yX3_hasObject RX11) (List.mem_of_getElem? (i := 61) rfl)) (hts (.initialized RX3) (List.mem_of_getElem? (i := 3) rfl)) (by decide +kernel) ⟨Nat.le_of_ble_eq_true rfl, Nat.le_of_ble_eq_true rfl⟩, (hts (.instanceMethod yX3_hasObject) (List.mem_of_getElem? (i := 2) rfl)), (hts (.selects RX3 yX3_hasObject yX3_hasObject) (List.mem_of_getElem? (i := 4) rfl))⟩ hE hP hN rfl (by decide) 1 rfl rfl rfl hl.1 (Nat.le_of_ble_eq_true rfl) dX11_distance_5 ⟨Nat.zero_le _, Nat.zero_le _⟩) hP hN hS rfl (fun H locs hP hS => ?_)
  refine lv_if_eq (tgt := 22) hx hb dX11_distance_8 (by decide) (fun c_8 => ?_) (fun c_8 => ?_)
  · have hf := it_pos c_8 hf
    refine lv_iconst (v := -1) hx hb dX11_distance_22 (by decide) ?_
    have hf := Option.some.inj hf
    rewrite [← hQ, ← hf]
    exact x_iret hx hb hr hlocks hP hS dX11_distance_23
  · have hf := it_neg c_8 hf
    refine lv_aload_n hx hb dX11_distance_11 rfl (lv_at hl 0 rfl) ?_
    refine x_get hx hb hts u_X11_distance_X11 hown hE hP 0 rfl rfl 1 (by decide) (hts (.fieldLink RX11 19 "DecreasingDiagrams" "system" "LDecreasingDiagrams$LabelledSystem;") (List.mem_of_getElem? (i := 1) rfl)) rfl dX11_distance_12 ?_
    refine lv_iload_n hx hb dX11_distance_15 rfl (lv_at hl 2 rfl) ?_
    obtain ⟨r_16, hr_16, hf⟩ := bd_some hf
    refine x_goi0 (ps := [1]) (x_runVN (As := [.int v2]) (rest := []) (ps := [1]) ⟨hx, hb, hml, hown, hts⟩ (k_X3_hasObject l D G fu h_system a_system_words a_system_sources a_system_targets a_system_labels system_objects system_steps v2 r_16 hr_16) ⟨va_cnB 1 hts gX11_distance_X3_hasObject_n128 rfl rfl rfl (hE.2 (.methodLinkNest RX11 128 yX3_hasObject RX11) (List.mem_of_getElem? (i := 61) rfl)) (hts (.initialized RX3) (List.mem_of_getElem? (i := 3) rfl)) (by decide +kernel) ⟨Nat.le_of_ble_eq_true rfl, Nat.le_of_ble_eq_true rfl⟩, (hts (.instanceMethod yX3_hasObject) (List.mem_of_getElem? (i := 2) rfl)), (hts (.selects RX3 yX3_hasObject yX3_hasObject) (List.mem_of_getElem? (i := 4) rfl))⟩ hE hP hN rfl (by decide) 1 rfl rfl rfl hl.1 (Nat.le_of_ble_eq_true rfl) dX11_distance_16 ⟨Nat.zero_le _, Nat.zero_le _⟩) hP hN hS rfl (fun H locs hP hS => ?_)
    refine lv_if_ne (tgt := 24) hx hb dX11_distance_19 (by decide) (fun c_19 => ?_) (fun c_19 => ?_)
    · have hf := it_pos c_19 hf
      refine lv_iconst (v := 1) hx hb dX11_distance_24 (by decide) ?_
      refine lv_iload_n hx hb dX11_distance_25 rfl (lv_at hl 1 rfl) ?_
      refine lv_ishl hx hb dX11_distance_26 ?_
      obtain ⟨v3_27, e_v3_27, hf⟩ := lt_some hf
      refine x_istore_n (v := v3_27) (lv' := [(3, .int v3_27), (0, .ref h), (1, .int v1), (2, .int v2)]) hx hb dX11_distance_27 e_v3_27 rfl hl (by decide) rfl (fun ls hl => ?_)
      refine lv_iconst (v := 0) hx hb dX11_distance_28 (by decide) ?_
      obtain ⟨v4_29, e_v4_29, hf⟩ := lt_some hf
      refine x_istore (v := v4_29) (lv' := [(4, .int v4_29), (3, .int v3_27), (0, .ref h), (1, .int v1), (2, .int v2)]) hx hb dX11_distance_29 e_v4_29 hl (by decide) rfl (fun ls hl => ?_)
      exact L31    fu v3_27 v4_29 H locs ls hP hS (lv_sub hl [2, 4, 1, 0] rfl) hf
    · have hf := it_neg (fun h => h c_19) hf
      refine lv_iconst (v := -1) hx hb dX11_distance_22 (by decide) ?_
      have hf := Option.some.inj hf
      rewrite [← hQ, ← hf]
      exact x_iret hx hb hr hlocks hP hS dX11_distance_23

set_option maxRecDepth 20000 in
theorem u_X7_has_X7 : ∀ w ∈ wsX70, w ∈ wsX7_has := xx_pl _ [2, 3, 4] (by decide +kernel)
def f_X7_has (count : Int32) (v1 : Int32) : Option (Int32) :=
  if v1 < 0 then (some 0) else (if count ≤ v1 then (some 0) else (some 1))
set_option maxHeartbeats 4000000 in
set_option maxRecDepth 100000 in
theorem k_X7_has (l : Launch) (D : va_G) (G : Nat → ClassId) (fu : Nat) (h : Nat) (a_firsts : Nat) (a_seconds : Nat) (count : Int32)  (v1 : Int32) (out : Int32) (hf : f_X7_has count v1 = some out) : xMet l yX7_has wsX7_has (rM 0 0) D G [.ref h, .int v1] [[(h, .inr (7, [.int count, .ref a_firsts, .ref a_seconds]))]] (xQi D [[(h, .inr (7, [.int count, .ref a_firsts, .ref a_seconds]))]] out) := by
  refine x_ent (cc := cX7_has) (maxL := 2) (by decide) rfl (Nat.le_of_ble_eq_true rfl) ?_
  intro p e s m blw meth c aa ls args Q H locs hQ hx hb hr hml hown hts hlocks hE hN hl hP hS
  have hown : s.vm.findClass RX7 = some m.cls := hown
  have hl : lv_has ls 2 [(0, .ref h), (1, .int v1)] := hl
  refine lv_iload_n hx hb dX7_has_0 rfl (lv_at hl 1 rfl) ?_
  refine lv_if_lt (tgt := 16) hx hb dX7_has_1 (by decide) (fun c_1 => ?_) (fun c_1 => ?_)
  · have hf := it_pos c_1 hf
    refine lv_iconst (v := 0) hx hb dX7_has_16 (by decide) ?_
    have hf := Option.some.inj hf
    rewrite [← hQ, ← hf]
    exact x_zret (r := 0) hx hb hr hlocks rfl hP hS dX7_has_17
  · have hf := it_neg c_1 hf
    refine lv_iload_n hx hb dX7_has_4 rfl (lv_at hl 1 rfl) ?_
    refine lv_aload_n hx hb dX7_has_5 rfl (lv_at hl 0 rfl) ?_
    refine x_get hx hb hts u_X7_has_X7 hown hE hP 0 rfl rfl 0 (by decide) (hts (.fieldLink RX7 9 "DecreasingDiagrams$Peaks" "count" "I") (List.mem_of_getElem? (i := 1) rfl)) rfl dX7_has_6 ?_
    refine lv_icmp_ge (tgt := 16) hx hb dX7_has_9 (by decide) (fun c_9 => ?_) (fun c_9 => ?_)
    · have hf := it_pos c_9 hf
      refine lv_iconst (v := 0) hx hb dX7_has_16 (by decide) ?_
      have hf := Option.some.inj hf
      rewrite [← hQ, ← hf]
      exact x_zret (r := 0) hx hb hr hlocks rfl hP hS dX7_has_17
    · have hf := it_neg c_9 hf
      refine lv_iconst (v := 1) hx hb dX7_has_12 (by decide) ?_
      refine lv_goto (tgt := 17) hx hb dX7_has_13 (by decide) ?_
      have hf := Option.some.inj hf
      rewrite [← hQ, ← hf]
      exact x_zret (r := 1) hx hb hr hlocks rfl hP hS dX7_has_17

set_option maxRecDepth 20000 in
theorem u_X9_isMet_X9 : ∀ w ∈ wsX90, w ∈ wsX9_isMet := xx_pl _ [4, 5, 6, 7, 8, 9, 10, 11, 12, 13] (by decide +kernel)
def f_X9_isMet_J32 (rec_2 : (Int32 → Option (Int32))) (v3 : Int32) : Option (Int32) :=
  lt (v3 + 1) (fun v3_32 => rec_2 v3_32)
def f_X9_isMet_L2 (places : Int32) (objects : (Nat → Int32)) (parts : (Nat → Int32)) (v1 : Int32) (v2 : Int32) (rec_2 : Int32 → Option (Int32)) (v3 : Int32) : Option (Int32) :=
  if places ≤ v3 then (some 0) else (ck v3 32 (if ¬ (objects v3.toNatClampNeg) = v1 then (f_X9_isMet_J32 rec_2 v3) else (ck v3 32 (if ¬ (parts v3.toNatClampNeg) = v2 then (f_X9_isMet_J32 rec_2 v3) else (some 1)))))
def f_X9_isMet (fu : Nat) (places : Int32) (objects : (Nat → Int32)) (parts : (Nat → Int32)) (v1 : Int32) (v2 : Int32) : Option (Int32) :=
  lt (0 : Int32) (fun v3_1 => lp (τ := Int32 → Option (Int32)) (fun _ => none) (f_X9_isMet_L2 places objects parts v1 v2) fu v3_1)
set_option maxHeartbeats 4000000 in
set_option maxRecDepth 100000 in
theorem k_X9_isMet (l : Launch) (D : va_G) (G : Nat → ClassId) (fu : Nat) (h : Nat) (a_objects : Nat) (a_parts : Nat) (a_lengths : Nat) (a_previous : Nat) (a_arrivals : Nat) (a_firstPlaces : Nat) (belowOwn : Int32) (belowEither : Int32) (other : Int32) (places : Int32) (objects : (Nat → Int32)) (parts : (Nat → Int32))  (v1 : Int32) (v2 : Int32) (out : Int32) (hf : f_X9_isMet fu places objects parts v1 v2 = some out) : xMet l yX9_isMet wsX9_isMet (rM 0 0) D G [.ref h, .int v1, .int v2] [[(h, .inr (9, [.int belowOwn, .int belowEither, .int other, .int places, .ref a_objects, .ref a_parts, .ref a_lengths, .ref a_previous, .ref a_arrivals, .ref a_firstPlaces]))], [(a_objects, .inl (G 0, 32, .inl objects))], [(a_parts, .inl (G 0, 32, .inl parts))]] (xQi D [[(h, .inr (9, [.int belowOwn, .int belowEither, .int other, .int places, .ref a_objects, .ref a_parts, .ref a_lengths, .ref a_previous, .ref a_arrivals, .ref a_firstPlaces]))], [(a_objects, .inl (G 0, 32, .inl objects))], [(a_parts, .inl (G 0, 32, .inl parts))]] out) := by
  refine x_ent (cc := cX9_isMet) (maxL := 4) (by decide) rfl (Nat.le_of_ble_eq_true rfl) ?_
  intro p e s m blw meth c aa ls args Q H locs hQ hx hb hr hml hown hts hlocks hE hN hl hP hS
  have hown : s.vm.findClass RX9 = some m.cls := hown
  have hl : lv_has ls 4 [(0, .ref h), (1, .int v1), (2, .int v2)] := hl
  have L2 : ∀ (n_2 : Nat) (v3 : Int32) (H : Heap) (locs : List Loc) (ls : Array Slot), xW D aa [[(h, .inr (9, [.int belowOwn, .int belowEither, .int other, .int places, .ref a_objects, .ref a_parts, .ref a_lengths, .ref a_previous, .ref a_arrivals, .ref a_firstPlaces]))], [(a_objects, .inl (G 0, 32, .inl objects))], [(a_parts, .inl (G 0, 32, .inl parts))]] H → va_S (xA aa) s.heap H locs → lv_has ls 4 [(0, .ref h), (1, .int v1), (2, .int v2), (3, .int v3)] → lp (τ := Int32 → Option (Int32)) (fun _ => none) (f_X9_isMet_L2 places objects parts v1 v2) n_2 v3 = some out → W p l e (rM 0 0) s m args blw meth c H locs 0 0 Q (F0 m 2 ls []) := by
    intro    n_2
    induction n_2 with
    | zero =>
      intro v3 H locs ls hP hS hl hf
      exact no_some hf
    | succ n_2 ih_2 =>
      intro v3 H locs ls hP hS hl hf
      have hf : f_X9_isMet_L2 places objects parts v1 v2 (lp (τ := Int32 → Option (Int32)) (fun _ => none) (f_X9_isMet_L2 places objects parts v1 v2) n_2) v3 = some out := hf
      have J32 : ∀ (v3 : Int32) (H : Heap) (locs : List Loc) (ls : Array Slot), xW D aa [[(h, .inr (9, [.int belowOwn, .int belowEither, .int other, .int places, .ref a_objects, .ref a_parts, .ref a_lengths, .ref a_previous, .ref a_arrivals, .ref a_firstPlaces]))], [(a_objects, .inl (G 0, 32, .inl objects))], [(a_parts, .inl (G 0, 32, .inl parts))]] H → va_S (xA aa) s.heap H locs → lv_has ls 4 [(0, .ref h), (1, .int v1), (2, .int v2), (3, .int v3)] → f_X9_isMet_J32 (lp (τ := Int32 → Option (Int32)) (fun _ => none) (f_X9_isMet_L2 places objects parts v1 v2) n_2) v3 = some out → W p l e (rM 0 0) s m args blw meth c H locs 0 0 Q (F0 m 32 ls []) := by
        intro v3  H locs ls  hP hS hl hf
        obtain ⟨v3_32, e_v3_32, hf⟩ := lt_some hf
        refine lv_iinc (v := v3_32) (lv' := [(3, .int v3_32), (0, .ref h), (1, .int v1), (2, .int v2)]) hx hb dX9_isMet_32 hl (k := 3) rfl (by rw [e_v3_32]; rfl) (by decide) rfl (fun ls hl => ?_)
        refine lv_goto (tgt := 2) hx hb dX9_isMet_35 (by decide) ?_
        exact ih_2 v3_32 H locs ls hP hS (lv_sub hl [1, 2, 3, 0] rfl) hf
      refine lv_iload_n hx hb dX9_isMet_2 rfl (lv_at hl 3 rfl) ?_
      refine lv_aload_n hx hb dX9_isMet_3 rfl (lv_at hl 0 rfl) ?_
      refine x_get hx hb hts u_X9_isMet_X9 hown hE hP 0 rfl rfl 3 (by decide) (hts (.fieldLink RX9 21 "DecreasingDiagrams$SidePaths" "places" "I") (List.mem_of_getElem? (i := 1) rfl)) rfl dX9_isMet_4 ?_
      refine lv_icmp_ge (tgt := 38) hx hb dX9_isMet_7 (by decide) (fun c_7 => ?_) (fun c_7 => ?_)
      · have hf := it_pos c_7 hf
        refine lv_iconst (v := 0) hx hb dX9_isMet_38 (by decide) ?_
        have hf := Option.some.inj hf
        rewrite [← hQ, ← hf]
        exact x_zret (r := 0) hx hb hr hlocks rfl hP hS dX9_isMet_39
      · have hf := it_neg c_7 hf
        refine lv_aload_n hx hb dX9_isMet_10 rfl (lv_at hl 0 rfl) ?_
        refine x_get hx hb hts u_X9_isMet_X9 hown hE hP 0 rfl rfl 4 (by decide) (hts (.fieldLink RX9 24 "DecreasingDiagrams$SidePaths" "objects" "[I") (List.mem_of_getElem? (i := 2) rfl)) rfl dX9_isMet_11 ?_
        refine lv_iload_n hx hb dX9_isMet_14 rfl (lv_at hl 3 rfl) ?_
        obtain ⟨hi, hf⟩ := ck_some hf
        refine x_iald hx hb hE hP 1 rfl hi dX9_isMet_15 ?_
        refine lv_iload_n hx hb dX9_isMet_16 rfl (lv_at hl 1 rfl) ?_
        refine lv_icmp_ne (tgt := 32) hx hb dX9_isMet_17 (by decide) (fun c_17 => ?_) (fun c_17 => ?_)
        · have hf := it_pos c_17 hf
          exact J32 v3  H locs ls  hP hS (lv_sub hl [0, 1, 2, 3] rfl) hf
        · have hf := it_neg (fun h => h c_17) hf
          refine lv_aload_n hx hb dX9_isMet_20 rfl (lv_at hl 0 rfl) ?_
          refine x_get hx hb hts u_X9_isMet_X9 hown hE hP 0 rfl rfl 5 (by decide) (hts (.fieldLink RX9 28 "DecreasingDiagrams$SidePaths" "parts" "[I") (List.mem_of_getElem? (i := 3) rfl)) rfl dX9_isMet_21 ?_
          refine lv_iload_n hx hb dX9_isMet_24 rfl (lv_at hl 3 rfl) ?_
          obtain ⟨hi, hf⟩ := ck_some hf
          refine x_iald hx hb hE hP 2 rfl hi dX9_isMet_25 ?_
          refine lv_iload_n hx hb dX9_isMet_26 rfl (lv_at hl 2 rfl) ?_
          refine lv_icmp_ne (tgt := 32) hx hb dX9_isMet_27 (by decide) (fun c_27 => ?_) (fun c_27 => ?_)
          · have hf := it_pos c_27 hf
            exact J32 v3  H locs ls  hP hS (lv_sub hl [0, 1, 2, 3] rfl) hf
          · have hf := it_neg (fun h => h c_27) hf
            refine lv_iconst (v := 1) hx hb dX9_isMet_30 (by decide) ?_
            have hf := Option.some.inj hf
            rewrite [← hQ, ← hf]
            exact x_zret (r := 1) hx hb hr hlocks rfl hP hS dX9_isMet_31
  refine lv_iconst (v := 0) hx hb dX9_isMet_0 (by decide) ?_
  obtain ⟨v3_1, e_v3_1, hf⟩ := lt_some hf
  refine x_istore_n (v := v3_1) (lv' := [(3, .int v3_1), (0, .ref h), (1, .int v1), (2, .int v2)]) hx hb dX9_isMet_1 e_v3_1 rfl hl (by decide) rfl (fun ls hl => ?_)
  exact L2    fu v3_1 H locs ls hP hS (lv_sub hl [1, 2, 3, 0] rfl) hf

set_option maxRecDepth 20000 in
theorem u_X9_meet_X9 : ∀ w ∈ wsX90, w ∈ wsX9_meet := xx_pl _ [13, 14, 15, 16, 17, 18, 19, 20, 21, 22] (by decide +kernel)
def f_X9_meet_J108  (arrivals : (Nat → Int32)) (firstPlaces : (Nat → Int32)) (lengths : (Nat → Int32)) (objects : (Nat → Int32)) (parts : (Nat → Int32)) (places : Int32) (previous : (Nat → Int32)) : Option ((Nat → Int32) × (Nat → (Nat → Int32))) :=
  lt (places + 1) (fun places_115 => some (vv (0 : Int32) [places_115], vv (fun _ => (0 : Int32)) [arrivals, firstPlaces, lengths, objects, parts, previous]))
def f_X9_meet_J65 (v1 : Int32) (v3 : Int32) (v4 : Int32) (t1 : Int32) (t2 : Int32) (arrivals : (Nat → Int32)) (firstPlaces : (Nat → Int32)) (lengths : (Nat → Int32)) (objects : (Nat → Int32)) (parts : (Nat → Int32)) (places : Int32) (previous : (Nat → Int32)) : Option ((Nat → Int32) × (Nat → (Nat → Int32))) :=
  ck t1 32 (lt (upd lengths t1.toNatClampNeg t2) (fun lengths_65 => ck places 32 (lt (upd previous places.toNatClampNeg v3) (fun previous_75 => ck places 32 (lt (upd arrivals places.toNatClampNeg v4) (fun arrivals_86 => ck v1 16 (if ¬ (firstPlaces v1.toNatClampNeg) = (-2) then (f_X9_meet_J108 arrivals_86 firstPlaces lengths_65 objects parts places previous_75) else (ck v1 16 (lt (upd firstPlaces v1.toNatClampNeg places) (fun firstPlaces_107 => f_X9_meet_J108 arrivals_86 firstPlaces_107 lengths_65 objects parts places previous_75))))))))))
def f_X9_meet (fu : Nat) (places : Int32) (arrivals : (Nat → Int32)) (firstPlaces : (Nat → Int32)) (lengths : (Nat → Int32)) (objects : (Nat → Int32)) (parts : (Nat → Int32)) (previous : (Nat → Int32)) (v1 : Int32) (v2 : Int32) (v3 : Int32) (v4 : Int32) : Option ((Nat → Int32) × (Nat → (Nat → Int32))) :=
  if 32 ≤ places then (some (vv (0 : Int32) [places], vv (fun _ => (0 : Int32)) [arrivals, firstPlaces, lengths, objects, parts, previous])) else ((f_X9_isMet fu places objects parts v1 v2).bind (fun r_12 => if r_12 = 0 then (ck places 32 (lt (upd objects places.toNatClampNeg v1) (fun objects_28 => ck places 32 (lt (upd parts places.toNatClampNeg v2) (fun parts_38 => if ¬ v3 = (-2) then (ck v3 32 (f_X9_meet_J65 v1 v3 v4 places ((lengths v3.toNatClampNeg) + 1) arrivals firstPlaces lengths objects_28 parts_38 places previous)) else (f_X9_meet_J65 v1 v3 v4 places 0 arrivals firstPlaces lengths objects_28 parts_38 places previous)))))) else (some (vv (0 : Int32) [places], vv (fun _ => (0 : Int32)) [arrivals, firstPlaces, lengths, objects, parts, previous]))))
set_option maxHeartbeats 4000000 in
set_option maxRecDepth 100000 in
theorem k_X9_meet (l : Launch) (D : va_G) (G : Nat → ClassId) (fu : Nat) (h : Nat) (a_objects : Nat) (a_parts : Nat) (a_lengths : Nat) (a_previous : Nat) (a_arrivals : Nat) (a_firstPlaces : Nat) (belowOwn : Int32) (belowEither : Int32) (other : Int32) (places : Int32) (arrivals : (Nat → Int32)) (firstPlaces : (Nat → Int32)) (lengths : (Nat → Int32)) (objects : (Nat → Int32)) (parts : (Nat → Int32)) (previous : (Nat → Int32))  (v1 : Int32) (v2 : Int32) (v3 : Int32) (v4 : Int32) (out : (Nat → Int32) × (Nat → (Nat → Int32))) (hf : f_X9_meet fu places arrivals firstPlaces lengths objects parts previous v1 v2 v3 v4 = some out) : xMet l yX9_meet wsX9_meet (rM 1 23) D G [.ref h, .int v1, .int v2, .int v3, .int v4] [[(h, .inr (9, [.int belowOwn, .int belowEither, .int other, .int places, .ref a_objects, .ref a_parts, .ref a_lengths, .ref a_previous, .ref a_arrivals, .ref a_firstPlaces]))], [(a_arrivals, .inl (G 0, 32, .inl arrivals))], [(a_firstPlaces, .inl (G 0, 16, .inl firstPlaces))], [(a_lengths, .inl (G 0, 32, .inl lengths))], [(a_objects, .inl (G 0, 32, .inl objects))], [(a_parts, .inl (G 0, 32, .inl parts))], [(a_previous, .inl (G 0, 32, .inl previous))]] (xQv D [[(h, .inr (9, [.int belowOwn, .int belowEither, .int other, .int (out.1 0), .ref a_objects, .ref a_parts, .ref a_lengths, .ref a_previous, .ref a_arrivals, .ref a_firstPlaces]))], [(a_arrivals, .inl (G 0, 32, .inl (out.2 0)))], [(a_firstPlaces, .inl (G 0, 16, .inl (out.2 1)))], [(a_lengths, .inl (G 0, 32, .inl (out.2 2)))], [(a_objects, .inl (G 0, 32, .inl (out.2 3)))], [(a_parts, .inl (G 0, 32, .inl (out.2 4)))], [(a_previous, .inl (G 0, 32, .inl (out.2 5)))]]) := by
  refine x_ent (cc := cX9_meet) (maxL := 5) (by decide) rfl (Nat.le_of_ble_eq_true rfl) ?_
  intro p e s m blw meth c aa ls args Q H locs hQ hx hb hr hml hown hts hlocks hE hN hl hP hS
  have hown : s.vm.findClass RX9 = some m.cls := hown
  have hl : lv_has ls 5 [(0, .ref h), (1, .int v1), (2, .int v2), (3, .int v3), (4, .int v4)] := hl
  have J108 : ∀ (arrivals : (Nat → Int32)) (firstPlaces : (Nat → Int32)) (lengths : (Nat → Int32)) (objects : (Nat → Int32)) (parts : (Nat → Int32)) (places : Int32) (previous : (Nat → Int32)) (H : Heap) (locs : List Loc) (ls : Array Slot), xW D aa [[(h, .inr (9, [.int belowOwn, .int belowEither, .int other, .int places, .ref a_objects, .ref a_parts, .ref a_lengths, .ref a_previous, .ref a_arrivals, .ref a_firstPlaces]))], [(a_arrivals, .inl (G 0, 32, .inl arrivals))], [(a_firstPlaces, .inl (G 0, 16, .inl firstPlaces))], [(a_lengths, .inl (G 0, 32, .inl lengths))], [(a_objects, .inl (G 0, 32, .inl objects))], [(a_parts, .inl (G 0, 32, .inl parts))], [(a_previous, .inl (G 0, 32, .inl previous))]] H → va_S (xA aa) s.heap H locs → lv_has ls 5 [(0, .ref h)] → f_X9_meet_J108  arrivals firstPlaces lengths objects parts places previous = some out → W p l e (rM 1 23) s m args blw meth c H locs 0 0 Q (F0 m 108 ls []) := by
    intro arrivals firstPlaces lengths objects parts places previous  H locs ls  hP hS hl hf
    refine lv_aload_n hx hb dX9_meet_108 rfl (lv_at hl 0 rfl) ?_
    refine lv_dup hx hb dX9_meet_109 rfl ?_
    refine x_get hx hb hts u_X9_meet_X9 hown hE hP 0 rfl rfl 3 (by decide) (hts (.fieldLink RX9 21 "DecreasingDiagrams$SidePaths" "places" "I") (List.mem_of_getElem? (i := 1) rfl)) rfl dX9_meet_110 ?_
    refine lv_iconst (v := 1) hx hb dX9_meet_113 (by decide) ?_
    refine lv_iadd hx hb dX9_meet_114 ?_
    obtain ⟨places_115, e_places_115, hf⟩ := lt_some hf
    refine x_put (w := .int places_115) (ty := .int) (I' := [[(h, .inr (9, [.int belowOwn, .int belowEither, .int other, .int places_115, .ref a_objects, .ref a_parts, .ref a_lengths, .ref a_previous, .ref a_arrivals, .ref a_firstPlaces]))], [(a_arrivals, .inl (G 0, 32, .inl arrivals))], [(a_firstPlaces, .inl (G 0, 16, .inl firstPlaces))], [(a_lengths, .inl (G 0, 32, .inl lengths))], [(a_objects, .inl (G 0, 32, .inl objects))], [(a_parts, .inl (G 0, 32, .inl parts))], [(a_previous, .inl (G 0, 32, .inl previous))]]) hx hb hts u_X9_meet_X9 tyX9 tyX9_ok nmX9 hown hE hP hN hS 0 rfl rfl 3 (by decide) (hts (.fieldLink RX9 21 "DecreasingDiagrams$SidePaths" "places" "I") (List.mem_of_getElem? (i := 1) rfl)) rfl (congrArg Value.int e_places_115) (by decide +kernel) rfl rfl (Nat.le_of_ble_eq_true rfl) rfl dX9_meet_115 (fun H locs hP hS => ?_)
    have hf := Option.some.inj hf
    rewrite [← hQ, ← hf]
    exact x_vret hx hb hr hlocks hP hS dX9_meet_118
  have J65 : ∀ (t1 : Int32) (t2 : Int32) (arrivals : (Nat → Int32)) (firstPlaces : (Nat → Int32)) (lengths : (Nat → Int32)) (objects : (Nat → Int32)) (parts : (Nat → Int32)) (places : Int32) (previous : (Nat → Int32)) (H : Heap) (locs : List Loc) (ls : Array Slot), xW D aa [[(h, .inr (9, [.int belowOwn, .int belowEither, .int other, .int places, .ref a_objects, .ref a_parts, .ref a_lengths, .ref a_previous, .ref a_arrivals, .ref a_firstPlaces]))], [(a_arrivals, .inl (G 0, 32, .inl arrivals))], [(a_firstPlaces, .inl (G 0, 16, .inl firstPlaces))], [(a_lengths, .inl (G 0, 32, .inl lengths))], [(a_objects, .inl (G 0, 32, .inl objects))], [(a_parts, .inl (G 0, 32, .inl parts))], [(a_previous, .inl (G 0, 32, .inl previous))]] H → va_S (xA aa) s.heap H locs → lv_has ls 5 [(0, .ref h), (1, .int v1), (3, .int v3), (4, .int v4)] → f_X9_meet_J65 v1 v3 v4 t1 t2 arrivals firstPlaces lengths objects parts places previous = some out → W p l e (rM 1 23) s m args blw meth c H locs 0 0 Q (F0 m 65 ls [.int t2, .int t1, .ref a_lengths]) := by
    intro t1 t2 arrivals firstPlaces lengths objects parts places previous  H locs ls  hP hS hl hf
    obtain ⟨hi, hf⟩ := ck_some hf
    obtain ⟨lengths_65, e_lengths_65, hf⟩ := lt_some hf
    refine x_iast (I' := [[(h, .inr (9, [.int belowOwn, .int belowEither, .int other, .int places, .ref a_objects, .ref a_parts, .ref a_lengths, .ref a_previous, .ref a_arrivals, .ref a_firstPlaces]))], [(a_arrivals, .inl (G 0, 32, .inl arrivals))], [(a_firstPlaces, .inl (G 0, 16, .inl firstPlaces))], [(a_lengths, .inl (G 0, 32, .inl lengths_65))], [(a_objects, .inl (G 0, 32, .inl objects))], [(a_parts, .inl (G 0, 32, .inl parts))], [(a_previous, .inl (G 0, 32, .inl previous))]]) hx hb hE hP hN hS 3 rfl hi e_lengths_65 rfl dX9_meet_65 (fun H locs hP hS => ?_)
    refine lv_aload_n hx hb dX9_meet_66 rfl (lv_at hl 0 rfl) ?_
    refine x_get hx hb hts u_X9_meet_X9 hown hE hP 0 rfl rfl 7 (by decide) (hts (.fieldLink RX9 34 "DecreasingDiagrams$SidePaths" "previous" "[I") (List.mem_of_getElem? (i := 5) rfl)) rfl dX9_meet_67 ?_
    refine lv_aload_n hx hb dX9_meet_70 rfl (lv_at hl 0 rfl) ?_
    refine x_get hx hb hts u_X9_meet_X9 hown hE hP 0 rfl rfl 3 (by decide) (hts (.fieldLink RX9 21 "DecreasingDiagrams$SidePaths" "places" "I") (List.mem_of_getElem? (i := 1) rfl)) rfl dX9_meet_71 ?_
    refine lv_iload_n hx hb dX9_meet_74 rfl (lv_at hl 2 rfl) ?_
    obtain ⟨hi, hf⟩ := ck_some hf
    obtain ⟨previous_75, e_previous_75, hf⟩ := lt_some hf
    refine x_iast (I' := [[(h, .inr (9, [.int belowOwn, .int belowEither, .int other, .int places, .ref a_objects, .ref a_parts, .ref a_lengths, .ref a_previous, .ref a_arrivals, .ref a_firstPlaces]))], [(a_arrivals, .inl (G 0, 32, .inl arrivals))], [(a_firstPlaces, .inl (G 0, 16, .inl firstPlaces))], [(a_lengths, .inl (G 0, 32, .inl lengths_65))], [(a_objects, .inl (G 0, 32, .inl objects))], [(a_parts, .inl (G 0, 32, .inl parts))], [(a_previous, .inl (G 0, 32, .inl previous_75))]]) hx hb hE hP hN hS 6 rfl hi e_previous_75 rfl dX9_meet_75 (fun H locs hP hS => ?_)
    refine lv_aload_n hx hb dX9_meet_76 rfl (lv_at hl 0 rfl) ?_
    refine x_get hx hb hts u_X9_meet_X9 hown hE hP 0 rfl rfl 8 (by decide) (hts (.fieldLink RX9 37 "DecreasingDiagrams$SidePaths" "arrivals" "[I") (List.mem_of_getElem? (i := 6) rfl)) rfl dX9_meet_77 ?_
    refine lv_aload_n hx hb dX9_meet_80 rfl (lv_at hl 0 rfl) ?_
    refine x_get hx hb hts u_X9_meet_X9 hown hE hP 0 rfl rfl 3 (by decide) (hts (.fieldLink RX9 21 "DecreasingDiagrams$SidePaths" "places" "I") (List.mem_of_getElem? (i := 1) rfl)) rfl dX9_meet_81 ?_
    refine lv_iload hx hb dX9_meet_84 (lv_at hl 3 rfl) ?_
    obtain ⟨hi, hf⟩ := ck_some hf
    obtain ⟨arrivals_86, e_arrivals_86, hf⟩ := lt_some hf
    refine x_iast (I' := [[(h, .inr (9, [.int belowOwn, .int belowEither, .int other, .int places, .ref a_objects, .ref a_parts, .ref a_lengths, .ref a_previous, .ref a_arrivals, .ref a_firstPlaces]))], [(a_arrivals, .inl (G 0, 32, .inl arrivals_86))], [(a_firstPlaces, .inl (G 0, 16, .inl firstPlaces))], [(a_lengths, .inl (G 0, 32, .inl lengths_65))], [(a_objects, .inl (G 0, 32, .inl objects))], [(a_parts, .inl (G 0, 32, .inl parts))], [(a_previous, .inl (G 0, 32, .inl previous_75))]]) hx hb hE hP hN hS 1 rfl hi e_arrivals_86 rfl dX9_meet_86 (fun H locs hP hS => ?_)
    refine lv_aload_n hx hb dX9_meet_87 rfl (lv_at hl 0 rfl) ?_
    refine x_get hx hb hts u_X9_meet_X9 hown hE hP 0 rfl rfl 9 (by decide) (hts (.fieldLink RX9 40 "DecreasingDiagrams$SidePaths" "firstPlaces" "[I") (List.mem_of_getElem? (i := 7) rfl)) rfl dX9_meet_88 ?_
    refine lv_iload_n hx hb dX9_meet_91 rfl (lv_at hl 1 rfl) ?_
    obtain ⟨hi, hf⟩ := ck_some hf
    refine x_iald hx hb hE hP 2 rfl hi dX9_meet_92 ?_
    refine lv_bipush (v := -2) hx hb dX9_meet_93 (by decide) ?_
    refine lv_icmp_ne (tgt := 108) hx hb dX9_meet_95 (by decide) (fun c_95 => ?_) (fun c_95 => ?_)
    · have hf := it_pos c_95 hf
      exact J108 arrivals_86 firstPlaces lengths_65 objects parts places previous_75  H locs ls  hP hS (lv_sub hl [0] rfl) hf
    · have hf := it_neg (fun h => h c_95) hf
      refine lv_aload_n hx hb dX9_meet_98 rfl (lv_at hl 0 rfl) ?_
      refine x_get hx hb hts u_X9_meet_X9 hown hE hP 0 rfl rfl 9 (by decide) (hts (.fieldLink RX9 40 "DecreasingDiagrams$SidePaths" "firstPlaces" "[I") (List.mem_of_getElem? (i := 7) rfl)) rfl dX9_meet_99 ?_
      refine lv_iload_n hx hb dX9_meet_102 rfl (lv_at hl 1 rfl) ?_
      refine lv_aload_n hx hb dX9_meet_103 rfl (lv_at hl 0 rfl) ?_
      refine x_get hx hb hts u_X9_meet_X9 hown hE hP 0 rfl rfl 3 (by decide) (hts (.fieldLink RX9 21 "DecreasingDiagrams$SidePaths" "places" "I") (List.mem_of_getElem? (i := 1) rfl)) rfl dX9_meet_104 ?_
      obtain ⟨hi, hf⟩ := ck_some hf
      obtain ⟨firstPlaces_107, e_firstPlaces_107, hf⟩ := lt_some hf
      refine x_iast (I' := [[(h, .inr (9, [.int belowOwn, .int belowEither, .int other, .int places, .ref a_objects, .ref a_parts, .ref a_lengths, .ref a_previous, .ref a_arrivals, .ref a_firstPlaces]))], [(a_arrivals, .inl (G 0, 32, .inl arrivals_86))], [(a_firstPlaces, .inl (G 0, 16, .inl firstPlaces_107))], [(a_lengths, .inl (G 0, 32, .inl lengths_65))], [(a_objects, .inl (G 0, 32, .inl objects))], [(a_parts, .inl (G 0, 32, .inl parts))], [(a_previous, .inl (G 0, 32, .inl previous_75))]]) hx hb hE hP hN hS 2 rfl hi e_firstPlaces_107 rfl dX9_meet_107 (fun H locs hP hS => ?_)
      exact J108 arrivals_86 firstPlaces_107 lengths_65 objects parts places previous_75  H locs ls  hP hS (lv_sub hl [0] rfl) hf
  refine lv_aload_n hx hb dX9_meet_0 rfl (lv_at hl 0 rfl) ?_
  refine x_get hx hb hts u_X9_meet_X9 hown hE hP 0 rfl rfl 3 (by decide) (hts (.fieldLink RX9 21 "DecreasingDiagrams$SidePaths" "places" "I") (List.mem_of_getElem? (i := 1) rfl)) rfl dX9_meet_1 ?_
  refine lv_bipush (v := 32) hx hb dX9_meet_4 (by decide) ?_
  refine lv_icmp_ge (tgt := 18) hx hb dX9_meet_6 (by decide) (fun c_6 => ?_) (fun c_6 => ?_)
  · have hf := it_pos c_6 hf
    have hf := Option.some.inj hf
    rewrite [← hQ, ← hf]
    exact x_vret hx hb hr hlocks hP hS dX9_meet_18
  · have hf := it_neg c_6 hf
    refine lv_aload_n hx hb dX9_meet_9 rfl (lv_at hl 0 rfl) ?_
    refine lv_iload_n hx hb dX9_meet_10 rfl (lv_at hl 1 rfl) ?_
    refine lv_iload_n hx hb dX9_meet_11 rfl (lv_at hl 2 rfl) ?_
    obtain ⟨r_12, hr_12, hf⟩ := bd_some hf
    refine x_goi0 (ps := [0, 4, 5]) (x_runV (As := [.int v1, .int v2]) (rest := []) (ps := [0, 4, 5]) ⟨hx, hb, hml, hown, hts⟩ (k_X9_isMet l D G fu h a_objects a_parts a_lengths a_previous a_arrivals a_firstPlaces belowOwn belowEither other places objects parts v1 v2 r_12 hr_12) (cwV 2 hts gX9_meet_X9_isMet rfl rfl rfl (by decide +kernel) ⟨Nat.le_of_ble_eq_true rfl, Nat.le_of_ble_eq_true rfl⟩) hE hP hN rfl (by decide) 0 rfl rfl rfl hl.1 (Nat.le_of_ble_eq_true rfl) dX9_meet_12 ⟨Nat.zero_le _, Nat.zero_le _⟩) hP hN hS rfl (fun H locs hP hS => ?_)
    refine lv_if_eq (tgt := 19) hx hb dX9_meet_15 (by decide) (fun c_15 => ?_) (fun c_15 => ?_)
    · have hf := it_pos c_15 hf
      refine lv_aload_n hx hb dX9_meet_19 rfl (lv_at hl 0 rfl) ?_
      refine x_get hx hb hts u_X9_meet_X9 hown hE hP 0 rfl rfl 4 (by decide) (hts (.fieldLink RX9 24 "DecreasingDiagrams$SidePaths" "objects" "[I") (List.mem_of_getElem? (i := 2) rfl)) rfl dX9_meet_20 ?_
      refine lv_aload_n hx hb dX9_meet_23 rfl (lv_at hl 0 rfl) ?_
      refine x_get hx hb hts u_X9_meet_X9 hown hE hP 0 rfl rfl 3 (by decide) (hts (.fieldLink RX9 21 "DecreasingDiagrams$SidePaths" "places" "I") (List.mem_of_getElem? (i := 1) rfl)) rfl dX9_meet_24 ?_
      refine lv_iload_n hx hb dX9_meet_27 rfl (lv_at hl 1 rfl) ?_
      obtain ⟨hi, hf⟩ := ck_some hf
      obtain ⟨objects_28, e_objects_28, hf⟩ := lt_some hf
      refine x_iast (I' := [[(h, .inr (9, [.int belowOwn, .int belowEither, .int other, .int places, .ref a_objects, .ref a_parts, .ref a_lengths, .ref a_previous, .ref a_arrivals, .ref a_firstPlaces]))], [(a_arrivals, .inl (G 0, 32, .inl arrivals))], [(a_firstPlaces, .inl (G 0, 16, .inl firstPlaces))], [(a_lengths, .inl (G 0, 32, .inl lengths))], [(a_objects, .inl (G 0, 32, .inl objects_28))], [(a_parts, .inl (G 0, 32, .inl parts))], [(a_previous, .inl (G 0, 32, .inl previous))]]) hx hb hE hP hN hS 4 rfl hi e_objects_28 rfl dX9_meet_28 (fun H locs hP hS => ?_)
      refine lv_aload_n hx hb dX9_meet_29 rfl (lv_at hl 0 rfl) ?_
      refine x_get hx hb hts u_X9_meet_X9 hown hE hP 0 rfl rfl 5 (by decide) (hts (.fieldLink RX9 28 "DecreasingDiagrams$SidePaths" "parts" "[I") (List.mem_of_getElem? (i := 3) rfl)) rfl dX9_meet_30 ?_
      refine lv_aload_n hx hb dX9_meet_33 rfl (lv_at hl 0 rfl) ?_
      refine x_get hx hb hts u_X9_meet_X9 hown hE hP 0 rfl rfl 3 (by decide) (hts (.fieldLink RX9 21 "DecreasingDiagrams$SidePaths" "places" "I") (List.mem_of_getElem? (i := 1) rfl)) rfl dX9_meet_34 ?_
      refine lv_iload_n hx hb dX9_meet_37 rfl (lv_at hl 2 rfl) ?_
      obtain ⟨hi, hf⟩ := ck_some hf
      obtain ⟨parts_38, e_parts_38, hf⟩ := lt_some hf
      refine x_iast (I' := [[(h, .inr (9, [.int belowOwn, .int belowEither, .int other, .int places, .ref a_objects, .ref a_parts, .ref a_lengths, .ref a_previous, .ref a_arrivals, .ref a_firstPlaces]))], [(a_arrivals, .inl (G 0, 32, .inl arrivals))], [(a_firstPlaces, .inl (G 0, 16, .inl firstPlaces))], [(a_lengths, .inl (G 0, 32, .inl lengths))], [(a_objects, .inl (G 0, 32, .inl objects_28))], [(a_parts, .inl (G 0, 32, .inl parts_38))], [(a_previous, .inl (G 0, 32, .inl previous))]]) hx hb hE hP hN hS 5 rfl hi e_parts_38 rfl dX9_meet_38 (fun H locs hP hS => ?_)
      refine lv_aload_n hx hb dX9_meet_39 rfl (lv_at hl 0 rfl) ?_
      refine x_get hx hb hts u_X9_meet_X9 hown hE hP 0 rfl rfl 6 (by decide) (hts (.fieldLink RX9 31 "DecreasingDiagrams$SidePaths" "lengths" "[I") (List.mem_of_getElem? (i := 4) rfl)) rfl dX9_meet_40 ?_
      refine lv_aload_n hx hb dX9_meet_43 rfl (lv_at hl 0 rfl) ?_
      refine x_get hx hb hts u_X9_meet_X9 hown hE hP 0 rfl rfl 3 (by decide) (hts (.fieldLink RX9 21 "DecreasingDiagrams$SidePaths" "places" "I") (List.mem_of_getElem? (i := 1) rfl)) rfl dX9_meet_44 ?_
      refine lv_iload_n hx hb dX9_meet_47 rfl (lv_at hl 3 rfl) ?_
      refine lv_bipush (v := -2) hx hb dX9_meet_48 (by decide) ?_
      refine lv_icmp_ne (tgt := 57) hx hb dX9_meet_50 (by decide) (fun c_50 => ?_) (fun c_50 => ?_)
      · have hf := it_pos c_50 hf
        refine lv_aload_n hx hb dX9_meet_57 rfl (lv_at hl 0 rfl) ?_
        refine x_get hx hb hts u_X9_meet_X9 hown hE hP 0 rfl rfl 6 (by decide) (hts (.fieldLink RX9 31 "DecreasingDiagrams$SidePaths" "lengths" "[I") (List.mem_of_getElem? (i := 4) rfl)) rfl dX9_meet_58 ?_
        refine lv_iload_n hx hb dX9_meet_61 rfl (lv_at hl 3 rfl) ?_
        obtain ⟨hi, hf⟩ := ck_some hf
        refine x_iald hx hb hE hP 3 rfl hi dX9_meet_62 ?_
        refine lv_iconst (v := 1) hx hb dX9_meet_63 (by decide) ?_
        refine lv_iadd hx hb dX9_meet_64 ?_
        exact J65 places ((lengths v3.toNatClampNeg) + 1) arrivals firstPlaces lengths objects_28 parts_38 places previous  H locs ls  hP hS (lv_sub hl [0, 1, 3, 4] rfl) hf
      · have hf := it_neg (fun h => h c_50) hf
        refine lv_iconst (v := 0) hx hb dX9_meet_53 (by decide) ?_
        refine lv_goto (tgt := 65) hx hb dX9_meet_54 (by decide) ?_
        exact J65 places 0 arrivals firstPlaces lengths objects_28 parts_38 places previous  H locs ls  hP hS (lv_sub hl [0, 1, 3, 4] rfl) hf
    · have hf := it_neg c_15 hf
      have hf := Option.some.inj hf
      rewrite [← hQ, ← hf]
      exact x_vret hx hb hr hlocks hP hS dX9_meet_18

set_option maxRecDepth 20000 in
theorem u_X9_partAfter_X9 : ∀ w ∈ wsX90, w ∈ wsX9_partAfter := xx_pl _ [7, 8, 9, 10, 11, 12, 13, 14, 15, 16] (by decide +kernel)
def f_X9_partAfter_J17 (belowEither : Int32) (other : Int32) (v1 : Int32) (v2 : Int32)  : Option (Int32) :=
  (f_X11_isIn belowEither v2).bind (fun r_22 => if ¬ r_22 = 0 then (some 1) else (if ¬ v1 = 0 then (some (-1)) else (if ¬ v2 = other then (some (-1)) else (some 1))))
def f_X9_partAfter (belowOwn : Int32) (belowEither : Int32) (other : Int32) (v1 : Int32) (v2 : Int32) : Option (Int32) :=
  if ¬ v1 = 0 then (f_X9_partAfter_J17 belowEither other v1 v2) else ((f_X11_isIn belowOwn v2).bind (fun r_9 => if r_9 = 0 then (f_X9_partAfter_J17 belowEither other v1 v2) else (some 0)))
set_option maxHeartbeats 4000000 in
set_option maxRecDepth 100000 in
theorem k_X9_partAfter (l : Launch) (D : va_G) (G : Nat → ClassId) (fu : Nat) (h : Nat) (a_objects : Nat) (a_parts : Nat) (a_lengths : Nat) (a_previous : Nat) (a_arrivals : Nat) (a_firstPlaces : Nat) (belowOwn : Int32) (belowEither : Int32) (other : Int32) (places : Int32)  (v1 : Int32) (v2 : Int32) (out : Int32) (hf : f_X9_partAfter belowOwn belowEither other v1 v2 = some out) : xMet l yX9_partAfter wsX9_partAfter (rM 1 21) D G [.ref h, .int v1, .int v2] [[(h, .inr (9, [.int belowOwn, .int belowEither, .int other, .int places, .ref a_objects, .ref a_parts, .ref a_lengths, .ref a_previous, .ref a_arrivals, .ref a_firstPlaces]))]] (xQi D [[(h, .inr (9, [.int belowOwn, .int belowEither, .int other, .int places, .ref a_objects, .ref a_parts, .ref a_lengths, .ref a_previous, .ref a_arrivals, .ref a_firstPlaces]))]] out) := by
  refine x_ent (cc := cX9_partAfter) (maxL := 3) (by decide) rfl (Nat.le_of_ble_eq_true rfl) ?_
  intro p e s m blw meth c aa ls args Q H locs hQ hx hb hr hml hown hts hlocks hE hN hl hP hS
  have hown : s.vm.findClass RX9 = some m.cls := hown
  have hl : lv_has ls 3 [(0, .ref h), (1, .int v1), (2, .int v2)] := hl
  have J17 : ∀ (H : Heap) (locs : List Loc) (ls : Array Slot), xW D aa [[(h, .inr (9, [.int belowOwn, .int belowEither, .int other, .int places, .ref a_objects, .ref a_parts, .ref a_lengths, .ref a_previous, .ref a_arrivals, .ref a_firstPlaces]))]] H → va_S (xA aa) s.heap H locs → lv_has ls 3 [(0, .ref h), (1, .int v1), (2, .int v2)] → f_X9_partAfter_J17 belowEither other v1 v2  = some out → W p l e (rM 1 21) s m args blw meth c H locs 0 0 Q (F0 m 17 ls []) := by
    intro   H locs ls  hP hS hl hf
    refine lv_aload_n hx hb dX9_partAfter_17 rfl (lv_at hl 0 rfl) ?_
    refine x_get hx hb hts u_X9_partAfter_X9 hown hE hP 0 rfl rfl 1 (by decide) (hts (.fieldLink RX9 15 "DecreasingDiagrams$SidePaths" "belowEither" "I") (List.mem_of_getElem? (i := 2) rfl)) rfl dX9_partAfter_18 ?_
    refine lv_iload_n hx hb dX9_partAfter_21 rfl (lv_at hl 2 rfl) ?_
    obtain ⟨r_22, hr_22, hf⟩ := bd_some hf
    refine x_goi0 (ps := []) (x_runSN (As := [.int belowEither, .int v2]) (rest := []) (ps := []) ⟨hx, hb, hml, hown, hts⟩ (k_X11_isIn l D G fu belowEither v2 r_22 hr_22) ⟨va_cnB 2 hts gX9_partAfter_X11_isIn_n80 rfl rfl rfl (hE.2 (.methodLinkNest RX9 80 yX11_isIn RX11) (List.mem_of_getElem? (i := 79) rfl)) (hts (.initialized RX11) (List.mem_of_getElem? (i := 5) rfl)) (by decide +kernel) ⟨Nat.le_of_ble_eq_true rfl, Nat.le_of_ble_eq_true rfl⟩, (hts (.static yX11_isIn) (List.mem_of_getElem? (i := 4) rfl)), trivial⟩ hE hP hN rfl (by decide) rfl hl.1 (Nat.le_of_ble_eq_true rfl) dX9_partAfter_22 ⟨Nat.zero_le _, Nat.zero_le _⟩) hP hN hS rfl (fun H locs hP hS => ?_)
    refine lv_if_ne (tgt := 40) hx hb dX9_partAfter_25 (by decide) (fun c_25 => ?_) (fun c_25 => ?_)
    · have hf := it_pos c_25 hf
      refine lv_iconst (v := 1) hx hb dX9_partAfter_40 (by decide) ?_
      have hf := Option.some.inj hf
      rewrite [← hQ, ← hf]
      exact x_iret hx hb hr hlocks hP hS dX9_partAfter_41
    · have hf := it_neg (fun h => h c_25) hf
      refine lv_iload_n hx hb dX9_partAfter_28 rfl (lv_at hl 1 rfl) ?_
      refine lv_if_ne (tgt := 42) hx hb dX9_partAfter_29 (by decide) (fun c_29 => ?_) (fun c_29 => ?_)
      · have hf := it_pos c_29 hf
        refine lv_iconst (v := -1) hx hb dX9_partAfter_42 (by decide) ?_
        have hf := Option.some.inj hf
        rewrite [← hQ, ← hf]
        exact x_iret hx hb hr hlocks hP hS dX9_partAfter_43
      · have hf := it_neg (fun h => h c_29) hf
        refine lv_iload_n hx hb dX9_partAfter_32 rfl (lv_at hl 2 rfl) ?_
        refine lv_aload_n hx hb dX9_partAfter_33 rfl (lv_at hl 0 rfl) ?_
        refine x_get hx hb hts u_X9_partAfter_X9 hown hE hP 0 rfl rfl 2 (by decide) (hts (.fieldLink RX9 18 "DecreasingDiagrams$SidePaths" "other" "I") (List.mem_of_getElem? (i := 3) rfl)) rfl dX9_partAfter_34 ?_
        refine lv_icmp_ne (tgt := 42) hx hb dX9_partAfter_37 (by decide) (fun c_37 => ?_) (fun c_37 => ?_)
        · have hf := it_pos c_37 hf
          refine lv_iconst (v := -1) hx hb dX9_partAfter_42 (by decide) ?_
          have hf := Option.some.inj hf
          rewrite [← hQ, ← hf]
          exact x_iret hx hb hr hlocks hP hS dX9_partAfter_43
        · have hf := it_neg (fun h => h c_37) hf
          refine lv_iconst (v := 1) hx hb dX9_partAfter_40 (by decide) ?_
          have hf := Option.some.inj hf
          rewrite [← hQ, ← hf]
          exact x_iret hx hb hr hlocks hP hS dX9_partAfter_41
  refine lv_iload_n hx hb dX9_partAfter_0 rfl (lv_at hl 1 rfl) ?_
  refine lv_if_ne (tgt := 17) hx hb dX9_partAfter_1 (by decide) (fun c_1 => ?_) (fun c_1 => ?_)
  · have hf := it_pos c_1 hf
    exact J17   H locs ls  hP hS (lv_sub hl [0, 1, 2] rfl) hf
  · have hf := it_neg (fun h => h c_1) hf
    refine lv_aload_n hx hb dX9_partAfter_4 rfl (lv_at hl 0 rfl) ?_
    refine x_get hx hb hts u_X9_partAfter_X9 hown hE hP 0 rfl rfl 0 (by decide) (hts (.fieldLink RX9 9 "DecreasingDiagrams$SidePaths" "belowOwn" "I") (List.mem_of_getElem? (i := 1) rfl)) rfl dX9_partAfter_5 ?_
    refine lv_iload_n hx hb dX9_partAfter_8 rfl (lv_at hl 2 rfl) ?_
    obtain ⟨r_9, hr_9, hf⟩ := bd_some hf
    refine x_goi0 (ps := []) (x_runSN (As := [.int belowOwn, .int v2]) (rest := []) (ps := []) ⟨hx, hb, hml, hown, hts⟩ (k_X11_isIn l D G fu belowOwn v2 r_9 hr_9) ⟨va_cnB 2 hts gX9_partAfter_X11_isIn_n80 rfl rfl rfl (hE.2 (.methodLinkNest RX9 80 yX11_isIn RX11) (List.mem_of_getElem? (i := 79) rfl)) (hts (.initialized RX11) (List.mem_of_getElem? (i := 5) rfl)) (by decide +kernel) ⟨Nat.le_of_ble_eq_true rfl, Nat.le_of_ble_eq_true rfl⟩, (hts (.static yX11_isIn) (List.mem_of_getElem? (i := 4) rfl)), trivial⟩ hE hP hN rfl (by decide) rfl hl.1 (Nat.le_of_ble_eq_true rfl) dX9_partAfter_9 ⟨Nat.zero_le _, Nat.zero_le _⟩) hP hN hS rfl (fun H locs hP hS => ?_)
    refine lv_if_eq (tgt := 17) hx hb dX9_partAfter_12 (by decide) (fun c_12 => ?_) (fun c_12 => ?_)
    · have hf := it_pos c_12 hf
      exact J17   H locs ls  hP hS (lv_sub hl [0, 1, 2] rfl) hf
    · have hf := it_neg c_12 hf
      refine lv_iconst (v := 0) hx hb dX9_partAfter_15 (by decide) ?_
      have hf := Option.some.inj hf
      rewrite [← hQ, ← hf]
      exact x_iret hx hb hr hlocks hP hS dX9_partAfter_16

set_option maxRecDepth 20000 in
theorem u_X9_leave_X3 : ∀ w ∈ wsX30, w ∈ wsX9_leave := xx_pl _ [27, 28, 29, 30, 31, 32] (by decide +kernel)
set_option maxRecDepth 20000 in
theorem u_X9_leave_X9 : ∀ w ∈ wsX90, w ∈ wsX9_leave := xx_pl _ [33, 34, 35, 36, 37, 38, 39, 40, 41, 42] (by decide +kernel)
def f_X9_leave_J63 (rec_2 : (Int32 → (Nat → Int32) → (Nat → Int32) → (Nat → Int32) → (Nat → Int32) → (Nat → Int32) → Int32 → (Nat → Int32) → Option ((Nat → Int32) × (Nat → (Nat → Int32))))) (v3 : Int32) (arrivals : (Nat → Int32)) (firstPlaces : (Nat → Int32)) (lengths : (Nat → Int32)) (objects : (Nat → Int32)) (parts : (Nat → Int32)) (places : Int32) (previous : (Nat → Int32)) : Option ((Nat → Int32) × (Nat → (Nat → Int32))) :=
  lt (v3 + 1) (fun v3_63 => rec_2 v3_63 arrivals firstPlaces lengths objects parts places previous)
def f_X9_leave_L2 (fu : Nat) (p1_steps : Int32) (belowOwn : Int32) (belowEither : Int32) (other : Int32) (p1_labels : (Nat → Int32)) (p1_sources : (Nat → Int32)) (p1_targets : (Nat → Int32)) (v2 : Int32) (rec_2 : Int32 → (Nat → Int32) → (Nat → Int32) → (Nat → Int32) → (Nat → Int32) → (Nat → Int32) → Int32 → (Nat → Int32) → Option ((Nat → Int32) × (Nat → (Nat → Int32)))) (v3 : Int32) (arrivals : (Nat → Int32)) (firstPlaces : (Nat → Int32)) (lengths : (Nat → Int32)) (objects : (Nat → Int32)) (parts : (Nat → Int32)) (places : Int32) (previous : (Nat → Int32)) : Option ((Nat → Int32) × (Nat → (Nat → Int32))) :=
  if p1_steps ≤ v3 then (some (vv (0 : Int32) [places], vv (fun _ => (0 : Int32)) [arrivals, firstPlaces, lengths, objects, parts, previous])) else (ck v3 32 (ck v2 32 (if ¬ (p1_sources v3.toNatClampNeg) = (objects v2.toNatClampNeg) then (f_X9_leave_J63 rec_2 v3 arrivals firstPlaces lengths objects parts places previous) else (ck v2 32 (ck v3 32 ((f_X9_partAfter belowOwn belowEither other (parts v2.toNatClampNeg) (p1_labels v3.toNatClampNeg)).bind (fun r_38 => lt r_38 (fun v4_41 => if v4_41 = (-1) then (f_X9_leave_J63 rec_2 v3 arrivals firstPlaces lengths objects parts places previous) else (ck v3 32 ((f_X9_meet fu places arrivals firstPlaces lengths objects parts previous (p1_targets v3.toNatClampNeg) v4_41 v2 v3).bind (fun r_60 => f_X9_leave_J63 rec_2 v3 (r_60.2 0) (r_60.2 1) (r_60.2 2) (r_60.2 3) (r_60.2 4) (r_60.1 0) (r_60.2 5))))))))))))
def f_X9_leave (fu : Nat) (p1_steps : Int32) (belowOwn : Int32) (belowEither : Int32) (other : Int32) (places : Int32) (p1_labels : (Nat → Int32)) (p1_sources : (Nat → Int32)) (p1_targets : (Nat → Int32)) (arrivals : (Nat → Int32)) (firstPlaces : (Nat → Int32)) (lengths : (Nat → Int32)) (objects : (Nat → Int32)) (parts : (Nat → Int32)) (previous : (Nat → Int32)) (v2 : Int32) : Option ((Nat → Int32) × (Nat → (Nat → Int32))) :=
  lt (0 : Int32) (fun v3_1 => lp (τ := Int32 → (Nat → Int32) → (Nat → Int32) → (Nat → Int32) → (Nat → Int32) → (Nat → Int32) → Int32 → (Nat → Int32) → Option ((Nat → Int32) × (Nat → (Nat → Int32)))) (fun _ _ _ _ _ _ _ _ => none) (f_X9_leave_L2 fu p1_steps belowOwn belowEither other p1_labels p1_sources p1_targets v2) fu v3_1 arrivals firstPlaces lengths objects parts places previous)
set_option maxHeartbeats 4000000 in
set_option maxRecDepth 100000 in
theorem k_X9_leave (l : Launch) (D : va_G) (G : Nat → ClassId) (fu : Nat) (h : Nat) (h_p1 : Nat) (a_p1_words : Nat) (a_p1_sources : Nat) (a_p1_targets : Nat) (a_p1_labels : Nat) (a_objects : Nat) (a_parts : Nat) (a_lengths : Nat) (a_previous : Nat) (a_arrivals : Nat) (a_firstPlaces : Nat) (p1_objects : Int32) (p1_steps : Int32) (belowOwn : Int32) (belowEither : Int32) (other : Int32) (places : Int32) (p1_labels : (Nat → Int32)) (p1_sources : (Nat → Int32)) (p1_targets : (Nat → Int32)) (arrivals : (Nat → Int32)) (firstPlaces : (Nat → Int32)) (lengths : (Nat → Int32)) (objects : (Nat → Int32)) (parts : (Nat → Int32)) (previous : (Nat → Int32))  (v2 : Int32) (out : (Nat → Int32) × (Nat → (Nat → Int32))) (hf : f_X9_leave fu p1_steps belowOwn belowEither other places p1_labels p1_sources p1_targets arrivals firstPlaces lengths objects parts previous v2 = some out) : xMet l yX9_leave wsX9_leave (rM 2 47) D G [.ref h, .ref h_p1, .int v2] [[(h_p1, .inr (3, [.int p1_objects, .ref a_p1_words, .int p1_steps, .ref a_p1_sources, .ref a_p1_targets, .ref a_p1_labels]))], [(a_p1_labels, .inl (G 0, 32, .inl p1_labels))], [(a_p1_sources, .inl (G 0, 32, .inl p1_sources))], [(a_p1_targets, .inl (G 0, 32, .inl p1_targets))], [(h, .inr (9, [.int belowOwn, .int belowEither, .int other, .int places, .ref a_objects, .ref a_parts, .ref a_lengths, .ref a_previous, .ref a_arrivals, .ref a_firstPlaces]))], [(a_arrivals, .inl (G 0, 32, .inl arrivals))], [(a_firstPlaces, .inl (G 0, 16, .inl firstPlaces))], [(a_lengths, .inl (G 0, 32, .inl lengths))], [(a_objects, .inl (G 0, 32, .inl objects))], [(a_parts, .inl (G 0, 32, .inl parts))], [(a_previous, .inl (G 0, 32, .inl previous))]] (xQv D [[(h_p1, .inr (3, [.int p1_objects, .ref a_p1_words, .int p1_steps, .ref a_p1_sources, .ref a_p1_targets, .ref a_p1_labels]))], [(a_p1_labels, .inl (G 0, 32, .inl p1_labels))], [(a_p1_sources, .inl (G 0, 32, .inl p1_sources))], [(a_p1_targets, .inl (G 0, 32, .inl p1_targets))], [(h, .inr (9, [.int belowOwn, .int belowEither, .int other, .int (out.1 0), .ref a_objects, .ref a_parts, .ref a_lengths, .ref a_previous, .ref a_arrivals, .ref a_firstPlaces]))], [(a_arrivals, .inl (G 0, 32, .inl (out.2 0)))], [(a_firstPlaces, .inl (G 0, 16, .inl (out.2 1)))], [(a_lengths, .inl (G 0, 32, .inl (out.2 2)))], [(a_objects, .inl (G 0, 32, .inl (out.2 3)))], [(a_parts, .inl (G 0, 32, .inl (out.2 4)))], [(a_previous, .inl (G 0, 32, .inl (out.2 5)))]]) := by
  refine x_ent (cc := cX9_leave) (maxL := 5) (by decide) rfl (Nat.le_of_ble_eq_true rfl) ?_
  intro p e s m blw meth c aa ls args Q H locs hQ hx hb hr hml hown hts hlocks hE hN hl hP hS
  have hown : s.vm.findClass RX9 = some m.cls := hown
  have hl : lv_has ls 5 [(0, .ref h), (1, .ref h_p1), (2, .int v2)] := hl
  have L2 : ∀ (n_2 : Nat) (v3 : Int32) (arrivals : (Nat → Int32)) (firstPlaces : (Nat → Int32)) (lengths : (Nat → Int32)) (objects : (Nat → Int32)) (parts : (Nat → Int32)) (places : Int32) (previous : (Nat → Int32)) (H : Heap) (locs : List Loc) (ls : Array Slot), xW D aa [[(h_p1, .inr (3, [.int p1_objects, .ref a_p1_words, .int p1_steps, .ref a_p1_sources, .ref a_p1_targets, .ref a_p1_labels]))], [(a_p1_labels, .inl (G 0, 32, .inl p1_labels))], [(a_p1_sources, .inl (G 0, 32, .inl p1_sources))], [(a_p1_targets, .inl (G 0, 32, .inl p1_targets))], [(h, .inr (9, [.int belowOwn, .int belowEither, .int other, .int places, .ref a_objects, .ref a_parts, .ref a_lengths, .ref a_previous, .ref a_arrivals, .ref a_firstPlaces]))], [(a_arrivals, .inl (G 0, 32, .inl arrivals))], [(a_firstPlaces, .inl (G 0, 16, .inl firstPlaces))], [(a_lengths, .inl (G 0, 32, .inl lengths))], [(a_objects, .inl (G 0, 32, .inl objects))], [(a_parts, .inl (G 0, 32, .inl parts))], [(a_previous, .inl (G 0, 32, .inl previous))]] H → va_S (xA aa) s.heap H locs → lv_has ls 5 [(0, .ref h), (1, .ref h_p1), (2, .int v2), (3, .int v3)] → lp (τ := Int32 → (Nat → Int32) → (Nat → Int32) → (Nat → Int32) → (Nat → Int32) → (Nat → Int32) → Int32 → (Nat → Int32) → Option ((Nat → Int32) × (Nat → (Nat → Int32)))) (fun _ _ _ _ _ _ _ _ => none) (f_X9_leave_L2 fu p1_steps belowOwn belowEither other p1_labels p1_sources p1_targets v2) n_2 v3 arrivals firstPlaces lengths objects parts places previous = some out → W p l e (rM 2 47) s m args blw meth c H locs 0 0 Q (F0 m 2 ls []) := by
    intro    n_2
    induction n_2 with
    | zero =>
      intro v3 arrivals firstPlaces lengths objects parts places previous H locs ls hP hS hl hf
      exact no_some hf
    | succ n_2 ih_2 =>
      intro v3 arrivals firstPlaces lengths objects parts places previous H locs ls hP hS hl hf
      have hf : f_X9_leave_L2 fu p1_steps belowOwn belowEither other p1_labels p1_sources p1_targets v2 (lp (τ := Int32 → (Nat → Int32) → (Nat → Int32) → (Nat → Int32) → (Nat → Int32) → (Nat → Int32) → Int32 → (Nat → Int32) → Option ((Nat → Int32) × (Nat → (Nat → Int32)))) (fun _ _ _ _ _ _ _ _ => none) (f_X9_leave_L2 fu p1_steps belowOwn belowEither other p1_labels p1_sources p1_targets v2) n_2) v3 arrivals firstPlaces lengths objects parts places previous = some out := hf
      have J63 : ∀ (v3 : Int32) (arrivals : (Nat → Int32)) (firstPlaces : (Nat → Int32)) (lengths : (Nat → Int32)) (objects : (Nat → Int32)) (parts : (Nat → Int32)) (places : Int32) (previous : (Nat → Int32)) (H : Heap) (locs : List Loc) (ls : Array Slot), xW D aa [[(h_p1, .inr (3, [.int p1_objects, .ref a_p1_words, .int p1_steps, .ref a_p1_sources, .ref a_p1_targets, .ref a_p1_labels]))], [(a_p1_labels, .inl (G 0, 32, .inl p1_labels))], [(a_p1_sources, .inl (G 0, 32, .inl p1_sources))], [(a_p1_targets, .inl (G 0, 32, .inl p1_targets))], [(h, .inr (9, [.int belowOwn, .int belowEither, .int other, .int places, .ref a_objects, .ref a_parts, .ref a_lengths, .ref a_previous, .ref a_arrivals, .ref a_firstPlaces]))], [(a_arrivals, .inl (G 0, 32, .inl arrivals))], [(a_firstPlaces, .inl (G 0, 16, .inl firstPlaces))], [(a_lengths, .inl (G 0, 32, .inl lengths))], [(a_objects, .inl (G 0, 32, .inl objects))], [(a_parts, .inl (G 0, 32, .inl parts))], [(a_previous, .inl (G 0, 32, .inl previous))]] H → va_S (xA aa) s.heap H locs → lv_has ls 5 [(0, .ref h), (1, .ref h_p1), (2, .int v2), (3, .int v3)] → f_X9_leave_J63 (lp (τ := Int32 → (Nat → Int32) → (Nat → Int32) → (Nat → Int32) → (Nat → Int32) → (Nat → Int32) → Int32 → (Nat → Int32) → Option ((Nat → Int32) × (Nat → (Nat → Int32)))) (fun _ _ _ _ _ _ _ _ => none) (f_X9_leave_L2 fu p1_steps belowOwn belowEither other p1_labels p1_sources p1_targets v2) n_2) v3 arrivals firstPlaces lengths objects parts places previous = some out → W p l e (rM 2 47) s m args blw meth c H locs 0 0 Q (F0 m 63 ls []) := by
        intro v3 arrivals firstPlaces lengths objects parts places previous  H locs ls  hP hS hl hf
        obtain ⟨v3_63, e_v3_63, hf⟩ := lt_some hf
        refine lv_iinc (v := v3_63) (lv' := [(3, .int v3_63), (0, .ref h), (1, .ref h_p1), (2, .int v2)]) hx hb dX9_leave_63 hl (k := 3) rfl (by rw [e_v3_63]; rfl) (by decide) rfl (fun ls hl => ?_)
        refine lv_goto (tgt := 2) hx hb dX9_leave_66 (by decide) ?_
        exact ih_2 v3_63 arrivals firstPlaces lengths objects parts places previous H locs ls hP hS (lv_sub hl [1, 2, 3, 0] rfl) hf
      refine lv_iload_n hx hb dX9_leave_2 rfl (lv_at hl 3 rfl) ?_
      refine lv_aload_n hx hb dX9_leave_3 rfl (lv_at hl 1 rfl) ?_
      refine x_getN hx hb hts u_X9_leave_X3 hown hE hP 0 rfl rfl 2 (by decide) (hE.2 (.fieldLinkNest RX9 70 "DecreasingDiagrams$LabelledSystem" "steps" "I" RX11) (List.mem_of_getElem? (i := 10) rfl)) rfl dX9_leave_4 ?_
      refine lv_icmp_ge (tgt := 69) hx hb dX9_leave_7 (by decide) (fun c_7 => ?_) (fun c_7 => ?_)
      · have hf := it_pos c_7 hf
        have hf := Option.some.inj hf
        rewrite [← hQ, ← hf]
        exact x_vret hx hb hr hlocks hP hS dX9_leave_69
      · have hf := it_neg c_7 hf
        refine lv_aload_n hx hb dX9_leave_10 rfl (lv_at hl 1 rfl) ?_
        refine x_getN hx hb hts u_X9_leave_X3 hown hE hP 0 rfl rfl 3 (by decide) (hE.2 (.fieldLinkNest RX9 73 "DecreasingDiagrams$LabelledSystem" "sources" "[I" RX11) (List.mem_of_getElem? (i := 13) rfl)) rfl dX9_leave_11 ?_
        refine lv_iload_n hx hb dX9_leave_14 rfl (lv_at hl 3 rfl) ?_
        obtain ⟨hi, hf⟩ := ck_some hf
        refine x_iald hx hb hE hP 2 rfl hi dX9_leave_15 ?_
        refine lv_aload_n hx hb dX9_leave_16 rfl (lv_at hl 0 rfl) ?_
        refine x_get hx hb hts u_X9_leave_X9 hown hE hP 4 rfl rfl 4 (by decide) (hts (.fieldLink RX9 24 "DecreasingDiagrams$SidePaths" "objects" "[I") (List.mem_of_getElem? (i := 1) rfl)) rfl dX9_leave_17 ?_
        refine lv_iload_n hx hb dX9_leave_20 rfl (lv_at hl 2 rfl) ?_
        obtain ⟨hi, hf⟩ := ck_some hf
        refine x_iald hx hb hE hP 8 rfl hi dX9_leave_21 ?_
        refine lv_icmp_ne (tgt := 63) hx hb dX9_leave_22 (by decide) (fun c_22 => ?_) (fun c_22 => ?_)
        · have hf := it_pos c_22 hf
          exact J63 v3 arrivals firstPlaces lengths objects parts places previous  H locs ls  hP hS (lv_sub hl [0, 1, 2, 3] rfl) hf
        · have hf := it_neg (fun h => h c_22) hf
          refine lv_aload_n hx hb dX9_leave_25 rfl (lv_at hl 0 rfl) ?_
          refine lv_aload_n hx hb dX9_leave_26 rfl (lv_at hl 0 rfl) ?_
          refine x_get hx hb hts u_X9_leave_X9 hown hE hP 4 rfl rfl 5 (by decide) (hts (.fieldLink RX9 28 "DecreasingDiagrams$SidePaths" "parts" "[I") (List.mem_of_getElem? (i := 2) rfl)) rfl dX9_leave_27 ?_
          refine lv_iload_n hx hb dX9_leave_30 rfl (lv_at hl 2 rfl) ?_
          obtain ⟨hi, hf⟩ := ck_some hf
          refine x_iald hx hb hE hP 9 rfl hi dX9_leave_31 ?_
          refine lv_aload_n hx hb dX9_leave_32 rfl (lv_at hl 1 rfl) ?_
          refine x_getN hx hb hts u_X9_leave_X3 hown hE hP 0 rfl rfl 5 (by decide) (hE.2 (.fieldLinkNest RX9 43 "DecreasingDiagrams$LabelledSystem" "labels" "[I" RX11) (List.mem_of_getElem? (i := 18) rfl)) rfl dX9_leave_33 ?_
          refine lv_iload_n hx hb dX9_leave_36 rfl (lv_at hl 3 rfl) ?_
          obtain ⟨hi, hf⟩ := ck_some hf
          refine x_iald hx hb hE hP 1 rfl hi dX9_leave_37 ?_
          obtain ⟨r_38, hr_38, hf⟩ := bd_some hf
          refine x_goi0 (ps := [4]) (x_runV (As := [.int (parts v2.toNatClampNeg), .int (p1_labels v3.toNatClampNeg)]) (rest := []) (ps := [4]) ⟨hx, hb, hml, hown, hts⟩ (k_X9_partAfter l D G fu h a_objects a_parts a_lengths a_previous a_arrivals a_firstPlaces belowOwn belowEither other places (parts v2.toNatClampNeg) (p1_labels v3.toNatClampNeg) r_38 hr_38) (cwV 2 hts gX9_leave_X9_partAfter rfl rfl rfl (by decide +kernel) ⟨Nat.le_of_ble_eq_true rfl, Nat.le_of_ble_eq_true rfl⟩) hE hP hN rfl (by decide) 4 rfl rfl rfl hl.1 (Nat.le_of_ble_eq_true rfl) dX9_leave_38 ⟨Nat.zero_le _, Nat.zero_le _⟩) hP hN hS rfl (fun H locs hP hS => ?_)
          obtain ⟨v4_41, e_v4_41, hf⟩ := lt_some hf
          refine x_istore (v := v4_41) (lv' := [(4, .int v4_41), (0, .ref h), (1, .ref h_p1), (2, .int v2), (3, .int v3)]) hx hb dX9_leave_41 e_v4_41 hl (by decide) rfl (fun ls hl => ?_)
          refine lv_iload hx hb dX9_leave_43 (lv_at hl 0 rfl) ?_
          refine lv_iconst (v := -1) hx hb dX9_leave_45 (by decide) ?_
          refine lv_icmp_eq (tgt := 63) hx hb dX9_leave_46 (by decide) (fun c_46 => ?_) (fun c_46 => ?_)
          · have hf := it_pos c_46 hf
            exact J63 v3 arrivals firstPlaces lengths objects parts places previous  H locs ls  hP hS (lv_sub hl [1, 2, 3, 4] rfl) hf
          · have hf := it_neg c_46 hf
            refine lv_aload_n hx hb dX9_leave_49 rfl (lv_at hl 1 rfl) ?_
            refine lv_aload_n hx hb dX9_leave_50 rfl (lv_at hl 2 rfl) ?_
            refine x_getN hx hb hts u_X9_leave_X3 hown hE hP 0 rfl rfl 4 (by decide) (hE.2 (.fieldLinkNest RX9 59 "DecreasingDiagrams$LabelledSystem" "targets" "[I" RX11) (List.mem_of_getElem? (i := 15) rfl)) rfl dX9_leave_51 ?_
            refine lv_iload_n hx hb dX9_leave_54 rfl (lv_at hl 4 rfl) ?_
            obtain ⟨hi, hf⟩ := ck_some hf
            refine x_iald hx hb hE hP 3 rfl hi dX9_leave_55 ?_
            refine lv_iload hx hb dX9_leave_56 (lv_at hl 0 rfl) ?_
            refine lv_iload_n hx hb dX9_leave_58 rfl (lv_at hl 3 rfl) ?_
            refine lv_iload_n hx hb dX9_leave_59 rfl (lv_at hl 4 rfl) ?_
            obtain ⟨r_60, hr_60, hf⟩ := bd_some hf
            refine x_gov (ps := [4, 5, 6, 7, 8, 9, 10]) (qs := [0, 1, 2, 3]) (n := 11) (I' := [[(h_p1, .inr (3, [.int p1_objects, .ref a_p1_words, .int p1_steps, .ref a_p1_sources, .ref a_p1_targets, .ref a_p1_labels]))], [(a_p1_labels, .inl (G 0, 32, .inl p1_labels))], [(a_p1_sources, .inl (G 0, 32, .inl p1_sources))], [(a_p1_targets, .inl (G 0, 32, .inl p1_targets))], [(h, .inr (9, [.int belowOwn, .int belowEither, .int other, .int (r_60.1 0), .ref a_objects, .ref a_parts, .ref a_lengths, .ref a_previous, .ref a_arrivals, .ref a_firstPlaces]))], [(a_arrivals, .inl (G 0, 32, .inl (r_60.2 0)))], [(a_firstPlaces, .inl (G 0, 16, .inl (r_60.2 1)))], [(a_lengths, .inl (G 0, 32, .inl (r_60.2 2)))], [(a_objects, .inl (G 0, 32, .inl (r_60.2 3)))], [(a_parts, .inl (G 0, 32, .inl (r_60.2 4)))], [(a_previous, .inl (G 0, 32, .inl (r_60.2 5)))]]) (x_runV (As := [.int (p1_targets v3.toNatClampNeg), .int v4_41, .int v2, .int v3]) (rest := []) (ps := [4, 5, 6, 7, 8, 9, 10]) ⟨hx, hb, hml, hown, hts⟩ (k_X9_meet l D G fu h a_objects a_parts a_lengths a_previous a_arrivals a_firstPlaces belowOwn belowEither other places arrivals firstPlaces lengths objects parts previous (p1_targets v3.toNatClampNeg) v4_41 v2 v3 r_60 hr_60) (cwV 4 hts gX9_leave_X9_meet rfl rfl rfl (by decide +kernel) ⟨Nat.le_of_ble_eq_true rfl, Nat.le_of_ble_eq_true rfl⟩) hE hP hN rfl (by decide) 4 rfl rfl rfl hl.1 (Nat.le_of_ble_eq_true rfl) dX9_leave_60 ⟨Nat.zero_le _, Nat.zero_le _⟩) hP hN hS rfl rfl rfl rfl rfl (by decide) (fun H locs hP hS => ?_)
            exact J63 v3 (r_60.2 0) (r_60.2 1) (r_60.2 2) (r_60.2 3) (r_60.2 4) (r_60.1 0) (r_60.2 5)  H locs ls  hP hS (lv_sub hl [1, 2, 3, 4] rfl) hf
  refine lv_iconst (v := 0) hx hb dX9_leave_0 (by decide) ?_
  obtain ⟨v3_1, e_v3_1, hf⟩ := lt_some hf
  refine x_istore_n (v := v3_1) (lv' := [(3, .int v3_1), (0, .ref h), (1, .ref h_p1), (2, .int v2)]) hx hb dX9_leave_1 e_v3_1 rfl hl (by decide) rfl (fun ls hl => ?_)
  exact L2    fu v3_1 arrivals firstPlaces lengths objects parts places previous H locs ls hP hS (lv_sub hl [1, 2, 3, 0] rfl) hf

set_option maxRecDepth 20000 in
theorem u_X9_search_X9 : ∀ w ∈ wsX90, w ∈ wsX9_search := xx_pl _ [41, 42, 43, 44, 45, 46, 47, 48, 49, 50] (by decide +kernel)
set_option maxRecDepth 20000 in
theorem u_X9_search_X3 : ∀ w ∈ wsX30, w ∈ wsX9_search := xx_pl _ [35, 36, 37, 38, 39, 40] (by decide +kernel)
set_option maxRecDepth 20000 in
theorem u_X9_search_X2 : ∀ w ∈ wsX20, w ∈ wsX9_search := xx_pl _ [51, 52] (by decide +kernel)
def f_X9_search_L80 (fu : Nat) (p1_steps : Int32) (belowOwn : Int32) (belowEither : Int32) (other : Int32) (p1_labels : (Nat → Int32)) (p1_sources : (Nat → Int32)) (p1_targets : (Nat → Int32)) (rec_80 : Int32 → (Nat → Int32) → (Nat → Int32) → (Nat → Int32) → (Nat → Int32) → (Nat → Int32) → Int32 → (Nat → Int32) → Option ((Nat → Int32) × (Nat → (Nat → Int32)))) (v6 : Int32) (arrivals : (Nat → Int32)) (firstPlaces : (Nat → Int32)) (lengths : (Nat → Int32)) (objects : (Nat → Int32)) (parts : (Nat → Int32)) (places : Int32) (previous : (Nat → Int32)) : Option ((Nat → Int32) × (Nat → (Nat → Int32))) :=
  if 32 ≤ v6 then (some (vv (0 : Int32) [belowEither, belowOwn, other, places], vv (fun _ => (0 : Int32)) [arrivals, firstPlaces, lengths, objects, parts, previous])) else (if places ≤ v6 then (some (vv (0 : Int32) [belowEither, belowOwn, other, places], vv (fun _ => (0 : Int32)) [arrivals, firstPlaces, lengths, objects, parts, previous])) else ((f_X9_leave fu p1_steps belowOwn belowEither other places p1_labels p1_sources p1_targets arrivals firstPlaces lengths objects parts previous v6).bind (fun r_100 => lt (v6 + 1) (fun v6_103 => rec_80 v6_103 (r_100.2 0) (r_100.2 1) (r_100.2 2) (r_100.2 3) (r_100.2 4) (r_100.1 0) (r_100.2 5)))))
def f_X9_search (fu : Nat) (p1_steps : Int32) (p1_labels : (Nat → Int32)) (p1_sources : (Nat → Int32)) (p1_targets : (Nat → Int32)) (p2_below : (Nat → Int32)) (arrivals : (Nat → Int32)) (firstPlaces : (Nat → Int32)) (lengths : (Nat → Int32)) (objects : (Nat → Int32)) (parts : (Nat → Int32)) (previous : (Nat → Int32)) (v3 : Int32) (v4 : Int32) : Option ((Nat → Int32) × (Nat → (Nat → Int32))) :=
  ck v3 32 (lt (p1_labels v3.toNatClampNeg) (fun v5_6 => ck v4 32 (lt (p1_labels v4.toNatClampNeg) (fun other_16 => ck v5_6 8 (lt (p2_below v5_6.toNatClampNeg) (fun belowOwn_27 => ck other_16 8 (lt (belowOwn_27 ||| (p2_below other_16.toNatClampNeg)) (fun belowEither_45 => (f_J7_fill_53178 fu firstPlaces 16 (-2)).bind (fun r_54 => lt (0 : Int32) (fun places_59 => ck v3 32 ((f_X9_meet fu places_59 arrivals r_54 lengths objects parts previous (p1_targets v3.toNatClampNeg) 0 (-2) (-2)).bind (fun r_74 => lt (0 : Int32) (fun v6_78 => lp (τ := Int32 → (Nat → Int32) → (Nat → Int32) → (Nat → Int32) → (Nat → Int32) → (Nat → Int32) → Int32 → (Nat → Int32) → Option ((Nat → Int32) × (Nat → (Nat → Int32)))) (fun _ _ _ _ _ _ _ _ => none) (f_X9_search_L80 fu p1_steps belowOwn_27 belowEither_45 other_16 p1_labels p1_sources p1_targets) fu v6_78 (r_74.2 0) (r_74.2 1) (r_74.2 2) (r_74.2 3) (r_74.2 4) (r_74.1 0) (r_74.2 5))))))))))))))
set_option maxHeartbeats 4000000 in
set_option maxRecDepth 100000 in
theorem k_X9_search (l : Launch) (D : va_G) (G : Nat → ClassId) (fu : Nat) (h : Nat) (h_p1 : Nat) (h_p2 : Nat) (a_p1_words : Nat) (a_p1_sources : Nat) (a_p1_targets : Nat) (a_p1_labels : Nat) (a_p2_pairs : Nat) (a_p2_below : Nat) (a_objects : Nat) (a_parts : Nat) (a_lengths : Nat) (a_previous : Nat) (a_arrivals : Nat) (a_firstPlaces : Nat) (p1_objects : Int32) (p1_steps : Int32) (belowOwn : Int32) (belowEither : Int32) (other : Int32) (places : Int32) (p1_labels : (Nat → Int32)) (p1_sources : (Nat → Int32)) (p1_targets : (Nat → Int32)) (p2_below : (Nat → Int32)) (arrivals : (Nat → Int32)) (firstPlaces : (Nat → Int32)) (lengths : (Nat → Int32)) (objects : (Nat → Int32)) (parts : (Nat → Int32)) (previous : (Nat → Int32))  (v3 : Int32) (v4 : Int32) (out : (Nat → Int32) × (Nat → (Nat → Int32))) (hf : f_X9_search fu p1_steps p1_labels p1_sources p1_targets p2_below arrivals firstPlaces lengths objects parts previous v3 v4 = some out) : xMet l yX9_search wsX9_search (rM 3 71) D G [.ref h, .ref h_p1, .ref h_p2, .int v3, .int v4] [[(h_p1, .inr (3, [.int p1_objects, .ref a_p1_words, .int p1_steps, .ref a_p1_sources, .ref a_p1_targets, .ref a_p1_labels]))], [(a_p1_labels, .inl (G 0, 32, .inl p1_labels))], [(a_p1_sources, .inl (G 0, 32, .inl p1_sources))], [(a_p1_targets, .inl (G 0, 32, .inl p1_targets))], [(h_p2, .inr (2, [.ref a_p2_pairs, .ref a_p2_below]))], [(a_p2_below, .inl (G 0, 8, .inl p2_below))], [(h, .inr (9, [.int belowOwn, .int belowEither, .int other, .int places, .ref a_objects, .ref a_parts, .ref a_lengths, .ref a_previous, .ref a_arrivals, .ref a_firstPlaces]))], [(a_arrivals, .inl (G 0, 32, .inl arrivals))], [(a_firstPlaces, .inl (G 0, 16, .inl firstPlaces))], [(a_lengths, .inl (G 0, 32, .inl lengths))], [(a_objects, .inl (G 0, 32, .inl objects))], [(a_parts, .inl (G 0, 32, .inl parts))], [(a_previous, .inl (G 0, 32, .inl previous))]] (xQv D [[(h_p1, .inr (3, [.int p1_objects, .ref a_p1_words, .int p1_steps, .ref a_p1_sources, .ref a_p1_targets, .ref a_p1_labels]))], [(a_p1_labels, .inl (G 0, 32, .inl p1_labels))], [(a_p1_sources, .inl (G 0, 32, .inl p1_sources))], [(a_p1_targets, .inl (G 0, 32, .inl p1_targets))], [(h_p2, .inr (2, [.ref a_p2_pairs, .ref a_p2_below]))], [(a_p2_below, .inl (G 0, 8, .inl p2_below))], [(h, .inr (9, [.int (out.1 1), .int (out.1 0), .int (out.1 2), .int (out.1 3), .ref a_objects, .ref a_parts, .ref a_lengths, .ref a_previous, .ref a_arrivals, .ref a_firstPlaces]))], [(a_arrivals, .inl (G 0, 32, .inl (out.2 0)))], [(a_firstPlaces, .inl (G 0, 16, .inl (out.2 1)))], [(a_lengths, .inl (G 0, 32, .inl (out.2 2)))], [(a_objects, .inl (G 0, 32, .inl (out.2 3)))], [(a_parts, .inl (G 0, 32, .inl (out.2 4)))], [(a_previous, .inl (G 0, 32, .inl (out.2 5)))]]) := by
  refine x_ent (cc := cX9_search) (maxL := 7) (by decide) rfl (Nat.le_of_ble_eq_true rfl) ?_
  intro p e s m blw meth c aa ls args Q H locs hQ hx hb hr hml hown hts hlocks hE hN hl hP hS
  have hown : s.vm.findClass RX9 = some m.cls := hown
  have hl : lv_has ls 7 [(0, .ref h), (1, .ref h_p1), (2, .ref h_p2), (3, .int v3), (4, .int v4)] := hl
  have L80 : ∀ (belowEither : Int32) (belowOwn : Int32) (other : Int32), ∀ (n_80 : Nat) (v6 : Int32) (arrivals : (Nat → Int32)) (firstPlaces : (Nat → Int32)) (lengths : (Nat → Int32)) (objects : (Nat → Int32)) (parts : (Nat → Int32)) (places : Int32) (previous : (Nat → Int32)) (H : Heap) (locs : List Loc) (ls : Array Slot), xW D aa [[(h_p1, .inr (3, [.int p1_objects, .ref a_p1_words, .int p1_steps, .ref a_p1_sources, .ref a_p1_targets, .ref a_p1_labels]))], [(a_p1_labels, .inl (G 0, 32, .inl p1_labels))], [(a_p1_sources, .inl (G 0, 32, .inl p1_sources))], [(a_p1_targets, .inl (G 0, 32, .inl p1_targets))], [(h_p2, .inr (2, [.ref a_p2_pairs, .ref a_p2_below]))], [(a_p2_below, .inl (G 0, 8, .inl p2_below))], [(h, .inr (9, [.int belowOwn, .int belowEither, .int other, .int places, .ref a_objects, .ref a_parts, .ref a_lengths, .ref a_previous, .ref a_arrivals, .ref a_firstPlaces]))], [(a_arrivals, .inl (G 0, 32, .inl arrivals))], [(a_firstPlaces, .inl (G 0, 16, .inl firstPlaces))], [(a_lengths, .inl (G 0, 32, .inl lengths))], [(a_objects, .inl (G 0, 32, .inl objects))], [(a_parts, .inl (G 0, 32, .inl parts))], [(a_previous, .inl (G 0, 32, .inl previous))]] H → va_S (xA aa) s.heap H locs → lv_has ls 7 [(0, .ref h), (1, .ref h_p1), (6, .int v6)] → lp (τ := Int32 → (Nat → Int32) → (Nat → Int32) → (Nat → Int32) → (Nat → Int32) → (Nat → Int32) → Int32 → (Nat → Int32) → Option ((Nat → Int32) × (Nat → (Nat → Int32)))) (fun _ _ _ _ _ _ _ _ => none) (f_X9_search_L80 fu p1_steps belowOwn belowEither other p1_labels p1_sources p1_targets) n_80 v6 arrivals firstPlaces lengths objects parts places previous = some out → W p l e (rM 3 71) s m args blw meth c H locs 0 0 Q (F0 m 80 ls []) := by
    intro belowEither belowOwn other   n_80
    induction n_80 with
    | zero =>
      intro v6 arrivals firstPlaces lengths objects parts places previous H locs ls hP hS hl hf
      exact no_some hf
    | succ n_80 ih_80 =>
      intro v6 arrivals firstPlaces lengths objects parts places previous H locs ls hP hS hl hf
      have hf : f_X9_search_L80 fu p1_steps belowOwn belowEither other p1_labels p1_sources p1_targets (lp (τ := Int32 → (Nat → Int32) → (Nat → Int32) → (Nat → Int32) → (Nat → Int32) → (Nat → Int32) → Int32 → (Nat → Int32) → Option ((Nat → Int32) × (Nat → (Nat → Int32)))) (fun _ _ _ _ _ _ _ _ => none) (f_X9_search_L80 fu p1_steps belowOwn belowEither other p1_labels p1_sources p1_targets) n_80) v6 arrivals firstPlaces lengths objects parts places previous = some out := hf
      refine lv_iload hx hb dX9_search_80 (lv_at hl 2 rfl) ?_
      refine lv_bipush (v := 32) hx hb dX9_search_82 (by decide) ?_
      refine lv_icmp_ge (tgt := 109) hx hb dX9_search_84 (by decide) (fun c_84 => ?_) (fun c_84 => ?_)
      · have hf := it_pos c_84 hf
        have hf := Option.some.inj hf
        rewrite [← hQ, ← hf]
        exact x_vret hx hb hr hlocks hP hS dX9_search_109
      · have hf := it_neg c_84 hf
        refine lv_iload hx hb dX9_search_87 (lv_at hl 2 rfl) ?_
        refine lv_aload_n hx hb dX9_search_89 rfl (lv_at hl 0 rfl) ?_
        refine x_get hx hb hts u_X9_search_X9 hown hE hP 6 rfl rfl 3 (by decide) (hts (.fieldLink RX9 21 "DecreasingDiagrams$SidePaths" "places" "I") (List.mem_of_getElem? (i := 5) rfl)) rfl dX9_search_90 ?_
        refine lv_icmp_ge (tgt := 109) hx hb dX9_search_93 (by decide) (fun c_93 => ?_) (fun c_93 => ?_)
        · have hf := it_pos c_93 hf
          have hf := Option.some.inj hf
          rewrite [← hQ, ← hf]
          exact x_vret hx hb hr hlocks hP hS dX9_search_109
        · have hf := it_neg c_93 hf
          refine lv_aload_n hx hb dX9_search_96 rfl (lv_at hl 0 rfl) ?_
          refine lv_aload_n hx hb dX9_search_97 rfl (lv_at hl 1 rfl) ?_
          refine lv_iload hx hb dX9_search_98 (lv_at hl 2 rfl) ?_
          obtain ⟨r_100, hr_100, hf⟩ := bd_some hf
          refine x_gov (ps := [0, 1, 2, 3, 6, 7, 8, 9, 10, 11, 12]) (qs := [4, 5]) (n := 13) (I' := [[(h_p1, .inr (3, [.int p1_objects, .ref a_p1_words, .int p1_steps, .ref a_p1_sources, .ref a_p1_targets, .ref a_p1_labels]))], [(a_p1_labels, .inl (G 0, 32, .inl p1_labels))], [(a_p1_sources, .inl (G 0, 32, .inl p1_sources))], [(a_p1_targets, .inl (G 0, 32, .inl p1_targets))], [(h_p2, .inr (2, [.ref a_p2_pairs, .ref a_p2_below]))], [(a_p2_below, .inl (G 0, 8, .inl p2_below))], [(h, .inr (9, [.int belowOwn, .int belowEither, .int other, .int (r_100.1 0), .ref a_objects, .ref a_parts, .ref a_lengths, .ref a_previous, .ref a_arrivals, .ref a_firstPlaces]))], [(a_arrivals, .inl (G 0, 32, .inl (r_100.2 0)))], [(a_firstPlaces, .inl (G 0, 16, .inl (r_100.2 1)))], [(a_lengths, .inl (G 0, 32, .inl (r_100.2 2)))], [(a_objects, .inl (G 0, 32, .inl (r_100.2 3)))], [(a_parts, .inl (G 0, 32, .inl (r_100.2 4)))], [(a_previous, .inl (G 0, 32, .inl (r_100.2 5)))]]) (x_runV (As := [.ref h_p1, .int v6]) (rest := []) (ps := [0, 1, 2, 3, 6, 7, 8, 9, 10, 11, 12]) ⟨hx, hb, hml, hown, hts⟩ (k_X9_leave l D G fu h h_p1 a_p1_words a_p1_sources a_p1_targets a_p1_labels a_objects a_parts a_lengths a_previous a_arrivals a_firstPlaces p1_objects p1_steps belowOwn belowEither other places p1_labels p1_sources p1_targets arrivals firstPlaces lengths objects parts previous v6 r_100 hr_100) (cwV 2 hts gX9_search_X9_leave rfl rfl rfl (by decide +kernel) ⟨Nat.le_of_ble_eq_true rfl, Nat.le_of_ble_eq_true rfl⟩) hE hP hN rfl (by decide) 6 rfl rfl rfl hl.1 (Nat.le_of_ble_eq_true rfl) dX9_search_100 ⟨Nat.zero_le _, Nat.zero_le _⟩) hP hN hS rfl rfl rfl rfl rfl (by decide) (fun H locs hP hS => ?_)
          obtain ⟨v6_103, e_v6_103, hf⟩ := lt_some hf
          refine lv_iinc (v := v6_103) (lv' := [(6, .int v6_103), (0, .ref h), (1, .ref h_p1)]) hx hb dX9_search_103 hl (k := 2) rfl (by rw [e_v6_103]; rfl) (by decide) rfl (fun ls hl => ?_)
          refine lv_goto (tgt := 80) hx hb dX9_search_106 (by decide) ?_
          exact ih_80 v6_103 (r_100.2 0) (r_100.2 1) (r_100.2 2) (r_100.2 3) (r_100.2 4) (r_100.1 0) (r_100.2 5) H locs ls hP hS (lv_sub hl [1, 2, 0] rfl) hf
  refine lv_aload_n hx hb dX9_search_0 rfl (lv_at hl 1 rfl) ?_
  refine x_getN hx hb hts u_X9_search_X3 hown hE hP 0 rfl rfl 5 (by decide) (hE.2 (.fieldLinkNest RX9 43 "DecreasingDiagrams$LabelledSystem" "labels" "[I" RX11) (List.mem_of_getElem? (i := 18) rfl)) rfl dX9_search_1 ?_
  refine lv_iload_n hx hb dX9_search_4 rfl (lv_at hl 3 rfl) ?_
  obtain ⟨hi, hf⟩ := ck_some hf
  refine x_iald hx hb hE hP 1 rfl hi dX9_search_5 ?_
  obtain ⟨v5_6, e_v5_6, hf⟩ := lt_some hf
  refine x_istore (v := v5_6) (lv' := [(5, .int v5_6), (0, .ref h), (1, .ref h_p1), (2, .ref h_p2), (3, .int v3), (4, .int v4)]) hx hb dX9_search_6 e_v5_6 hl (by decide) rfl (fun ls hl => ?_)
  refine lv_aload_n hx hb dX9_search_8 rfl (lv_at hl 1 rfl) ?_
  refine lv_aload_n hx hb dX9_search_9 rfl (lv_at hl 2 rfl) ?_
  refine x_getN hx hb hts u_X9_search_X3 hown hE hP 0 rfl rfl 5 (by decide) (hE.2 (.fieldLinkNest RX9 43 "DecreasingDiagrams$LabelledSystem" "labels" "[I" RX11) (List.mem_of_getElem? (i := 18) rfl)) rfl dX9_search_10 ?_
  refine lv_iload hx hb dX9_search_13 (lv_at hl 5 rfl) ?_
  obtain ⟨hi, hf⟩ := ck_some hf
  refine x_iald hx hb hE hP 1 rfl hi dX9_search_15 ?_
  obtain ⟨other_16, e_other_16, hf⟩ := lt_some hf
  refine x_put (w := .int other_16) (ty := .int) (I' := [[(h_p1, .inr (3, [.int p1_objects, .ref a_p1_words, .int p1_steps, .ref a_p1_sources, .ref a_p1_targets, .ref a_p1_labels]))], [(a_p1_labels, .inl (G 0, 32, .inl p1_labels))], [(a_p1_sources, .inl (G 0, 32, .inl p1_sources))], [(a_p1_targets, .inl (G 0, 32, .inl p1_targets))], [(h_p2, .inr (2, [.ref a_p2_pairs, .ref a_p2_below]))], [(a_p2_below, .inl (G 0, 8, .inl p2_below))], [(h, .inr (9, [.int belowOwn, .int belowEither, .int other_16, .int places, .ref a_objects, .ref a_parts, .ref a_lengths, .ref a_previous, .ref a_arrivals, .ref a_firstPlaces]))], [(a_arrivals, .inl (G 0, 32, .inl arrivals))], [(a_firstPlaces, .inl (G 0, 16, .inl firstPlaces))], [(a_lengths, .inl (G 0, 32, .inl lengths))], [(a_objects, .inl (G 0, 32, .inl objects))], [(a_parts, .inl (G 0, 32, .inl parts))], [(a_previous, .inl (G 0, 32, .inl previous))]]) hx hb hts u_X9_search_X9 tyX9 tyX9_ok nmX9 hown hE hP hN hS 6 rfl rfl 2 (by decide) (hts (.fieldLink RX9 18 "DecreasingDiagrams$SidePaths" "other" "I") (List.mem_of_getElem? (i := 1) rfl)) rfl (congrArg Value.int e_other_16) (by decide +kernel) rfl rfl (Nat.le_of_ble_eq_true rfl) rfl dX9_search_16 (fun H locs hP hS => ?_)
  refine lv_aload_n hx hb dX9_search_19 rfl (lv_at hl 1 rfl) ?_
  refine lv_aload_n hx hb dX9_search_20 rfl (lv_at hl 3 rfl) ?_
  refine x_getN hx hb hts u_X9_search_X2 hown hE hP 4 rfl rfl 1 (by decide) (hE.2 (.fieldLinkNest RX9 48 "DecreasingDiagrams$LabelOrder" "below" "[I" RX11) (List.mem_of_getElem? (i := 1) rfl)) rfl dX9_search_21 ?_
  refine lv_iload hx hb dX9_search_24 (lv_at hl 0 rfl) ?_
  obtain ⟨hi, hf⟩ := ck_some hf
  refine x_iald hx hb hE hP 5 rfl hi dX9_search_26 ?_
  obtain ⟨belowOwn_27, e_belowOwn_27, hf⟩ := lt_some hf
  refine x_put (w := .int belowOwn_27) (ty := .int) (I' := [[(h_p1, .inr (3, [.int p1_objects, .ref a_p1_words, .int p1_steps, .ref a_p1_sources, .ref a_p1_targets, .ref a_p1_labels]))], [(a_p1_labels, .inl (G 0, 32, .inl p1_labels))], [(a_p1_sources, .inl (G 0, 32, .inl p1_sources))], [(a_p1_targets, .inl (G 0, 32, .inl p1_targets))], [(h_p2, .inr (2, [.ref a_p2_pairs, .ref a_p2_below]))], [(a_p2_below, .inl (G 0, 8, .inl p2_below))], [(h, .inr (9, [.int belowOwn_27, .int belowEither, .int other_16, .int places, .ref a_objects, .ref a_parts, .ref a_lengths, .ref a_previous, .ref a_arrivals, .ref a_firstPlaces]))], [(a_arrivals, .inl (G 0, 32, .inl arrivals))], [(a_firstPlaces, .inl (G 0, 16, .inl firstPlaces))], [(a_lengths, .inl (G 0, 32, .inl lengths))], [(a_objects, .inl (G 0, 32, .inl objects))], [(a_parts, .inl (G 0, 32, .inl parts))], [(a_previous, .inl (G 0, 32, .inl previous))]]) hx hb hts u_X9_search_X9 tyX9 tyX9_ok nmX9 hown hE hP hN hS 6 rfl rfl 0 (by decide) (hts (.fieldLink RX9 9 "DecreasingDiagrams$SidePaths" "belowOwn" "I") (List.mem_of_getElem? (i := 2) rfl)) rfl (congrArg Value.int e_belowOwn_27) (by decide +kernel) rfl rfl (Nat.le_of_ble_eq_true rfl) rfl dX9_search_27 (fun H locs hP hS => ?_)
  refine lv_aload_n hx hb dX9_search_30 rfl (lv_at hl 1 rfl) ?_
  refine lv_aload_n hx hb dX9_search_31 rfl (lv_at hl 1 rfl) ?_
  refine x_get hx hb hts u_X9_search_X9 hown hE hP 6 rfl rfl 0 (by decide) (hts (.fieldLink RX9 9 "DecreasingDiagrams$SidePaths" "belowOwn" "I") (List.mem_of_getElem? (i := 2) rfl)) rfl dX9_search_32 ?_
  refine lv_aload_n hx hb dX9_search_35 rfl (lv_at hl 3 rfl) ?_
  refine x_getN hx hb hts u_X9_search_X2 hown hE hP 4 rfl rfl 1 (by decide) (hE.2 (.fieldLinkNest RX9 48 "DecreasingDiagrams$LabelOrder" "below" "[I" RX11) (List.mem_of_getElem? (i := 1) rfl)) rfl dX9_search_36 ?_
  refine lv_aload_n hx hb dX9_search_39 rfl (lv_at hl 1 rfl) ?_
  refine x_get hx hb hts u_X9_search_X9 hown hE hP 6 rfl rfl 2 (by decide) (hts (.fieldLink RX9 18 "DecreasingDiagrams$SidePaths" "other" "I") (List.mem_of_getElem? (i := 1) rfl)) rfl dX9_search_40 ?_
  obtain ⟨hi, hf⟩ := ck_some hf
  refine x_iald hx hb hE hP 5 rfl hi dX9_search_43 ?_
  refine lv_ior hx hb dX9_search_44 ?_
  obtain ⟨belowEither_45, e_belowEither_45, hf⟩ := lt_some hf
  refine x_put (w := .int belowEither_45) (ty := .int) (I' := [[(h_p1, .inr (3, [.int p1_objects, .ref a_p1_words, .int p1_steps, .ref a_p1_sources, .ref a_p1_targets, .ref a_p1_labels]))], [(a_p1_labels, .inl (G 0, 32, .inl p1_labels))], [(a_p1_sources, .inl (G 0, 32, .inl p1_sources))], [(a_p1_targets, .inl (G 0, 32, .inl p1_targets))], [(h_p2, .inr (2, [.ref a_p2_pairs, .ref a_p2_below]))], [(a_p2_below, .inl (G 0, 8, .inl p2_below))], [(h, .inr (9, [.int belowOwn_27, .int belowEither_45, .int other_16, .int places, .ref a_objects, .ref a_parts, .ref a_lengths, .ref a_previous, .ref a_arrivals, .ref a_firstPlaces]))], [(a_arrivals, .inl (G 0, 32, .inl arrivals))], [(a_firstPlaces, .inl (G 0, 16, .inl firstPlaces))], [(a_lengths, .inl (G 0, 32, .inl lengths))], [(a_objects, .inl (G 0, 32, .inl objects))], [(a_parts, .inl (G 0, 32, .inl parts))], [(a_previous, .inl (G 0, 32, .inl previous))]]) hx hb hts u_X9_search_X9 tyX9 tyX9_ok nmX9 hown hE hP hN hS 6 rfl rfl 1 (by decide) (hts (.fieldLink RX9 15 "DecreasingDiagrams$SidePaths" "belowEither" "I") (List.mem_of_getElem? (i := 3) rfl)) rfl (congrArg Value.int e_belowEither_45) (by decide +kernel) rfl rfl (Nat.le_of_ble_eq_true rfl) rfl dX9_search_45 (fun H locs hP hS => ?_)
  refine lv_aload_n hx hb dX9_search_48 rfl (lv_at hl 1 rfl) ?_
  refine x_get hx hb hts u_X9_search_X9 hown hE hP 6 rfl rfl 9 (by decide) (hts (.fieldLink RX9 40 "DecreasingDiagrams$SidePaths" "firstPlaces" "[I") (List.mem_of_getElem? (i := 4) rfl)) rfl dX9_search_49 ?_
  refine lv_bipush (v := -2) hx hb dX9_search_52 (by decide) ?_
  obtain ⟨r_54, hr_54, hf⟩ := bd_some hf
  refine x_gov (ps := [8]) (qs := [0, 1, 2, 3, 4, 5, 6, 7, 9, 10, 11, 12]) (n := 13) (I' := [[(h_p1, .inr (3, [.int p1_objects, .ref a_p1_words, .int p1_steps, .ref a_p1_sources, .ref a_p1_targets, .ref a_p1_labels]))], [(a_p1_labels, .inl (G 0, 32, .inl p1_labels))], [(a_p1_sources, .inl (G 0, 32, .inl p1_sources))], [(a_p1_targets, .inl (G 0, 32, .inl p1_targets))], [(h_p2, .inr (2, [.ref a_p2_pairs, .ref a_p2_below]))], [(a_p2_below, .inl (G 0, 8, .inl p2_below))], [(h, .inr (9, [.int belowOwn_27, .int belowEither_45, .int other_16, .int places, .ref a_objects, .ref a_parts, .ref a_lengths, .ref a_previous, .ref a_arrivals, .ref a_firstPlaces]))], [(a_arrivals, .inl (G 0, 32, .inl arrivals))], [(a_firstPlaces, .inl (G 0, 16, .inl r_54))], [(a_lengths, .inl (G 0, 32, .inl lengths))], [(a_objects, .inl (G 0, 32, .inl objects))], [(a_parts, .inl (G 0, 32, .inl parts))], [(a_previous, .inl (G 0, 32, .inl previous))]]) (x_runS (As := [.ref a_firstPlaces, .int (-2)]) (rest := []) (ps := [8]) ⟨hx, hb, hml, hown, hts⟩ (k_J7_fill_53178 l D G fu a_firstPlaces firstPlaces 16 (-2) r_54 hr_54) (va_cwS 2 hts gX9_search_J7_fill_53178 rfl rfl rfl (by decide +kernel) ⟨Nat.le_of_ble_eq_true rfl, Nat.le_of_ble_eq_true rfl⟩) hE hP hN rfl (by decide) rfl hl.1 (Nat.le_of_ble_eq_true rfl) dX9_search_54 ⟨Nat.zero_le _, Nat.zero_le _⟩) hP hN hS rfl rfl rfl rfl rfl (by decide) (fun H locs hP hS => ?_)
  refine lv_aload_n hx hb dX9_search_57 rfl (lv_at hl 1 rfl) ?_
  refine lv_iconst (v := 0) hx hb dX9_search_58 (by decide) ?_
  obtain ⟨places_59, e_places_59, hf⟩ := lt_some hf
  refine x_put (w := .int places_59) (ty := .int) (I' := [[(h_p1, .inr (3, [.int p1_objects, .ref a_p1_words, .int p1_steps, .ref a_p1_sources, .ref a_p1_targets, .ref a_p1_labels]))], [(a_p1_labels, .inl (G 0, 32, .inl p1_labels))], [(a_p1_sources, .inl (G 0, 32, .inl p1_sources))], [(a_p1_targets, .inl (G 0, 32, .inl p1_targets))], [(h_p2, .inr (2, [.ref a_p2_pairs, .ref a_p2_below]))], [(a_p2_below, .inl (G 0, 8, .inl p2_below))], [(h, .inr (9, [.int belowOwn_27, .int belowEither_45, .int other_16, .int places_59, .ref a_objects, .ref a_parts, .ref a_lengths, .ref a_previous, .ref a_arrivals, .ref a_firstPlaces]))], [(a_arrivals, .inl (G 0, 32, .inl arrivals))], [(a_firstPlaces, .inl (G 0, 16, .inl r_54))], [(a_lengths, .inl (G 0, 32, .inl lengths))], [(a_objects, .inl (G 0, 32, .inl objects))], [(a_parts, .inl (G 0, 32, .inl parts))], [(a_previous, .inl (G 0, 32, .inl previous))]]) hx hb hts u_X9_search_X9 tyX9 tyX9_ok nmX9 hown hE hP hN hS 6 rfl rfl 3 (by decide) (hts (.fieldLink RX9 21 "DecreasingDiagrams$SidePaths" "places" "I") (List.mem_of_getElem? (i := 5) rfl)) rfl (congrArg Value.int e_places_59) (by decide +kernel) rfl rfl (Nat.le_of_ble_eq_true rfl) rfl dX9_search_59 (fun H locs hP hS => ?_)
  refine lv_aload_n hx hb dX9_search_62 rfl (lv_at hl 1 rfl) ?_
  refine lv_aload_n hx hb dX9_search_63 rfl (lv_at hl 2 rfl) ?_
  refine x_getN hx hb hts u_X9_search_X3 hown hE hP 0 rfl rfl 4 (by decide) (hE.2 (.fieldLinkNest RX9 59 "DecreasingDiagrams$LabelledSystem" "targets" "[I" RX11) (List.mem_of_getElem? (i := 15) rfl)) rfl dX9_search_64 ?_
  refine lv_iload_n hx hb dX9_search_67 rfl (lv_at hl 4 rfl) ?_
  obtain ⟨hi, hf⟩ := ck_some hf
  refine x_iald hx hb hE hP 3 rfl hi dX9_search_68 ?_
  refine lv_iconst (v := 0) hx hb dX9_search_69 (by decide) ?_
  refine lv_bipush (v := -2) hx hb dX9_search_70 (by decide) ?_
  refine lv_bipush (v := -2) hx hb dX9_search_72 (by decide) ?_
  obtain ⟨r_74, hr_74, hf⟩ := bd_some hf
  refine x_gov (ps := [6, 7, 8, 9, 10, 11, 12]) (qs := [0, 1, 2, 3, 4, 5]) (n := 13) (I' := [[(h_p1, .inr (3, [.int p1_objects, .ref a_p1_words, .int p1_steps, .ref a_p1_sources, .ref a_p1_targets, .ref a_p1_labels]))], [(a_p1_labels, .inl (G 0, 32, .inl p1_labels))], [(a_p1_sources, .inl (G 0, 32, .inl p1_sources))], [(a_p1_targets, .inl (G 0, 32, .inl p1_targets))], [(h_p2, .inr (2, [.ref a_p2_pairs, .ref a_p2_below]))], [(a_p2_below, .inl (G 0, 8, .inl p2_below))], [(h, .inr (9, [.int belowOwn_27, .int belowEither_45, .int other_16, .int (r_74.1 0), .ref a_objects, .ref a_parts, .ref a_lengths, .ref a_previous, .ref a_arrivals, .ref a_firstPlaces]))], [(a_arrivals, .inl (G 0, 32, .inl (r_74.2 0)))], [(a_firstPlaces, .inl (G 0, 16, .inl (r_74.2 1)))], [(a_lengths, .inl (G 0, 32, .inl (r_74.2 2)))], [(a_objects, .inl (G 0, 32, .inl (r_74.2 3)))], [(a_parts, .inl (G 0, 32, .inl (r_74.2 4)))], [(a_previous, .inl (G 0, 32, .inl (r_74.2 5)))]]) (x_runV (As := [.int (p1_targets v3.toNatClampNeg), .int 0, .int (-2), .int (-2)]) (rest := []) (ps := [6, 7, 8, 9, 10, 11, 12]) ⟨hx, hb, hml, hown, hts⟩ (k_X9_meet l D G fu h a_objects a_parts a_lengths a_previous a_arrivals a_firstPlaces belowOwn_27 belowEither_45 other_16 places_59 arrivals r_54 lengths objects parts previous (p1_targets v3.toNatClampNeg) 0 (-2) (-2) r_74 hr_74) (cwV 4 hts gX9_search_X9_meet rfl rfl rfl (by decide +kernel) ⟨Nat.le_of_ble_eq_true rfl, Nat.le_of_ble_eq_true rfl⟩) hE hP hN rfl (by decide) 6 rfl rfl rfl hl.1 (Nat.le_of_ble_eq_true rfl) dX9_search_74 ⟨Nat.zero_le _, Nat.zero_le _⟩) hP hN hS rfl rfl rfl rfl rfl (by decide) (fun H locs hP hS => ?_)
  refine lv_iconst (v := 0) hx hb dX9_search_77 (by decide) ?_
  obtain ⟨v6_78, e_v6_78, hf⟩ := lt_some hf
  refine x_istore (v := v6_78) (lv' := [(6, .int v6_78), (5, .int v5_6), (0, .ref h), (1, .ref h_p1), (2, .ref h_p2), (3, .int v3), (4, .int v4)]) hx hb dX9_search_78 e_v6_78 hl (by decide) rfl (fun ls hl => ?_)
  exact L80 belowEither_45 belowOwn_27 other_16   fu v6_78 (r_74.2 0) (r_74.2 1) (r_74.2 2) (r_74.2 3) (r_74.2 4) (r_74.1 0) (r_74.2 5) H locs ls hP hS (lv_sub hl [2, 3, 0] rfl) hf
