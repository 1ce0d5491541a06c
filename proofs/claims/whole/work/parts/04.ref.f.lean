set_option maxRecDepth 20000 in
theorem u_X12_saveReachable_X12 : ∀ w ∈ wsX120, w ∈ wsX12_saveReachable := xx_pl _ [23, 24, 25, 26, 27, 28, 29, 30, 31, 32, 33, 34, 35, 36, 37, 38, 39, 40, 41, 42, 43, 44, 45, 46, 47, 48, 49, 50, 51, 52, 53, 54, 55, 56, 57, 58, 59, 60, 61, 62, 63, 64, 65, 66, 67, 68, 69, 70, 71, 72, 73, 74] (by decide +kernel)
def f_X12_saveReachable_L25 (fu : Nat) (objects : Int32) (distances : (Nat → Nat → Int32)) (sizes : (Nat → Int32)) (v1 : Int32) (rec_25 : Int32 → (Nat → Nat → Int64) → Option (Int32 × (Nat → Nat → Int64) × (Nat → Nat → Int32) × (Nat → Int32))) (v2 : Int32) (arrays : (Nat → Nat → Int64)) : Option (Int32 × (Nat → Nat → Int64) × (Nat → Nat → Int32) × (Nat → Int32)) :=
  if objects ≤ v2 then (some (objects, arrays, distances, sizes)) else (ck v1 3 ((f_X12_reachedFrom fu objects distances v2).bind (fun r_42 => ck v2 16 (lt (up2 arrays v1.toNatClampNeg v2.toNatClampNeg r_42.toInt64) (fun arrays_46 => lt (v2 + 1) (fun v2_47 => rec_25 v2_47 arrays_46))))))
def f_X12_saveReachable (fu : Nat) (objects : Int32) (steps : Int32) (arrays : (Nat → Nat → Int64)) (distances : (Nat → Nat → Int32)) (sizes : (Nat → Int32)) (sources : (Nat → Int32)) (targets : (Nat → Int32)) (v1 : Int32) : Option (Int32 × (Nat → Nat → Int64) × (Nat → Nat → Int32) × (Nat → Int32)) :=
  (f_X12_isArray v1).bind (fun r_1 => if ¬ r_1 = 0 then ((f_X12_findDistances fu objects steps distances sources targets).bind (fun r_10 => ck v1 3 (lt (upd sizes v1.toNatClampNeg objects) (fun sizes_22 => lt 0 (fun v2_24 => lp (τ := Int32 → (Nat → Nat → Int64) → Option (Int32 × (Nat → Nat → Int64) × (Nat → Nat → Int32) × (Nat → Int32))) (fun _ _ => none) (f_X12_saveReachable_L25 fu objects r_10 sizes_22 v1) fu v2_24 arrays))))) else (some ((-1), arrays, distances, sizes)))
set_option maxHeartbeats 4000000 in
set_option maxRecDepth 100000 in
theorem k_X12_saveReachable (l : Launch) (D : va_G) (G : Nat → ClassId) (fu : Nat) (h : Nat) (a_pairs : Nat) (a_above : Nat) (a_sources : Nat) (a_targets : Nat) (a_labels : Nat) (a_lengths : Nat) (a_letters : Nat) (a_distances : Nat) (a_longest : Nat) (a_lengthsTo : Nat) (a_lengthsFrom : Nat) (a_path : Nat) (a_output : Nat) (a_found : Nat) (a_keptLabels : Nat) (a_keptPairs : Nat) (a_input : Nat) (a_sides : Nat) (a_sideLengths : Nat) (a_newLengths : Nat) (a_newLetters : Nat) (a_newSources : Nat) (a_newTargets : Nat) (a_newLabels : Nat) (a_word : Nat) (a_failed : Nat) (a_sizes : Nat) (a_arrays : Nat) (a_savedLengths : Nat) (a_savedSources : Nat) (a_savedTargets : Nat) (a_savedLabels : Nat) (a_savedSideLengths : Nat) (a_savedLetters : Nat) (a_savedSides : Nat) (a_savedPairs : Nat) (r_arrays : Nat → Nat) (r_distances : Nat → Nat) (objects : Int32) (steps : Int32) (firstStep : Int32) (secondStep : Int32) (pathLength : Int32) (outputLength : Int32) (foundSteps : Int32) (inputLength : Int32) (rules : Int32) (newObjects : Int32) (newSteps : Int32) (wordSize : Int32) (hasSnapshot : Int32) (savedObjects : Int32) (savedSteps : Int32) (savedRules : Int32) (arrays : (Nat → Nat → Int64)) (distances : (Nat → Nat → Int32)) (sizes : (Nat → Int32)) (sources : (Nat → Int32)) (targets : (Nat → Int32))  (v1 : Int32) (out : Int32 × (Nat → Nat → Int64) × (Nat → Nat → Int32) × (Nat → Int32)) (hf : f_X12_saveReachable fu objects steps arrays distances sizes sources targets v1 = some out) : xMet l yX12_saveReachable wsX12_saveReachable (rM 2 42) D G [.ref h, .int v1] [[(h, .inr (11, [.ref a_pairs, .ref a_above, .int objects, .int steps, .ref a_sources, .ref a_targets, .ref a_labels, .ref a_lengths, .ref a_letters, .ref a_distances, .ref a_longest, .int firstStep, .int secondStep, .ref a_lengthsTo, .ref a_lengthsFrom, .ref a_path, .int pathLength, .ref a_output, .int outputLength, .ref a_found, .int foundSteps, .ref a_keptLabels, .ref a_keptPairs, .ref a_input, .int inputLength, .int rules, .ref a_sides, .ref a_sideLengths, .int newObjects, .int newSteps, .ref a_newLengths, .ref a_newLetters, .ref a_newSources, .ref a_newTargets, .ref a_newLabels, .ref a_word, .int wordSize, .ref a_failed, .ref a_sizes, .ref a_arrays, .int hasSnapshot, .int savedObjects, .int savedSteps, .int savedRules, .ref a_savedLengths, .ref a_savedSources, .ref a_savedTargets, .ref a_savedLabels, .ref a_savedSideLengths, .ref a_savedLetters, .ref a_savedSides, .ref a_savedPairs]))], [gO (G 5) a_arrays r_arrays 3], gJ (G 1) r_arrays 3 16 arrays, [gO (G 4) a_distances r_distances 16], gI (G 0) r_distances 16 16 distances, [(a_sizes, .inl (G 0, 3, .inl sizes))], [(a_sources, .inl (G 0, 32, .inl sources))], [(a_targets, .inl (G 0, 32, .inl targets))]] (xQi D [[(h, .inr (11, [.ref a_pairs, .ref a_above, .int objects, .int steps, .ref a_sources, .ref a_targets, .ref a_labels, .ref a_lengths, .ref a_letters, .ref a_distances, .ref a_longest, .int firstStep, .int secondStep, .ref a_lengthsTo, .ref a_lengthsFrom, .ref a_path, .int pathLength, .ref a_output, .int outputLength, .ref a_found, .int foundSteps, .ref a_keptLabels, .ref a_keptPairs, .ref a_input, .int inputLength, .int rules, .ref a_sides, .ref a_sideLengths, .int newObjects, .int newSteps, .ref a_newLengths, .ref a_newLetters, .ref a_newSources, .ref a_newTargets, .ref a_newLabels, .ref a_word, .int wordSize, .ref a_failed, .ref a_sizes, .ref a_arrays, .int hasSnapshot, .int savedObjects, .int savedSteps, .int savedRules, .ref a_savedLengths, .ref a_savedSources, .ref a_savedTargets, .ref a_savedLabels, .ref a_savedSideLengths, .ref a_savedLetters, .ref a_savedSides, .ref a_savedPairs]))], [gO (G 5) a_arrays r_arrays 3], gJ (G 1) r_arrays 3 16 out.2.1, [gO (G 4) a_distances r_distances 16], gI (G 0) r_distances 16 16 out.2.2.1, [(a_sizes, .inl (G 0, 3, .inl out.2.2.2))], [(a_sources, .inl (G 0, 32, .inl sources))], [(a_targets, .inl (G 0, 32, .inl targets))]] out.1) := by
  refine x_ent (cc := cX12_saveReachable) (maxL := 3) (by decide) rfl (Nat.le_of_ble_eq_true rfl) ?_
  intro p e s m blw meth c aa ls args Q H locs hQ hx hb hr hml hown hts hlocks hE hN hl hP hS
  have hown : s.vm.findClass RX12 = some m.cls := hown
  have hl : lv_has ls 3 [(0, .ref h), (1, .int v1)] := hl
  have L25 : ∀ (distances : (Nat → Nat → Int32)) (sizes : (Nat → Int32)), ∀ (n_25 : Nat) (v2 : Int32) (arrays : (Nat → Nat → Int64)) (H : Heap) (locs : List Loc) (ls : Array Slot), xW D aa [[(h, .inr (11, [.ref a_pairs, .ref a_above, .int objects, .int steps, .ref a_sources, .ref a_targets, .ref a_labels, .ref a_lengths, .ref a_letters, .ref a_distances, .ref a_longest, .int firstStep, .int secondStep, .ref a_lengthsTo, .ref a_lengthsFrom, .ref a_path, .int pathLength, .ref a_output, .int outputLength, .ref a_found, .int foundSteps, .ref a_keptLabels, .ref a_keptPairs, .ref a_input, .int inputLength, .int rules, .ref a_sides, .ref a_sideLengths, .int newObjects, .int newSteps, .ref a_newLengths, .ref a_newLetters, .ref a_newSources, .ref a_newTargets, .ref a_newLabels, .ref a_word, .int wordSize, .ref a_failed, .ref a_sizes, .ref a_arrays, .int hasSnapshot, .int savedObjects, .int savedSteps, .int savedRules, .ref a_savedLengths, .ref a_savedSources, .ref a_savedTargets, .ref a_savedLabels, .ref a_savedSideLengths, .ref a_savedLetters, .ref a_savedSides, .ref a_savedPairs]))], [gO (G 5) a_arrays r_arrays 3], gJ (G 1) r_arrays 3 16 arrays, [gO (G 4) a_distances r_distances 16], gI (G 0) r_distances 16 16 distances, [(a_sizes, .inl (G 0, 3, .inl sizes))], [(a_sources, .inl (G 0, 32, .inl sources))], [(a_targets, .inl (G 0, 32, .inl targets))]] H → va_S (xA aa) s.heap H locs → lv_has ls 3 [(0, .ref h), (1, .int v1), (2, .int v2)] → lp (τ := Int32 → (Nat → Nat → Int64) → Option (Int32 × (Nat → Nat → Int64) × (Nat → Nat → Int32) × (Nat → Int32))) (fun _ _ => none) (f_X12_saveReachable_L25 fu objects distances sizes v1) n_25 v2 arrays = some out → W p l e (rM 2 42) s m args blw meth c H locs 0 0 Q (F0 m 25 ls []) := by
    intro distances sizes   n_25
    induction n_25 with
    | zero =>
      intro v2 arrays H locs ls hP hS hl hf
      exact no_some hf
    | succ n_25 ih_25 =>
      intro v2 arrays H locs ls hP hS hl hf
      have hf : f_X12_saveReachable_L25 fu objects distances sizes v1 (lp (τ := Int32 → (Nat → Nat → Int64) → Option (Int32 × (Nat → Nat → Int64) × (Nat → Nat → Int32) × (Nat → Int32))) (fun _ _ => none) (f_X12_saveReachable_L25 fu objects distances sizes v1) n_25) v2 arrays = some out := hf
      refine lv_iload_n hx hb dX12_saveReachable_25 rfl (lv_at hl 2 rfl) ?_
      refine lv_aload_n hx hb dX12_saveReachable_26 rfl (lv_at hl 0 rfl) ?_
      refine x_get hx hb hts u_X12_saveReachable_X12 hown hE hP 0 rfl rfl 2 (by decide) (hts (.fieldLink RX12 132 "DecreasingDiagramsModel" "objects" "I") (List.mem_of_getElem? (i := 2) rfl)) rfl dX12_saveReachable_27 ?_
      refine lv_icmp_ge (tgt := 53) hx hb dX12_saveReachable_30 (by decide) (fun c_30 => ?_) (fun c_30 => ?_)
      · have hf := it_pos c_30 hf
        refine lv_aload_n hx hb dX12_saveReachable_53 rfl (lv_at hl 0 rfl) ?_
        refine x_get hx hb hts u_X12_saveReachable_X12 hown hE hP 0 rfl rfl 2 (by decide) (hts (.fieldLink RX12 132 "DecreasingDiagramsModel" "objects" "I") (List.mem_of_getElem? (i := 2) rfl)) rfl dX12_saveReachable_54 ?_
        have hf := Option.some.inj hf
        subst hf
        subst hQ
        exact x_iret hx hb hr hlocks hP hS dX12_saveReachable_57
      · have hf := it_neg c_30 hf
        refine lv_aload_n hx hb dX12_saveReachable_33 rfl (lv_at hl 0 rfl) ?_
        refine x_get hx hb hts u_X12_saveReachable_X12 hown hE hP 0 rfl rfl 39 (by decide) (hts (.fieldLink RX12 101 "DecreasingDiagramsModel" "arrays" "[[J") (List.mem_of_getElem? (i := 3) rfl)) rfl dX12_saveReachable_34 ?_
        refine lv_iload_n hx hb dX12_saveReachable_37 rfl (lv_at hl 1 rfl) ?_
        obtain ⟨hq_38, hf⟩ := ck_some hf
        refine x_aald hx hb hE hP 1 5 rfl rfl hq_38 dX12_saveReachable_38 ?_
        refine lv_iload_n hx hb dX12_saveReachable_39 rfl (lv_at hl 2 rfl) ?_
        refine lv_aload_n hx hb dX12_saveReachable_40 rfl (lv_at hl 0 rfl) ?_
        refine lv_iload_n hx hb dX12_saveReachable_41 rfl (lv_at hl 2 rfl) ?_
        obtain ⟨r_42, hr_42, hf⟩ := bd_some hf
        refine x_goi0 (ps := [0, 3, 4]) (x_runV (As := [.int v2]) (rest := [.int v2, .ref (r_arrays v1.toNatClampNeg)]) (ps := [0, 3, 4]) ⟨hx, hb, hml, hown, hts⟩ (k_X12_reachedFrom l D G fu h a_pairs a_above a_sources a_targets a_labels a_lengths a_letters a_distances a_longest a_lengthsTo a_lengthsFrom a_path a_output a_found a_keptLabels a_keptPairs a_input a_sides a_sideLengths a_newLengths a_newLetters a_newSources a_newTargets a_newLabels a_word a_failed a_sizes a_arrays a_savedLengths a_savedSources a_savedTargets a_savedLabels a_savedSideLengths a_savedLetters a_savedSides a_savedPairs r_distances objects steps firstStep secondStep pathLength outputLength foundSteps inputLength rules newObjects newSteps wordSize hasSnapshot savedObjects savedSteps savedRules distances v2 r_42 hr_42) (cwV 1 hts gX12_saveReachable_X12_reachedFrom rfl rfl rfl (by decide +kernel) ⟨Nat.le_of_ble_eq_true rfl, Nat.le_of_ble_eq_true rfl⟩) hE hP hN rfl (by decide) 0 rfl rfl rfl hl.1 (Nat.le_of_ble_eq_true rfl) dX12_saveReachable_42 ⟨Nat.zero_le _, Nat.zero_le _⟩) hP hN hS rfl (fun H locs hP hS => ?_)
        refine lv_i2l hx hb dX12_saveReachable_45 rfl ?_
        obtain ⟨hi, hf⟩ := ck_some hf
        obtain ⟨arrays_46, e_arrays_46, hf⟩ := lt_some hf
        refine x_last2 (I' := [[(h, .inr (11, [.ref a_pairs, .ref a_above, .int objects, .int steps, .ref a_sources, .ref a_targets, .ref a_labels, .ref a_lengths, .ref a_letters, .ref a_distances, .ref a_longest, .int firstStep, .int secondStep, .ref a_lengthsTo, .ref a_lengthsFrom, .ref a_path, .int pathLength, .ref a_output, .int outputLength, .ref a_found, .int foundSteps, .ref a_keptLabels, .ref a_keptPairs, .ref a_input, .int inputLength, .int rules, .ref a_sides, .ref a_sideLengths, .int newObjects, .int newSteps, .ref a_newLengths, .ref a_newLetters, .ref a_newSources, .ref a_newTargets, .ref a_newLabels, .ref a_word, .int wordSize, .ref a_failed, .ref a_sizes, .ref a_arrays, .int hasSnapshot, .int savedObjects, .int savedSteps, .int savedRules, .ref a_savedLengths, .ref a_savedSources, .ref a_savedTargets, .ref a_savedLabels, .ref a_savedSideLengths, .ref a_savedLetters, .ref a_savedSides, .ref a_savedPairs]))], [gO (G 5) a_arrays r_arrays 3], gJ (G 1) r_arrays 3 16 arrays_46, [gO (G 4) a_distances r_distances 16], gI (G 0) r_distances 16 16 distances, [(a_sizes, .inl (G 0, 3, .inl sizes))], [(a_sources, .inl (G 0, 32, .inl sources))], [(a_targets, .inl (G 0, 32, .inl targets))]]) hx hb hE hP hN hS 2 rfl hq_38 hi e_arrays_46 rfl dX12_saveReachable_46 (fun H locs hP hS => ?_)
        obtain ⟨v2_47, e_v2_47, hf⟩ := lt_some hf
        refine lv_iinc (v := v2_47) (lv' := [(2, .int v2_47), (0, .ref h), (1, .int v1)]) hx hb dX12_saveReachable_47 hl (k := 2) rfl (by rw [e_v2_47]; rfl) (by decide) rfl (fun ls hl => ?_)
        refine lv_goto (tgt := 25) hx hb dX12_saveReachable_50 (by decide) ?_
        exact ih_25 v2_47 arrays_46 H locs ls hP hS (lv_sub hl [1, 2, 0] rfl) hf
  refine lv_iload_n hx hb dX12_saveReachable_0 rfl (lv_at hl 1 rfl) ?_
  obtain ⟨r_1, hr_1, hf⟩ := bd_some hf
  refine x_goi0 (ps := []) (x_runS (As := [.int v1]) (rest := []) (ps := []) ⟨hx, hb, hml, hown, hts⟩ (k_X12_isArray l D G fu v1 r_1 hr_1) (va_cwS 1 hts gX12_saveReachable_X12_isArray rfl rfl rfl (by decide +kernel) ⟨Nat.le_of_ble_eq_true rfl, Nat.le_of_ble_eq_true rfl⟩) hE hP hN rfl (by decide) rfl hl.1 (Nat.le_of_ble_eq_true rfl) dX12_saveReachable_1 ⟨Nat.zero_le _, Nat.zero_le _⟩) hP hN hS rfl (fun H locs hP hS => ?_)
  refine lv_if_ne (tgt := 9) hx hb dX12_saveReachable_4 (by decide) (fun c_4 => ?_) (fun c_4 => ?_)
  · have hf := it_pos c_4 hf
    refine lv_aload_n hx hb dX12_saveReachable_9 rfl (lv_at hl 0 rfl) ?_
    obtain ⟨r_10, hr_10, hf⟩ := bd_some hf
    refine x_gov (ps := [0, 3, 4, 6, 7]) (qs := [1, 2, 5]) (n := 8) (I' := [[(h, .inr (11, [.ref a_pairs, .ref a_above, .int objects, .int steps, .ref a_sources, .ref a_targets, .ref a_labels, .ref a_lengths, .ref a_letters, .ref a_distances, .ref a_longest, .int firstStep, .int secondStep, .ref a_lengthsTo, .ref a_lengthsFrom, .ref a_path, .int pathLength, .ref a_output, .int outputLength, .ref a_found, .int foundSteps, .ref a_keptLabels, .ref a_keptPairs, .ref a_input, .int inputLength, .int rules, .ref a_sides, .ref a_sideLengths, .int newObjects, .int newSteps, .ref a_newLengths, .ref a_newLetters, .ref a_newSources, .ref a_newTargets, .ref a_newLabels, .ref a_word, .int wordSize, .ref a_failed, .ref a_sizes, .ref a_arrays, .int hasSnapshot, .int savedObjects, .int savedSteps, .int savedRules, .ref a_savedLengths, .ref a_savedSources, .ref a_savedTargets, .ref a_savedLabels, .ref a_savedSideLengths, .ref a_savedLetters, .ref a_savedSides, .ref a_savedPairs]))], [gO (G 5) a_arrays r_arrays 3], gJ (G 1) r_arrays 3 16 arrays, [gO (G 4) a_distances r_distances 16], gI (G 0) r_distances 16 16 r_10, [(a_sizes, .inl (G 0, 3, .inl sizes))], [(a_sources, .inl (G 0, 32, .inl sources))], [(a_targets, .inl (G 0, 32, .inl targets))]]) (x_runV (As := []) (rest := []) (ps := [0, 3, 4, 6, 7]) ⟨hx, hb, hml, hown, hts⟩ (k_X12_findDistances l D G fu h a_pairs a_above a_sources a_targets a_labels a_lengths a_letters a_distances a_longest a_lengthsTo a_lengthsFrom a_path a_output a_found a_keptLabels a_keptPairs a_input a_sides a_sideLengths a_newLengths a_newLetters a_newSources a_newTargets a_newLabels a_word a_failed a_sizes a_arrays a_savedLengths a_savedSources a_savedTargets a_savedLabels a_savedSideLengths a_savedLetters a_savedSides a_savedPairs r_distances objects steps firstStep secondStep pathLength outputLength foundSteps inputLength rules newObjects newSteps wordSize hasSnapshot savedObjects savedSteps savedRules distances sources targets r_10 hr_10) (cwV 0 hts gX12_saveReachable_X12_findDistances rfl rfl rfl (by decide +kernel) ⟨Nat.le_of_ble_eq_true rfl, Nat.le_of_ble_eq_true rfl⟩) hE hP hN rfl (by decide) 0 rfl rfl rfl hl.1 (Nat.le_of_ble_eq_true rfl) dX12_saveReachable_10 ⟨Nat.zero_le _, Nat.zero_le _⟩) hP hN hS rfl rfl rfl rfl rfl (by decide) (fun H locs hP hS => ?_)
    refine lv_aload_n hx hb dX12_saveReachable_13 rfl (lv_at hl 0 rfl) ?_
    refine x_get hx hb hts u_X12_saveReachable_X12 hown hE hP 0 rfl rfl 38 (by decide) (hts (.fieldLink RX12 96 "DecreasingDiagramsModel" "sizes" "[I") (List.mem_of_getElem? (i := 1) rfl)) rfl dX12_saveReachable_14 ?_
    refine lv_iload_n hx hb dX12_saveReachable_17 rfl (lv_at hl 1 rfl) ?_
    refine lv_aload_n hx hb dX12_saveReachable_18 rfl (lv_at hl 0 rfl) ?_
    refine x_get hx hb hts u_X12_saveReachable_X12 hown hE hP 0 rfl rfl 2 (by decide) (hts (.fieldLink RX12 132 "DecreasingDiagramsModel" "objects" "I") (List.mem_of_getElem? (i := 2) rfl)) rfl dX12_saveReachable_19 ?_
    obtain ⟨hi, hf⟩ := ck_some hf
    obtain ⟨sizes_22, e_sizes_22, hf⟩ := lt_some hf
    refine x_iast (I' := [[(h, .inr (11, [.ref a_pairs, .ref a_above, .int objects, .int steps, .ref a_sources, .ref a_targets, .ref a_labels, .ref a_lengths, .ref a_letters, .ref a_distances, .ref a_longest, .int firstStep, .int secondStep, .ref a_lengthsTo, .ref a_lengthsFrom, .ref a_path, .int pathLength, .ref a_output, .int outputLength, .ref a_found, .int foundSteps, .ref a_keptLabels, .ref a_keptPairs, .ref a_input, .int inputLength, .int rules, .ref a_sides, .ref a_sideLengths, .int newObjects, .int newSteps, .ref a_newLengths, .ref a_newLetters, .ref a_newSources, .ref a_newTargets, .ref a_newLabels, .ref a_word, .int wordSize, .ref a_failed, .ref a_sizes, .ref a_arrays, .int hasSnapshot, .int savedObjects, .int savedSteps, .int savedRules, .ref a_savedLengths, .ref a_savedSources, .ref a_savedTargets, .ref a_savedLabels, .ref a_savedSideLengths, .ref a_savedLetters, .ref a_savedSides, .ref a_savedPairs]))], [gO (G 5) a_arrays r_arrays 3], gJ (G 1) r_arrays 3 16 arrays, [gO (G 4) a_distances r_distances 16], gI (G 0) r_distances 16 16 r_10, [(a_sizes, .inl (G 0, 3, .inl sizes_22))], [(a_sources, .inl (G 0, 32, .inl sources))], [(a_targets, .inl (G 0, 32, .inl targets))]]) hx hb hE hP hN hS 5 rfl hi e_sizes_22 rfl dX12_saveReachable_22 (fun H locs hP hS => ?_)
    refine lv_iconst (v := 0) hx hb dX12_saveReachable_23 (by decide) ?_
    obtain ⟨v2_24, e_v2_24, hf⟩ := lt_some hf
    refine x_istore_n (v := v2_24) (lv' := [(2, .int v2_24), (0, .ref h), (1, .int v1)]) hx hb dX12_saveReachable_24 e_v2_24 rfl hl (by decide) rfl (fun ls hl => ?_)
    exact L25 r_10 sizes_22   fu v2_24 arrays H locs ls hP hS (lv_sub hl [1, 2, 0] rfl) hf
  · have hf := it_neg (fun h => h c_4) hf
    refine lv_iconst (v := -1) hx hb dX12_saveReachable_7 (by decide) ?_
    have hf := Option.some.inj hf
    subst hf
    subst hQ
    exact x_iret hx hb hr hlocks hP hS dX12_saveReachable_8

set_option maxRecDepth 20000 in
theorem u_X12_setElement_X12 : ∀ w ∈ wsX120, w ∈ wsX12_setElement := xx_pl _ [10, 11, 12, 13, 14, 15, 16, 17, 18, 19, 20, 21, 22, 23, 24, 25, 26, 27, 28, 29, 30, 31, 32, 33, 34, 35, 36, 37, 38, 39, 40, 41, 42, 43, 44, 45, 46, 47, 48, 49, 50, 51, 52, 53, 54, 55, 56, 57, 58, 59, 60, 61] (by decide +kernel)
def f_X12_setElement (arrays : (Nat → Nat → Int64)) (sizes : (Nat → Int32)) (v1 : Int32) (v2 : Int32) (v3 : Int64) : Option (Int32 × (Nat → Nat → Int64)) :=
  (f_X12_isArray v1).bind (fun r_1 => if ¬ r_1 = 0 then (ck v1 3 (if 0 ≤ (sizes v1.toNatClampNeg) then (ck v1 3 ((f_X12_isBetween v2 0 ((sizes v1.toNatClampNeg) - 1)).bind (fun r_31 => if ¬ r_31 = 0 then (ck v1 3 (ck v2 16 (lt (up2 arrays v1.toNatClampNeg v2.toNatClampNeg v3) (fun arrays_48 => some (1, arrays_48))))) else (some ((-13), arrays))))) else (some ((-11), arrays)))) else (some ((-1), arrays)))
set_option maxHeartbeats 4000000 in
set_option maxRecDepth 100000 in
theorem k_X12_setElement (l : Launch) (D : va_G) (G : Nat → ClassId) (fu : Nat) (h : Nat) (a_pairs : Nat) (a_above : Nat) (a_sources : Nat) (a_targets : Nat) (a_labels : Nat) (a_lengths : Nat) (a_letters : Nat) (a_distances : Nat) (a_longest : Nat) (a_lengthsTo : Nat) (a_lengthsFrom : Nat) (a_path : Nat) (a_output : Nat) (a_found : Nat) (a_keptLabels : Nat) (a_keptPairs : Nat) (a_input : Nat) (a_sides : Nat) (a_sideLengths : Nat) (a_newLengths : Nat) (a_newLetters : Nat) (a_newSources : Nat) (a_newTargets : Nat) (a_newLabels : Nat) (a_word : Nat) (a_failed : Nat) (a_sizes : Nat) (a_arrays : Nat) (a_savedLengths : Nat) (a_savedSources : Nat) (a_savedTargets : Nat) (a_savedLabels : Nat) (a_savedSideLengths : Nat) (a_savedLetters : Nat) (a_savedSides : Nat) (a_savedPairs : Nat) (r_arrays : Nat → Nat) (objects : Int32) (steps : Int32) (firstStep : Int32) (secondStep : Int32) (pathLength : Int32) (outputLength : Int32) (foundSteps : Int32) (inputLength : Int32) (rules : Int32) (newObjects : Int32) (newSteps : Int32) (wordSize : Int32) (hasSnapshot : Int32) (savedObjects : Int32) (savedSteps : Int32) (savedRules : Int32) (arrays : (Nat → Nat → Int64)) (sizes : (Nat → Int32))  (v1 : Int32) (v2 : Int32) (v3 : Int64) (out : Int32 × (Nat → Nat → Int64)) (hf : f_X12_setElement arrays sizes v1 v2 v3 = some out) : xMet l yX12_setElement wsX12_setElement (rM 2 42) D G [.ref h, .int v1, .int v2, .long v3] [[(h, .inr (11, [.ref a_pairs, .ref a_above, .int objects, .int steps, .ref a_sources, .ref a_targets, .ref a_labels, .ref a_lengths, .ref a_letters, .ref a_distances, .ref a_longest, .int firstStep, .int secondStep, .ref a_lengthsTo, .ref a_lengthsFrom, .ref a_path, .int pathLength, .ref a_output, .int outputLength, .ref a_found, .int foundSteps, .ref a_keptLabels, .ref a_keptPairs, .ref a_input, .int inputLength, .int rules, .ref a_sides, .ref a_sideLengths, .int newObjects, .int newSteps, .ref a_newLengths, .ref a_newLetters, .ref a_newSources, .ref a_newTargets, .ref a_newLabels, .ref a_word, .int wordSize, .ref a_failed, .ref a_sizes, .ref a_arrays, .int hasSnapshot, .int savedObjects, .int savedSteps, .int savedRules, .ref a_savedLengths, .ref a_savedSources, .ref a_savedTargets, .ref a_savedLabels, .ref a_savedSideLengths, .ref a_savedLetters, .ref a_savedSides, .ref a_savedPairs]))], [gO (G 5) a_arrays r_arrays 3], gJ (G 1) r_arrays 3 16 arrays, [(a_sizes, .inl (G 0, 3, .inl sizes))]] (xQi D [[(h, .inr (11, [.ref a_pairs, .ref a_above, .int objects, .int steps, .ref a_sources, .ref a_targets, .ref a_labels, .ref a_lengths, .ref a_letters, .ref a_distances, .ref a_longest, .int firstStep, .int secondStep, .ref a_lengthsTo, .ref a_lengthsFrom, .ref a_path, .int pathLength, .ref a_output, .int outputLength, .ref a_found, .int foundSteps, .ref a_keptLabels, .ref a_keptPairs, .ref a_input, .int inputLength, .int rules, .ref a_sides, .ref a_sideLengths, .int newObjects, .int newSteps, .ref a_newLengths, .ref a_newLetters, .ref a_newSources, .ref a_newTargets, .ref a_newLabels, .ref a_word, .int wordSize, .ref a_failed, .ref a_sizes, .ref a_arrays, .int hasSnapshot, .int savedObjects, .int savedSteps, .int savedRules, .ref a_savedLengths, .ref a_savedSources, .ref a_savedTargets, .ref a_savedLabels, .ref a_savedSideLengths, .ref a_savedLetters, .ref a_savedSides, .ref a_savedPairs]))], [gO (G 5) a_arrays r_arrays 3], gJ (G 1) r_arrays 3 16 out.2, [(a_sizes, .inl (G 0, 3, .inl sizes))]] out.1) := by
  refine x_ent (cc := cX12_setElement) (maxL := 5) (by decide) rfl (Nat.le_of_ble_eq_true rfl) ?_
  intro p e s m blw meth c aa ls args Q H locs hQ hx hb hr hml hown hts hlocks hE hN hl hP hS
  have hown : s.vm.findClass RX12 = some m.cls := hown
  have hl : lv_has ls 5 [(0, .ref h), (1, .int v1), (2, .int v2), (3, .long v3)] := hl
  refine lv_iload_n hx hb dX12_setElement_0 rfl (lv_at hl 1 rfl) ?_
  obtain ⟨r_1, hr_1, hf⟩ := bd_some hf
  refine x_goi0 (ps := []) (x_runS (As := [.int v1]) (rest := []) (ps := []) ⟨hx, hb, hml, hown, hts⟩ (k_X12_isArray l D G fu v1 r_1 hr_1) (va_cwS 1 hts gX12_setElement_X12_isArray rfl rfl rfl (by decide +kernel) ⟨Nat.le_of_ble_eq_true rfl, Nat.le_of_ble_eq_true rfl⟩) hE hP hN rfl (by decide) rfl hl.1 (Nat.le_of_ble_eq_true rfl) dX12_setElement_1 ⟨Nat.zero_le _, Nat.zero_le _⟩) hP hN hS rfl (fun H locs hP hS => ?_)
  refine lv_if_ne (tgt := 9) hx hb dX12_setElement_4 (by decide) (fun c_4 => ?_) (fun c_4 => ?_)
  · have hf := it_pos c_4 hf
    refine lv_aload_n hx hb dX12_setElement_9 rfl (lv_at hl 0 rfl) ?_
    refine x_get hx hb hts u_X12_setElement_X12 hown hE hP 0 rfl rfl 38 (by decide) (hts (.fieldLink RX12 96 "DecreasingDiagramsModel" "sizes" "[I") (List.mem_of_getElem? (i := 1) rfl)) rfl dX12_setElement_10 ?_
    refine lv_iload_n hx hb dX12_setElement_13 rfl (lv_at hl 1 rfl) ?_
    obtain ⟨hi, hf⟩ := ck_some hf
    refine x_iald hx hb hE hP 3 rfl hi dX12_setElement_14 ?_
    refine lv_if_ge (tgt := 21) hx hb dX12_setElement_15 (by decide) (fun c_15 => ?_) (fun c_15 => ?_)
    · have hf := it_pos c_15 hf
      refine lv_iload_n hx hb dX12_setElement_21 rfl (lv_at hl 2 rfl) ?_
      refine lv_iconst (v := 0) hx hb dX12_setElement_22 (by decide) ?_
      refine lv_aload_n hx hb dX12_setElement_23 rfl (lv_at hl 0 rfl) ?_
      refine x_get hx hb hts u_X12_setElement_X12 hown hE hP 0 rfl rfl 38 (by decide) (hts (.fieldLink RX12 96 "DecreasingDiagramsModel" "sizes" "[I") (List.mem_of_getElem? (i := 1) rfl)) rfl dX12_setElement_24 ?_
      refine lv_iload_n hx hb dX12_setElement_27 rfl (lv_at hl 1 rfl) ?_
      obtain ⟨hi, hf⟩ := ck_some hf
      refine x_iald hx hb hE hP 3 rfl hi dX12_setElement_28 ?_
      refine lv_iconst (v := 1) hx hb dX12_setElement_29 (by decide) ?_
      refine lv_isub hx hb dX12_setElement_30 ?_
      obtain ⟨r_31, hr_31, hf⟩ := bd_some hf
      refine x_goi0 (ps := []) (x_runS (As := [.int v2, .int 0, .int ((sizes v1.toNatClampNeg) - 1)]) (rest := []) (ps := []) ⟨hx, hb, hml, hown, hts⟩ (k_X12_isBetween l D G fu v2 0 ((sizes v1.toNatClampNeg) - 1) r_31 hr_31) (va_cwS 3 hts gX12_setElement_X12_isBetween rfl rfl rfl (by decide +kernel) ⟨Nat.le_of_ble_eq_true rfl, Nat.le_of_ble_eq_true rfl⟩) hE hP hN rfl (by decide) rfl hl.1 (Nat.le_of_ble_eq_true rfl) dX12_setElement_31 ⟨Nat.zero_le _, Nat.zero_le _⟩) hP hN hS rfl (fun H locs hP hS => ?_)
      refine lv_if_ne (tgt := 40) hx hb dX12_setElement_34 (by decide) (fun c_34 => ?_) (fun c_34 => ?_)
      · have hf := it_pos c_34 hf
        refine lv_aload_n hx hb dX12_setElement_40 rfl (lv_at hl 0 rfl) ?_
        refine x_get hx hb hts u_X12_setElement_X12 hown hE hP 0 rfl rfl 39 (by decide) (hts (.fieldLink RX12 101 "DecreasingDiagramsModel" "arrays" "[[J") (List.mem_of_getElem? (i := 2) rfl)) rfl dX12_setElement_41 ?_
        refine lv_iload_n hx hb dX12_setElement_44 rfl (lv_at hl 1 rfl) ?_
        obtain ⟨hq_45, hf⟩ := ck_some hf
        refine x_aald hx hb hE hP 1 5 rfl rfl hq_45 dX12_setElement_45 ?_
        refine lv_iload_n hx hb dX12_setElement_46 rfl (lv_at hl 2 rfl) ?_
        refine lv_lload_n hx hb dX12_setElement_47 rfl (lv_at hl 3 rfl) ?_
        obtain ⟨hi, hf⟩ := ck_some hf
        obtain ⟨arrays_48, e_arrays_48, hf⟩ := lt_some hf
        refine x_last2 (I' := [[(h, .inr (11, [.ref a_pairs, .ref a_above, .int objects, .int steps, .ref a_sources, .ref a_targets, .ref a_labels, .ref a_lengths, .ref a_letters, .ref a_distances, .ref a_longest, .int firstStep, .int secondStep, .ref a_lengthsTo, .ref a_lengthsFrom, .ref a_path, .int pathLength, .ref a_output, .int outputLength, .ref a_found, .int foundSteps, .ref a_keptLabels, .ref a_keptPairs, .ref a_input, .int inputLength, .int rules, .ref a_sides, .ref a_sideLengths, .int newObjects, .int newSteps, .ref a_newLengths, .ref a_newLetters, .ref a_newSources, .ref a_newTargets, .ref a_newLabels, .ref a_word, .int wordSize, .ref a_failed, .ref a_sizes, .ref a_arrays, .int hasSnapshot, .int savedObjects, .int savedSteps, .int savedRules, .ref a_savedLengths, .ref a_savedSources, .ref a_savedTargets, .ref a_savedLabels, .ref a_savedSideLengths, .ref a_savedLetters, .ref a_savedSides, .ref a_savedPairs]))], [gO (G 5) a_arrays r_arrays 3], gJ (G 1) r_arrays 3 16 arrays_48, [(a_sizes, .inl (G 0, 3, .inl sizes))]]) hx hb hE hP hN hS 2 rfl hq_45 hi e_arrays_48 rfl dX12_setElement_48 (fun H locs hP hS => ?_)
        refine lv_iconst (v := 1) hx hb dX12_setElement_49 (by decide) ?_
        have hf := Option.some.inj hf
        subst hf
        subst hQ
        exact x_iret hx hb hr hlocks hP hS dX12_setElement_50
      · have hf := it_neg (fun h => h c_34) hf
        refine lv_bipush (v := -13) hx hb dX12_setElement_37 (by decide) ?_
        have hf := Option.some.inj hf
        subst hf
        subst hQ
        exact x_iret hx hb hr hlocks hP hS dX12_setElement_39
    · have hf := it_neg c_15 hf
      refine lv_bipush (v := -11) hx hb dX12_setElement_18 (by decide) ?_
      have hf := Option.some.inj hf
      subst hf
      subst hQ
      exact x_iret hx hb hr hlocks hP hS dX12_setElement_20
  · have hf := it_neg (fun h => h c_4) hf
    refine lv_iconst (v := -1) hx hb dX12_setElement_7 (by decide) ?_
    have hf := Option.some.inj hf
    subst hf
    subst hQ
    exact x_iret hx hb hr hlocks hP hS dX12_setElement_8

set_option maxRecDepth 20000 in
theorem u_X12_setLabel_X12 : ∀ w ∈ wsX120, w ∈ wsX12_setLabel := xx_pl _ [14, 15, 16, 17, 18, 19, 20, 21, 22, 23, 24, 25, 26, 27, 28, 29, 30, 31, 32, 33, 34, 35, 36, 37, 38, 39, 40, 41, 42, 43, 44, 45, 46, 47, 48, 49, 50, 51, 52, 53, 54, 55, 56, 57, 58, 59, 60, 61, 62, 63, 64, 65] (by decide +kernel)
def f_X12_setLabel (steps : Int32) (labels : (Nat → Int32)) (v1 : Int32) (v2 : Int32) : Option (Int32 × (Nat → Int32)) :=
  (f_X12_isStep steps v1).bind (fun r_2 => if r_2 = 0 then (some ((-1), labels)) else ((f_X12_isLabel v2).bind (fun r_9 => if ¬ r_9 = 0 then (ck v1 32 (lt (labels v1.toNatClampNeg) (fun v3_23 => ck v1 32 (lt (upd labels v1.toNatClampNeg v2) (fun labels_30 => some (v3_23, labels_30)))))) else (some ((-1), labels)))))
set_option maxHeartbeats 4000000 in
set_option maxRecDepth 100000 in
theorem k_X12_setLabel (l : Launch) (D : va_G) (G : Nat → ClassId) (fu : Nat) (h : Nat) (a_pairs : Nat) (a_above : Nat) (a_sources : Nat) (a_targets : Nat) (a_labels : Nat) (a_lengths : Nat) (a_letters : Nat) (a_distances : Nat) (a_longest : Nat) (a_lengthsTo : Nat) (a_lengthsFrom : Nat) (a_path : Nat) (a_output : Nat) (a_found : Nat) (a_keptLabels : Nat) (a_keptPairs : Nat) (a_input : Nat) (a_sides : Nat) (a_sideLengths : Nat) (a_newLengths : Nat) (a_newLetters : Nat) (a_newSources : Nat) (a_newTargets : Nat) (a_newLabels : Nat) (a_word : Nat) (a_failed : Nat) (a_sizes : Nat) (a_arrays : Nat) (a_savedLengths : Nat) (a_savedSources : Nat) (a_savedTargets : Nat) (a_savedLabels : Nat) (a_savedSideLengths : Nat) (a_savedLetters : Nat) (a_savedSides : Nat) (a_savedPairs : Nat) (objects : Int32) (steps : Int32) (firstStep : Int32) (secondStep : Int32) (pathLength : Int32) (outputLength : Int32) (foundSteps : Int32) (inputLength : Int32) (rules : Int32) (newObjects : Int32) (newSteps : Int32) (wordSize : Int32) (hasSnapshot : Int32) (savedObjects : Int32) (savedSteps : Int32) (savedRules : Int32) (labels : (Nat → Int32))  (v1 : Int32) (v2 : Int32) (out : Int32 × (Nat → Int32)) (hf : f_X12_setLabel steps labels v1 v2 = some out) : xMet l yX12_setLabel wsX12_setLabel (rM 2 43) D G [.ref h, .int v1, .int v2] [[(h, .inr (11, [.ref a_pairs, .ref a_above, .int objects, .int steps, .ref a_sources, .ref a_targets, .ref a_labels, .ref a_lengths, .ref a_letters, .ref a_distances, .ref a_longest, .int firstStep, .int secondStep, .ref a_lengthsTo, .ref a_lengthsFrom, .ref a_path, .int pathLength, .ref a_output, .int outputLength, .ref a_found, .int foundSteps, .ref a_keptLabels, .ref a_keptPairs, .ref a_input, .int inputLength, .int rules, .ref a_sides, .ref a_sideLengths, .int newObjects, .int newSteps, .ref a_newLengths, .ref a_newLetters, .ref a_newSources, .ref a_newTargets, .ref a_newLabels, .ref a_word, .int wordSize, .ref a_failed, .ref a_sizes, .ref a_arrays, .int hasSnapshot, .int savedObjects, .int savedSteps, .int savedRules, .ref a_savedLengths, .ref a_savedSources, .ref a_savedTargets, .ref a_savedLabels, .ref a_savedSideLengths, .ref a_savedLetters, .ref a_savedSides, .ref a_savedPairs]))], [(a_labels, .inl (G 0, 32, .inl labels))]] (xQi D [[(h, .inr (11, [.ref a_pairs, .ref a_above, .int objects, .int steps, .ref a_sources, .ref a_targets, .ref a_labels, .ref a_lengths, .ref a_letters, .ref a_distances, .ref a_longest, .int firstStep, .int secondStep, .ref a_lengthsTo, .ref a_lengthsFrom, .ref a_path, .int pathLength, .ref a_output, .int outputLength, .ref a_found, .int foundSteps, .ref a_keptLabels, .ref a_keptPairs, .ref a_input, .int inputLength, .int rules, .ref a_sides, .ref a_sideLengths, .int newObjects, .int newSteps, .ref a_newLengths, .ref a_newLetters, .ref a_newSources, .ref a_newTargets, .ref a_newLabels, .ref a_word, .int wordSize, .ref a_failed, .ref a_sizes, .ref a_arrays, .int hasSnapshot, .int savedObjects, .int savedSteps, .int savedRules, .ref a_savedLengths, .ref a_savedSources, .ref a_savedTargets, .ref a_savedLabels, .ref a_savedSideLengths, .ref a_savedLetters, .ref a_savedSides, .ref a_savedPairs]))], [(a_labels, .inl (G 0, 32, .inl out.2))]] out.1) := by
  refine x_ent (cc := cX12_setLabel) (maxL := 4) (by decide) rfl (Nat.le_of_ble_eq_true rfl) ?_
  intro p e s m blw meth c aa ls args Q H locs hQ hx hb hr hml hown hts hlocks hE hN hl hP hS
  have hown : s.vm.findClass RX12 = some m.cls := hown
  have hl : lv_has ls 4 [(0, .ref h), (1, .int v1), (2, .int v2)] := hl
  refine lv_aload_n hx hb dX12_setLabel_0 rfl (lv_at hl 0 rfl) ?_
  refine lv_iload_n hx hb dX12_setLabel_1 rfl (lv_at hl 1 rfl) ?_
  obtain ⟨r_2, hr_2, hf⟩ := bd_some hf
  refine x_goi0 (ps := [0]) (x_runV (As := [.int v1]) (rest := []) (ps := [0]) ⟨hx, hb, hml, hown, hts⟩ (k_X12_isStep l D G fu h a_pairs a_above a_sources a_targets a_labels a_lengths a_letters a_distances a_longest a_lengthsTo a_lengthsFrom a_path a_output a_found a_keptLabels a_keptPairs a_input a_sides a_sideLengths a_newLengths a_newLetters a_newSources a_newTargets a_newLabels a_word a_failed a_sizes a_arrays a_savedLengths a_savedSources a_savedTargets a_savedLabels a_savedSideLengths a_savedLetters a_savedSides a_savedPairs objects steps firstStep secondStep pathLength outputLength foundSteps inputLength rules newObjects newSteps wordSize hasSnapshot savedObjects savedSteps savedRules v1 r_2 hr_2) (cwV 1 hts gX12_setLabel_X12_isStep rfl rfl rfl (by decide +kernel) ⟨Nat.le_of_ble_eq_true rfl, Nat.le_of_ble_eq_true rfl⟩) hE hP hN rfl (by decide) 0 rfl rfl rfl hl.1 (Nat.le_of_ble_eq_true rfl) dX12_setLabel_2 ⟨Nat.zero_le _, Nat.zero_le _⟩) hP hN hS rfl (fun H locs hP hS => ?_)
  refine lv_if_eq (tgt := 15) hx hb dX12_setLabel_5 (by decide) (fun c_5 => ?_) (fun c_5 => ?_)
  · have hf := it_pos c_5 hf
    refine lv_iconst (v := -1) hx hb dX12_setLabel_15 (by decide) ?_
    have hf := Option.some.inj hf
    subst hf
    subst hQ
    exact x_iret hx hb hr hlocks hP hS dX12_setLabel_16
  · have hf := it_neg c_5 hf
    refine lv_iload_n hx hb dX12_setLabel_8 rfl (lv_at hl 2 rfl) ?_
    obtain ⟨r_9, hr_9, hf⟩ := bd_some hf
    refine x_goi0 (ps := []) (x_runS (As := [.int v2]) (rest := []) (ps := []) ⟨hx, hb, hml, hown, hts⟩ (k_X12_isLabel l D G fu v2 r_9 hr_9) (va_cwS 1 hts gX12_setLabel_X12_isLabel rfl rfl rfl (by decide +kernel) ⟨Nat.le_of_ble_eq_true rfl, Nat.le_of_ble_eq_true rfl⟩) hE hP hN rfl (by decide) rfl hl.1 (Nat.le_of_ble_eq_true rfl) dX12_setLabel_9 ⟨Nat.zero_le _, Nat.zero_le _⟩) hP hN hS rfl (fun H locs hP hS => ?_)
    refine lv_if_ne (tgt := 17) hx hb dX12_setLabel_12 (by decide) (fun c_12 => ?_) (fun c_12 => ?_)
    · have hf := it_pos c_12 hf
      refine lv_aload_n hx hb dX12_setLabel_17 rfl (lv_at hl 0 rfl) ?_
      refine x_get hx hb hts u_X12_setLabel_X12 hown hE hP 0 rfl rfl 6 (by decide) (hts (.fieldLink RX12 24 "DecreasingDiagramsModel" "labels" "[I") (List.mem_of_getElem? (i := 1) rfl)) rfl dX12_setLabel_18 ?_
      refine lv_iload_n hx hb dX12_setLabel_21 rfl (lv_at hl 1 rfl) ?_
      obtain ⟨hi, hf⟩ := ck_some hf
      refine x_iald hx hb hE hP 1 rfl hi dX12_setLabel_22 ?_
      obtain ⟨v3_23, e_v3_23, hf⟩ := lt_some hf
      refine x_istore_n (v := v3_23) (lv' := [(3, .int v3_23), (0, .ref h), (1, .int v1), (2, .int v2)]) hx hb dX12_setLabel_23 e_v3_23 rfl hl (by decide) rfl (fun ls hl => ?_)
      refine lv_aload_n hx hb dX12_setLabel_24 rfl (lv_at hl 1 rfl) ?_
      refine x_get hx hb hts u_X12_setLabel_X12 hown hE hP 0 rfl rfl 6 (by decide) (hts (.fieldLink RX12 24 "DecreasingDiagramsModel" "labels" "[I") (List.mem_of_getElem? (i := 1) rfl)) rfl dX12_setLabel_25 ?_
      refine lv_iload_n hx hb dX12_setLabel_28 rfl (lv_at hl 2 rfl) ?_
      refine lv_iload_n hx hb dX12_setLabel_29 rfl (lv_at hl 3 rfl) ?_
      obtain ⟨hi, hf⟩ := ck_some hf
      obtain ⟨labels_30, e_labels_30, hf⟩ := lt_some hf
      refine x_iast (I' := [[(h, .inr (11, [.ref a_pairs, .ref a_above, .int objects, .int steps, .ref a_sources, .ref a_targets, .ref a_labels, .ref a_lengths, .ref a_letters, .ref a_distances, .ref a_longest, .int firstStep, .int secondStep, .ref a_lengthsTo, .ref a_lengthsFrom, .ref a_path, .int pathLength, .ref a_output, .int outputLength, .ref a_found, .int foundSteps, .ref a_keptLabels, .ref a_keptPairs, .ref a_input, .int inputLength, .int rules, .ref a_sides, .ref a_sideLengths, .int newObjects, .int newSteps, .ref a_newLengths, .ref a_newLetters, .ref a_newSources, .ref a_newTargets, .ref a_newLabels, .ref a_word, .int wordSize, .ref a_failed, .ref a_sizes, .ref a_arrays, .int hasSnapshot, .int savedObjects, .int savedSteps, .int savedRules, .ref a_savedLengths, .ref a_savedSources, .ref a_savedTargets, .ref a_savedLabels, .ref a_savedSideLengths, .ref a_savedLetters, .ref a_savedSides, .ref a_savedPairs]))], [(a_labels, .inl (G 0, 32, .inl labels_30))]]) hx hb hE hP hN hS 1 rfl hi e_labels_30 rfl dX12_setLabel_30 (fun H locs hP hS => ?_)
      refine lv_iload_n hx hb dX12_setLabel_31 rfl (lv_at hl 0 rfl) ?_
      have hf := Option.some.inj hf
      subst hf
      subst hQ
      exact x_iret hx hb hr hlocks hP hS dX12_setLabel_32
    · have hf := it_neg (fun h => h c_12) hf
      refine lv_iconst (v := -1) hx hb dX12_setLabel_15 (by decide) ?_
      have hf := Option.some.inj hf
      subst hf
      subst hQ
      exact x_iret hx hb hr hlocks hP hS dX12_setLabel_16

set_option maxRecDepth 20000 in
theorem u_X12_source_X12 : ∀ w ∈ wsX120, w ∈ wsX12_source := xx_pl _ [11, 12, 13, 14, 15, 16, 17, 18, 19, 20, 21, 22, 23, 24, 25, 26, 27, 28, 29, 30, 31, 32, 33, 34, 35, 36, 37, 38, 39, 40, 41, 42, 43, 44, 45, 46, 47, 48, 49, 50, 51, 52, 53, 54, 55, 56, 57, 58, 59, 60, 61, 62] (by decide +kernel)
def f_X12_source (steps : Int32) (sources : (Nat → Int32)) (v1 : Int32) : Option (Int32) :=
  (f_X12_isStep steps v1).bind (fun r_2 => if r_2 = 0 then (some (-1)) else (ck v1 32 (some (sources v1.toNatClampNeg))))
set_option maxHeartbeats 4000000 in
set_option maxRecDepth 100000 in
theorem k_X12_source (l : Launch) (D : va_G) (G : Nat → ClassId) (fu : Nat) (h : Nat) (a_pairs : Nat) (a_above : Nat) (a_sources : Nat) (a_targets : Nat) (a_labels : Nat) (a_lengths : Nat) (a_letters : Nat) (a_distances : Nat) (a_longest : Nat) (a_lengthsTo : Nat) (a_lengthsFrom : Nat) (a_path : Nat) (a_output : Nat) (a_found : Nat) (a_keptLabels : Nat) (a_keptPairs : Nat) (a_input : Nat) (a_sides : Nat) (a_sideLengths : Nat) (a_newLengths : Nat) (a_newLetters : Nat) (a_newSources : Nat) (a_newTargets : Nat) (a_newLabels : Nat) (a_word : Nat) (a_failed : Nat) (a_sizes : Nat) (a_arrays : Nat) (a_savedLengths : Nat) (a_savedSources : Nat) (a_savedTargets : Nat) (a_savedLabels : Nat) (a_savedSideLengths : Nat) (a_savedLetters : Nat) (a_savedSides : Nat) (a_savedPairs : Nat) (objects : Int32) (steps : Int32) (firstStep : Int32) (secondStep : Int32) (pathLength : Int32) (outputLength : Int32) (foundSteps : Int32) (inputLength : Int32) (rules : Int32) (newObjects : Int32) (newSteps : Int32) (wordSize : Int32) (hasSnapshot : Int32) (savedObjects : Int32) (savedSteps : Int32) (savedRules : Int32) (sources : (Nat → Int32))  (v1 : Int32) (out : Int32) (hf : f_X12_source steps sources v1 = some out) : xMet l yX12_source wsX12_source (rM 2 43) D G [.ref h, .int v1] [[(h, .inr (11, [.ref a_pairs, .ref a_above, .int objects, .int steps, .ref a_sources, .ref a_targets, .ref a_labels, .ref a_lengths, .ref a_letters, .ref a_distances, .ref a_longest, .int firstStep, .int secondStep, .ref a_lengthsTo, .ref a_lengthsFrom, .ref a_path, .int pathLength, .ref a_output, .int outputLength, .ref a_found, .int foundSteps, .ref a_keptLabels, .ref a_keptPairs, .ref a_input, .int inputLength, .int rules, .ref a_sides, .ref a_sideLengths, .int newObjects, .int newSteps, .ref a_newLengths, .ref a_newLetters, .ref a_newSources, .ref a_newTargets, .ref a_newLabels, .ref a_word, .int wordSize, .ref a_failed, .ref a_sizes, .ref a_arrays, .int hasSnapshot, .int savedObjects, .int savedSteps, .int savedRules, .ref a_savedLengths, .ref a_savedSources, .ref a_savedTargets, .ref a_savedLabels, .ref a_savedSideLengths, .ref a_savedLetters, .ref a_savedSides, .ref a_savedPairs]))], [(a_sources, .inl (G 0, 32, .inl sources))]] (xQi D [[(h, .inr (11, [.ref a_pairs, .ref a_above, .int objects, .int steps, .ref a_sources, .ref a_targets, .ref a_labels, .ref a_lengths, .ref a_letters, .ref a_distances, .ref a_longest, .int firstStep, .int secondStep, .ref a_lengthsTo, .ref a_lengthsFrom, .ref a_path, .int pathLength, .ref a_output, .int outputLength, .ref a_found, .int foundSteps, .ref a_keptLabels, .ref a_keptPairs, .ref a_input, .int inputLength, .int rules, .ref a_sides, .ref a_sideLengths, .int newObjects, .int newSteps, .ref a_newLengths, .ref a_newLetters, .ref a_newSources, .ref a_newTargets, .ref a_newLabels, .ref a_word, .int wordSize, .ref a_failed, .ref a_sizes, .ref a_arrays, .int hasSnapshot, .int savedObjects, .int savedSteps, .int savedRules, .ref a_savedLengths, .ref a_savedSources, .ref a_savedTargets, .ref a_savedLabels, .ref a_savedSideLengths, .ref a_savedLetters, .ref a_savedSides, .ref a_savedPairs]))], [(a_sources, .inl (G 0, 32, .inl sources))]] out) := by
  refine x_ent (cc := cX12_source) (maxL := 2) (by decide) rfl (Nat.le_of_ble_eq_true rfl) ?_
  intro p e s m blw meth c aa ls args Q H locs hQ hx hb hr hml hown hts hlocks hE hN hl hP hS
  have hown : s.vm.findClass RX12 = some m.cls := hown
  have hl : lv_has ls 2 [(0, .ref h), (1, .int v1)] := hl
  refine lv_aload_n hx hb dX12_source_0 rfl (lv_at hl 0 rfl) ?_
  refine lv_iload_n hx hb dX12_source_1 rfl (lv_at hl 1 rfl) ?_
  obtain ⟨r_2, hr_2, hf⟩ := bd_some hf
  refine x_goi0 (ps := [0]) (x_runV (As := [.int v1]) (rest := []) (ps := [0]) ⟨hx, hb, hml, hown, hts⟩ (k_X12_isStep l D G fu h a_pairs a_above a_sources a_targets a_labels a_lengths a_letters a_distances a_longest a_lengthsTo a_lengthsFrom a_path a_output a_found a_keptLabels a_keptPairs a_input a_sides a_sideLengths a_newLengths a_newLetters a_newSources a_newTargets a_newLabels a_word a_failed a_sizes a_arrays a_savedLengths a_savedSources a_savedTargets a_savedLabels a_savedSideLengths a_savedLetters a_savedSides a_savedPairs objects steps firstStep secondStep pathLength outputLength foundSteps inputLength rules newObjects newSteps wordSize hasSnapshot savedObjects savedSteps savedRules v1 r_2 hr_2) (cwV 1 hts gX12_source_X12_isStep rfl rfl rfl (by decide +kernel) ⟨Nat.le_of_ble_eq_true rfl, Nat.le_of_ble_eq_true rfl⟩) hE hP hN rfl (by decide) 0 rfl rfl rfl hl.1 (Nat.le_of_ble_eq_true rfl) dX12_source_2 ⟨Nat.zero_le _, Nat.zero_le _⟩) hP hN hS rfl (fun H locs hP hS => ?_)
  refine lv_if_eq (tgt := 17) hx hb dX12_source_5 (by decide) (fun c_5 => ?_) (fun c_5 => ?_)
  · have hf := it_pos c_5 hf
    refine lv_iconst (v := -1) hx hb dX12_source_17 (by decide) ?_
    have hf := Option.some.inj hf
    subst hf
    subst hQ
    exact x_iret hx hb hr hlocks hP hS dX12_source_18
  · have hf := it_neg c_5 hf
    refine lv_aload_n hx hb dX12_source_8 rfl (lv_at hl 0 rfl) ?_
    refine x_get hx hb hts u_X12_source_X12 hown hE hP 0 rfl rfl 4 (by decide) (hts (.fieldLink RX12 17 "DecreasingDiagramsModel" "sources" "[I") (List.mem_of_getElem? (i := 1) rfl)) rfl dX12_source_9 ?_
    refine lv_iload_n hx hb dX12_source_12 rfl (lv_at hl 1 rfl) ?_
    obtain ⟨hi, hf⟩ := ck_some hf
    refine x_iald hx hb hE hP 1 rfl hi dX12_source_13 ?_
    refine lv_goto (tgt := 18) hx hb dX12_source_14 (by decide) ?_
    have hf := Option.some.inj hf
    subst hf
    subst hQ
    exact x_iret hx hb hr hlocks hP hS dX12_source_18

set_option maxRecDepth 20000 in
theorem u_X12_stepCount_X12 : ∀ w ∈ wsX120, w ∈ wsX12_stepCount := xx_pl _ [2, 3, 4, 5, 6, 7, 8, 9, 10, 11, 12, 13, 14, 15, 16, 17, 18, 19, 20, 21, 22, 23, 24, 25, 26, 27, 28, 29, 30, 31, 32, 33, 34, 35, 36, 37, 38, 39, 40, 41, 42, 43, 44, 45, 46, 47, 48, 49, 50, 51, 52, 53] (by decide +kernel)
def f_X12_stepCount (steps : Int32) : Option (Int32) :=
  some steps
set_option maxHeartbeats 4000000 in
set_option maxRecDepth 100000 in
theorem k_X12_stepCount (l : Launch) (D : va_G) (G : Nat → ClassId) (fu : Nat) (h : Nat) (a_pairs : Nat) (a_above : Nat) (a_sources : Nat) (a_targets : Nat) (a_labels : Nat) (a_lengths : Nat) (a_letters : Nat) (a_distances : Nat) (a_longest : Nat) (a_lengthsTo : Nat) (a_lengthsFrom : Nat) (a_path : Nat) (a_output : Nat) (a_found : Nat) (a_keptLabels : Nat) (a_keptPairs : Nat) (a_input : Nat) (a_sides : Nat) (a_sideLengths : Nat) (a_newLengths : Nat) (a_newLetters : Nat) (a_newSources : Nat) (a_newTargets : Nat) (a_newLabels : Nat) (a_word : Nat) (a_failed : Nat) (a_sizes : Nat) (a_arrays : Nat) (a_savedLengths : Nat) (a_savedSources : Nat) (a_savedTargets : Nat) (a_savedLabels : Nat) (a_savedSideLengths : Nat) (a_savedLetters : Nat) (a_savedSides : Nat) (a_savedPairs : Nat) (objects : Int32) (steps : Int32) (firstStep : Int32) (secondStep : Int32) (pathLength : Int32) (outputLength : Int32) (foundSteps : Int32) (inputLength : Int32) (rules : Int32) (newObjects : Int32) (newSteps : Int32) (wordSize : Int32) (hasSnapshot : Int32) (savedObjects : Int32) (savedSteps : Int32) (savedRules : Int32)   (out : Int32) (hf : f_X12_stepCount steps = some out) : xMet l yX12_stepCount wsX12_stepCount (rM 0 0) D G [.ref h] [[(h, .inr (11, [.ref a_pairs, .ref a_above, .int objects, .int steps, .ref a_sources, .ref a_targets, .ref a_labels, .ref a_lengths, .ref a_letters, .ref a_distances, .ref a_longest, .int firstStep, .int secondStep, .ref a_lengthsTo, .ref a_lengthsFrom, .ref a_path, .int pathLength, .ref a_output, .int outputLength, .ref a_found, .int foundSteps, .ref a_keptLabels, .ref a_keptPairs, .ref a_input, .int inputLength, .int rules, .ref a_sides, .ref a_sideLengths, .int newObjects, .int newSteps, .ref a_newLengths, .ref a_newLetters, .ref a_newSources, .ref a_newTargets, .ref a_newLabels, .ref a_word, .int wordSize, .ref a_failed, .ref a_sizes, .ref a_arrays, .int hasSnapshot, .int savedObjects, .int savedSteps, .int savedRules, .ref a_savedLengths, .ref a_savedSources, .ref a_savedTargets, .ref a_savedLabels, .ref a_savedSideLengths, .ref a_savedLetters, .ref a_savedSides, .ref a_savedPairs]))]] (xQi D [[(h, .inr (11, [.ref a_pairs, .ref a_above, .int objects, .int steps, .ref a_sources, .ref a_targets, .ref a_labels, .ref a_lengths, .ref a_letters, .ref a_distances, .ref a_longest, .int firstStep, .int secondStep, .ref a_lengthsTo, .ref a_lengthsFrom, .ref a_path, .int pathLength, .ref a_output, .int outputLength, .ref a_found, .int foundSteps, .ref a_keptLabels, .ref a_keptPairs, .ref a_input, .int inputLength, .int rules, .ref a_sides, .ref a_sideLengths, .int newObjects, .int newSteps, .ref a_newLengths, .ref a_newLetters, .ref a_newSources, .ref a_newTargets, .ref a_newLabels, .ref a_word, .int wordSize, .ref a_failed, .ref a_sizes, .ref a_arrays, .int hasSnapshot, .int savedObjects, .int savedSteps, .int savedRules, .ref a_savedLengths, .ref a_savedSources, .ref a_savedTargets, .ref a_savedLabels, .ref a_savedSideLengths, .ref a_savedLetters, .ref a_savedSides, .ref a_savedPairs]))]] out) := by
  refine x_ent (cc := cX12_stepCount) (maxL := 1) (by decide) rfl (Nat.le_of_ble_eq_true rfl) ?_
  intro p e s m blw meth c aa ls args Q H locs hQ hx hb hr hml hown hts hlocks hE hN hl hP hS
  have hown : s.vm.findClass RX12 = some m.cls := hown
  have hl : lv_has ls 1 [(0, .ref h)] := hl
  refine lv_aload_n hx hb dX12_stepCount_0 rfl (lv_at hl 0 rfl) ?_
  refine x_get hx hb hts u_X12_stepCount_X12 hown hE hP 0 rfl rfl 3 (by decide) (hts (.fieldLink RX12 135 "DecreasingDiagramsModel" "steps" "I") (List.mem_of_getElem? (i := 1) rfl)) rfl dX12_stepCount_1 ?_
  have hf := Option.some.inj hf
  subst hf
  subst hQ
  exact x_iret hx hb hr hlocks hP hS dX12_stepCount_4

set_option maxRecDepth 20000 in
theorem u_X12_target_X12 : ∀ w ∈ wsX120, w ∈ wsX12_target := xx_pl _ [11, 12, 13, 14, 15, 16, 17, 18, 19, 20, 21, 22, 23, 24, 25, 26, 27, 28, 29, 30, 31, 32, 33, 34, 35, 36, 37, 38, 39, 40, 41, 42, 43, 44, 45, 46, 47, 48, 49, 50, 51, 52, 53, 54, 55, 56, 57, 58, 59, 60, 61, 62] (by decide +kernel)
def f_X12_target (steps : Int32) (targets : (Nat → Int32)) (v1 : Int32) : Option (Int32) :=
  (f_X12_isStep steps v1).bind (fun r_2 => if r_2 = 0 then (some (-1)) else (ck v1 32 (some (targets v1.toNatClampNeg))))
set_option maxHeartbeats 4000000 in
set_option maxRecDepth 100000 in
theorem k_X12_target (l : Launch) (D : va_G) (G : Nat → ClassId) (fu : Nat) (h : Nat) (a_pairs : Nat) (a_above : Nat) (a_sources : Nat) (a_targets : Nat) (a_labels : Nat) (a_lengths : Nat) (a_letters : Nat) (a_distances : Nat) (a_longest : Nat) (a_lengthsTo : Nat) (a_lengthsFrom : Nat) (a_path : Nat) (a_output : Nat) (a_found : Nat) (a_keptLabels : Nat) (a_keptPairs : Nat) (a_input : Nat) (a_sides : Nat) (a_sideLengths : Nat) (a_newLengths : Nat) (a_newLetters : Nat) (a_newSources : Nat) (a_newTargets : Nat) (a_newLabels : Nat) (a_word : Nat) (a_failed : Nat) (a_sizes : Nat) (a_arrays : Nat) (a_savedLengths : Nat) (a_savedSources : Nat) (a_savedTargets : Nat) (a_savedLabels : Nat) (a_savedSideLengths : Nat) (a_savedLetters : Nat) (a_savedSides : Nat) (a_savedPairs : Nat) (objects : Int32) (steps : Int32) (firstStep : Int32) (secondStep : Int32) (pathLength : Int32) (outputLength : Int32) (foundSteps : Int32) (inputLength : Int32) (rules : Int32) (newObjects : Int32) (newSteps : Int32) (wordSize : Int32) (hasSnapshot : Int32) (savedObjects : Int32) (savedSteps : Int32) (savedRules : Int32) (targets : (Nat → Int32))  (v1 : Int32) (out : Int32) (hf : f_X12_target steps targets v1 = some out) : xMet l yX12_target wsX12_target (rM 2 43) D G [.ref h, .int v1] [[(h, .inr (11, [.ref a_pairs, .ref a_above, .int objects, .int steps, .ref a_sources, .ref a_targets, .ref a_labels, .ref a_lengths, .ref a_letters, .ref a_distances, .ref a_longest, .int firstStep, .int secondStep, .ref a_lengthsTo, .ref a_lengthsFrom, .ref a_path, .int pathLength, .ref a_output, .int outputLength, .ref a_found, .int foundSteps, .ref a_keptLabels, .ref a_keptPairs, .ref a_input, .int inputLength, .int rules, .ref a_sides, .ref a_sideLengths, .int newObjects, .int newSteps, .ref a_newLengths, .ref a_newLetters, .ref a_newSources, .ref a_newTargets, .ref a_newLabels, .ref a_word, .int wordSize, .ref a_failed, .ref a_sizes, .ref a_arrays, .int hasSnapshot, .int savedObjects, .int savedSteps, .int savedRules, .ref a_savedLengths, .ref a_savedSources, .ref a_savedTargets, .ref a_savedLabels, .ref a_savedSideLengths, .ref a_savedLetters, .ref a_savedSides, .ref a_savedPairs]))], [(a_targets, .inl (G 0, 32, .inl targets))]] (xQi D [[(h, .inr (11, [.ref a_pairs, .ref a_above, .int objects, .int steps, .ref a_sources, .ref a_targets, .ref a_labels, .ref a_lengths, .ref a_letters, .ref a_distances, .ref a_longest, .int firstStep, .int secondStep, .ref a_lengthsTo, .ref a_lengthsFrom, .ref a_path, .int pathLength, .ref a_output, .int outputLength, .ref a_found, .int foundSteps, .ref a_keptLabels, .ref a_keptPairs, .ref a_input, .int inputLength, .int rules, .ref a_sides, .ref a_sideLengths, .int newObjects, .int newSteps, .ref a_newLengths, .ref a_newLetters, .ref a_newSources, .ref a_newTargets, .ref a_newLabels, .ref a_word, .int wordSize, .ref a_failed, .ref a_sizes, .ref a_arrays, .int hasSnapshot, .int savedObjects, .int savedSteps, .int savedRules, .ref a_savedLengths, .ref a_savedSources, .ref a_savedTargets, .ref a_savedLabels, .ref a_savedSideLengths, .ref a_savedLetters, .ref a_savedSides, .ref a_savedPairs]))], [(a_targets, .inl (G 0, 32, .inl targets))]] out) := by
  refine x_ent (cc := cX12_target) (maxL := 2) (by decide) rfl (Nat.le_of_ble_eq_true rfl) ?_
  intro p e s m blw meth c aa ls args Q H locs hQ hx hb hr hml hown hts hlocks hE hN hl hP hS
  have hown : s.vm.findClass RX12 = some m.cls := hown
  have hl : lv_has ls 2 [(0, .ref h), (1, .int v1)] := hl
  refine lv_aload_n hx hb dX12_target_0 rfl (lv_at hl 0 rfl) ?_
  refine lv_iload_n hx hb dX12_target_1 rfl (lv_at hl 1 rfl) ?_
  obtain ⟨r_2, hr_2, hf⟩ := bd_some hf
  refine x_goi0 (ps := [0]) (x_runV (As := [.int v1]) (rest := []) (ps := [0]) ⟨hx, hb, hml, hown, hts⟩ (k_X12_isStep l D G fu h a_pairs a_above a_sources a_targets a_labels a_lengths a_letters a_distances a_longest a_lengthsTo a_lengthsFrom a_path a_output a_found a_keptLabels a_keptPairs a_input a_sides a_sideLengths a_newLengths a_newLetters a_newSources a_newTargets a_newLabels a_word a_failed a_sizes a_arrays a_savedLengths a_savedSources a_savedTargets a_savedLabels a_savedSideLengths a_savedLetters a_savedSides a_savedPairs objects steps firstStep secondStep pathLength outputLength foundSteps inputLength rules newObjects newSteps wordSize hasSnapshot savedObjects savedSteps savedRules v1 r_2 hr_2) (cwV 1 hts gX12_target_X12_isStep rfl rfl rfl (by decide +kernel) ⟨Nat.le_of_ble_eq_true rfl, Nat.le_of_ble_eq_true rfl⟩) hE hP hN rfl (by decide) 0 rfl rfl rfl hl.1 (Nat.le_of_ble_eq_true rfl) dX12_target_2 ⟨Nat.zero_le _, Nat.zero_le _⟩) hP hN hS rfl (fun H locs hP hS => ?_)
  refine lv_if_eq (tgt := 17) hx hb dX12_target_5 (by decide) (fun c_5 => ?_) (fun c_5 => ?_)
  · have hf := it_pos c_5 hf
    refine lv_iconst (v := -1) hx hb dX12_target_17 (by decide) ?_
    have hf := Option.some.inj hf
    subst hf
    subst hQ
    exact x_iret hx hb hr hlocks hP hS dX12_target_18
  · have hf := it_neg c_5 hf
    refine lv_aload_n hx hb dX12_target_8 rfl (lv_at hl 0 rfl) ?_
    refine x_get hx hb hts u_X12_target_X12 hown hE hP 0 rfl rfl 5 (by decide) (hts (.fieldLink RX12 21 "DecreasingDiagramsModel" "targets" "[I") (List.mem_of_getElem? (i := 1) rfl)) rfl dX12_target_9 ?_
    refine lv_iload_n hx hb dX12_target_12 rfl (lv_at hl 1 rfl) ?_
    obtain ⟨hi, hf⟩ := ck_some hf
    refine x_iald hx hb hE hP 1 rfl hi dX12_target_13 ?_
    refine lv_goto (tgt := 18) hx hb dX12_target_14 (by decide) ?_
    have hf := Option.some.inj hf
    subst hf
    subst hQ
    exact x_iret hx hb hr hlocks hP hS dX12_target_18

def f_X12_valley (fu : Nat) (objects : Int32) (steps : Int32) (firstStep : Int32) (secondStep : Int32) (above : (Nat → Nat → Int32)) (labels : (Nat → Int32)) (lengthsTo : (Nat → Nat → Int32)) (sources : (Nat → Int32)) (targets : (Nat → Int32)) (v1 : Int32) : Option (Int32 × Int32 × (Nat → Nat → Int32) × Int32) :=
  (f_X12_findPeak fu steps firstStep secondStep sources v1).bind (fun r_2 => if ¬ r_2.1 = 0 then ((f_X12_valleyOfPeak fu objects steps r_2.2.1 r_2.2.2 above labels lengthsTo sources targets).bind (fun r_13 => some (r_13.1, r_2.2.1, r_13.2, r_2.2.2))) else (some ((-1), r_2.2.1, lengthsTo, r_2.2.2)))
set_option maxHeartbeats 4000000 in
set_option maxRecDepth 100000 in
theorem k_X12_valley (l : Launch) (D : va_G) (G : Nat → ClassId) (fu : Nat) (h : Nat) (a_pairs : Nat) (a_above : Nat) (a_sources : Nat) (a_targets : Nat) (a_labels : Nat) (a_lengths : Nat) (a_letters : Nat) (a_distances : Nat) (a_longest : Nat) (a_lengthsTo : Nat) (a_lengthsFrom : Nat) (a_path : Nat) (a_output : Nat) (a_found : Nat) (a_keptLabels : Nat) (a_keptPairs : Nat) (a_input : Nat) (a_sides : Nat) (a_sideLengths : Nat) (a_newLengths : Nat) (a_newLetters : Nat) (a_newSources : Nat) (a_newTargets : Nat) (a_newLabels : Nat) (a_word : Nat) (a_failed : Nat) (a_sizes : Nat) (a_arrays : Nat) (a_savedLengths : Nat) (a_savedSources : Nat) (a_savedTargets : Nat) (a_savedLabels : Nat) (a_savedSideLengths : Nat) (a_savedLetters : Nat) (a_savedSides : Nat) (a_savedPairs : Nat) (r_above : Nat → Nat) (r_lengthsTo : Nat → Nat) (objects : Int32) (steps : Int32) (firstStep : Int32) (secondStep : Int32) (pathLength : Int32) (outputLength : Int32) (foundSteps : Int32) (inputLength : Int32) (rules : Int32) (newObjects : Int32) (newSteps : Int32) (wordSize : Int32) (hasSnapshot : Int32) (savedObjects : Int32) (savedSteps : Int32) (savedRules : Int32) (above : (Nat → Nat → Int32)) (labels : (Nat → Int32)) (lengthsTo : (Nat → Nat → Int32)) (sources : (Nat → Int32)) (targets : (Nat → Int32))  (v1 : Int32) (out : Int32 × Int32 × (Nat → Nat → Int32) × Int32) (hf : f_X12_valley fu objects steps firstStep secondStep above labels lengthsTo sources targets v1 = some out) : xMet l yX12_valley wsX12_valley (rM 3 80) D G [.ref h, .int v1] [[(h, .inr (11, [.ref a_pairs, .ref a_above, .int objects, .int steps, .ref a_sources, .ref a_targets, .ref a_labels, .ref a_lengths, .ref a_letters, .ref a_distances, .ref a_longest, .int firstStep, .int secondStep, .ref a_lengthsTo, .ref a_lengthsFrom, .ref a_path, .int pathLength, .ref a_output, .int outputLength, .ref a_found, .int foundSteps, .ref a_keptLabels, .ref a_keptPairs, .ref a_input, .int inputLength, .int rules, .ref a_sides, .ref a_sideLengths, .int newObjects, .int newSteps, .ref a_newLengths, .ref a_newLetters, .ref a_newSources, .ref a_newTargets, .ref a_newLabels, .ref a_word, .int wordSize, .ref a_failed, .ref a_sizes, .ref a_arrays, .int hasSnapshot, .int savedObjects, .int savedSteps, .int savedRules, .ref a_savedLengths, .ref a_savedSources, .ref a_savedTargets, .ref a_savedLabels, .ref a_savedSideLengths, .ref a_savedLetters, .ref a_savedSides, .ref a_savedPairs]))], [gO (G 6) a_above r_above 8], gI (G 2) r_above 8 8 above, [(a_labels, .inl (G 0, 32, .inl labels))], [gO (G 4) a_lengthsTo r_lengthsTo 2], gI (G 0) r_lengthsTo 2 32 lengthsTo, [(a_sources, .inl (G 0, 32, .inl sources))], [(a_targets, .inl (G 0, 32, .inl targets))]] (xQi D [[(h, .inr (11, [.ref a_pairs, .ref a_above, .int objects, .int steps, .ref a_sources, .ref a_targets, .ref a_labels, .ref a_lengths, .ref a_letters, .ref a_distances, .ref a_longest, .int out.2.1, .int out.2.2.2, .ref a_lengthsTo, .ref a_lengthsFrom, .ref a_path, .int pathLength, .ref a_output, .int outputLength, .ref a_found, .int foundSteps, .ref a_keptLabels, .ref a_keptPairs, .ref a_input, .int inputLength, .int rules, .ref a_sides, .ref a_sideLengths, .int newObjects, .int newSteps, .ref a_newLengths, .ref a_newLetters, .ref a_newSources, .ref a_newTargets, .ref a_newLabels, .ref a_word, .int wordSize, .ref a_failed, .ref a_sizes, .ref a_arrays, .int hasSnapshot, .int savedObjects, .int savedSteps, .int savedRules, .ref a_savedLengths, .ref a_savedSources, .ref a_savedTargets, .ref a_savedLabels, .ref a_savedSideLengths, .ref a_savedLetters, .ref a_savedSides, .ref a_savedPairs]))], [gO (G 6) a_above r_above 8], gI (G 2) r_above 8 8 above, [(a_labels, .inl (G 0, 32, .inl labels))], [gO (G 4) a_lengthsTo r_lengthsTo 2], gI (G 0) r_lengthsTo 2 32 out.2.2.1, [(a_sources, .inl (G 0, 32, .inl sources))], [(a_targets, .inl (G 0, 32, .inl targets))]] out.1) := by
  refine x_ent (cc := cX12_valley) (maxL := 2) (by decide) rfl (Nat.le_of_ble_eq_true rfl) ?_
  intro p e s m blw meth c aa ls args Q H locs hQ hx hb hr hml hown hts hlocks hE hN hl hP hS
  have hown : s.vm.findClass RX12 = some m.cls := hown
  have hl : lv_has ls 2 [(0, .ref h), (1, .int v1)] := hl
  refine lv_aload_n hx hb dX12_valley_0 rfl (lv_at hl 0 rfl) ?_
  refine lv_iload_n hx hb dX12_valley_1 rfl (lv_at hl 1 rfl) ?_
  obtain ⟨r_2, hr_2, hf⟩ := bd_some hf
  refine x_goi (ps := [0, 6]) (qs := [1, 2, 3, 4, 5, 7]) (n := 8) (I' := [[(h, .inr (11, [.ref a_pairs, .ref a_above, .int objects, .int steps, .ref a_sources, .ref a_targets, .ref a_labels, .ref a_lengths, .ref a_letters, .ref a_distances, .ref a_longest, .int r_2.2.1, .int r_2.2.2, .ref a_lengthsTo, .ref a_lengthsFrom, .ref a_path, .int pathLength, .ref a_output, .int outputLength, .ref a_found, .int foundSteps, .ref a_keptLabels, .ref a_keptPairs, .ref a_input, .int inputLength, .int rules, .ref a_sides, .ref a_sideLengths, .int newObjects, .int newSteps, .ref a_newLengths, .ref a_newLetters, .ref a_newSources, .ref a_newTargets, .ref a_newLabels, .ref a_word, .int wordSize, .ref a_failed, .ref a_sizes, .ref a_arrays, .int hasSnapshot, .int savedObjects, .int savedSteps, .int savedRules, .ref a_savedLengths, .ref a_savedSources, .ref a_savedTargets, .ref a_savedLabels, .ref a_savedSideLengths, .ref a_savedLetters, .ref a_savedSides, .ref a_savedPairs]))], [gO (G 6) a_above r_above 8], gI (G 2) r_above 8 8 above, [(a_labels, .inl (G 0, 32, .inl labels))], [gO (G 4) a_lengthsTo r_lengthsTo 2], gI (G 0) r_lengthsTo 2 32 lengthsTo, [(a_sources, .inl (G 0, 32, .inl sources))], [(a_targets, .inl (G 0, 32, .inl targets))]]) (x_runV (As := [.int v1]) (rest := []) (ps := [0, 6]) ⟨hx, hb, hml, hown, hts⟩ (k_X12_findPeak l D G fu h a_pairs a_above a_sources a_targets a_labels a_lengths a_letters a_distances a_longest a_lengthsTo a_lengthsFrom a_path a_output a_found a_keptLabels a_keptPairs a_input a_sides a_sideLengths a_newLengths a_newLetters a_newSources a_newTargets a_newLabels a_word a_failed a_sizes a_arrays a_savedLengths a_savedSources a_savedTargets a_savedLabels a_savedSideLengths a_savedLetters a_savedSides a_savedPairs objects steps firstStep secondStep pathLength outputLength foundSteps inputLength rules newObjects newSteps wordSize hasSnapshot savedObjects savedSteps savedRules sources v1 r_2 hr_2) (cwV 1 hts gX12_valley_X12_findPeak rfl rfl rfl (by decide +kernel) ⟨Nat.le_of_ble_eq_true rfl, Nat.le_of_ble_eq_true rfl⟩) hE hP hN rfl (by decide) 0 rfl rfl rfl hl.1 (Nat.le_of_ble_eq_true rfl) dX12_valley_2 ⟨Nat.zero_le _, Nat.zero_le _⟩) hP hN hS rfl rfl rfl rfl rfl (by decide) (fun H locs hP hS => ?_)
  refine lv_if_ne (tgt := 12) hx hb dX12_valley_5 (by decide) (fun c_5 => ?_) (fun c_5 => ?_)
  · have hf := it_pos c_5 hf
    refine lv_aload_n hx hb dX12_valley_12 rfl (lv_at hl 0 rfl) ?_
    obtain ⟨r_13, hr_13, hf⟩ := bd_some hf
    refine x_goi (ps := [0, 1, 2, 3, 4, 5, 6, 7]) (qs := []) (n := 8) (I' := [[(h, .inr (11, [.ref a_pairs, .ref a_above, .int objects, .int steps, .ref a_sources, .ref a_targets, .ref a_labels, .ref a_lengths, .ref a_letters, .ref a_distances, .ref a_longest, .int r_2.2.1, .int r_2.2.2, .ref a_lengthsTo, .ref a_lengthsFrom, .ref a_path, .int pathLength, .ref a_output, .int outputLength, .ref a_found, .int foundSteps, .ref a_keptLabels, .ref a_keptPairs, .ref a_input, .int inputLength, .int rules, .ref a_sides, .ref a_sideLengths, .int newObjects, .int newSteps, .ref a_newLengths, .ref a_newLetters, .ref a_newSources, .ref a_newTargets, .ref a_newLabels, .ref a_word, .int wordSize, .ref a_failed, .ref a_sizes, .ref a_arrays, .int hasSnapshot, .int savedObjects, .int savedSteps, .int savedRules, .ref a_savedLengths, .ref a_savedSources, .ref a_savedTargets, .ref a_savedLabels, .ref a_savedSideLengths, .ref a_savedLetters, .ref a_savedSides, .ref a_savedPairs]))], [gO (G 6) a_above r_above 8], gI (G 2) r_above 8 8 above, [(a_labels, .inl (G 0, 32, .inl labels))], [gO (G 4) a_lengthsTo r_lengthsTo 2], gI (G 0) r_lengthsTo 2 32 r_13.2, [(a_sources, .inl (G 0, 32, .inl sources))], [(a_targets, .inl (G 0, 32, .inl targets))]]) (x_runV (As := []) (rest := []) (ps := [0, 1, 2, 3, 4, 5, 6, 7]) ⟨hx, hb, hml, hown, hts⟩ (k_X12_valleyOfPeak l D G fu h a_pairs a_above a_sources a_targets a_labels a_lengths a_letters a_distances a_longest a_lengthsTo a_lengthsFrom a_path a_output a_found a_keptLabels a_keptPairs a_input a_sides a_sideLengths a_newLengths a_newLetters a_newSources a_newTargets a_newLabels a_word a_failed a_sizes a_arrays a_savedLengths a_savedSources a_savedTargets a_savedLabels a_savedSideLengths a_savedLetters a_savedSides a_savedPairs r_above r_lengthsTo objects steps r_2.2.1 r_2.2.2 pathLength outputLength foundSteps inputLength rules newObjects newSteps wordSize hasSnapshot savedObjects savedSteps savedRules above labels lengthsTo sources targets r_13 hr_13) (cwV 0 hts gX12_valley_X12_valleyOfPeak rfl rfl rfl (by decide +kernel) ⟨Nat.le_of_ble_eq_true rfl, Nat.le_of_ble_eq_true rfl⟩) hE hP hN rfl (by decide) 0 rfl rfl rfl hl.1 (Nat.le_of_ble_eq_true rfl) dX12_valley_13 ⟨Nat.zero_le _, Nat.zero_le _⟩) hP hN hS rfl rfl rfl rfl rfl (by decide) (fun H locs hP hS => ?_)
    have hf := Option.some.inj hf
    subst hf
    subst hQ
    exact x_iret hx hb hr hlocks hP hS dX12_valley_16
  · have hf := it_neg (fun h => h c_5) hf
    refine lv_iconst (v := -1) hx hb dX12_valley_8 (by decide) ?_
    refine lv_goto (tgt := 16) hx hb dX12_valley_9 (by decide) ?_
    have hf := Option.some.inj hf
    subst hf
    subst hQ
    exact x_iret hx hb hr hlocks hP hS dX12_valley_16

set_option maxRecDepth 20000 in
theorem u_X12_wordLength_X12 : ∀ w ∈ wsX120, w ∈ wsX12_wordLength := xx_pl _ [11, 12, 13, 14, 15, 16, 17, 18, 19, 20, 21, 22, 23, 24, 25, 26, 27, 28, 29, 30, 31, 32, 33, 34, 35, 36, 37, 38, 39, 40, 41, 42, 43, 44, 45, 46, 47, 48, 49, 50, 51, 52, 53, 54, 55, 56, 57, 58, 59, 60, 61, 62] (by decide +kernel)
def f_X12_wordLength (objects : Int32) (lengths : (Nat → Int32)) (v1 : Int32) : Option (Int32) :=
  (f_X12_isObject objects v1).bind (fun r_2 => if ¬ r_2 = 0 then (ck v1 16 (if 0 ≤ (lengths v1.toNatClampNeg) then (ck v1 16 (some (lengths v1.toNatClampNeg))) else (some (-2)))) else (some (-1)))
set_option maxHeartbeats 4000000 in
set_option maxRecDepth 100000 in
theorem k_X12_wordLength (l : Launch) (D : va_G) (G : Nat → ClassId) (fu : Nat) (h : Nat) (a_pairs : Nat) (a_above : Nat) (a_sources : Nat) (a_targets : Nat) (a_labels : Nat) (a_lengths : Nat) (a_letters : Nat) (a_distances : Nat) (a_longest : Nat) (a_lengthsTo : Nat) (a_lengthsFrom : Nat) (a_path : Nat) (a_output : Nat) (a_found : Nat) (a_keptLabels : Nat) (a_keptPairs : Nat) (a_input : Nat) (a_sides : Nat) (a_sideLengths : Nat) (a_newLengths : Nat) (a_newLetters : Nat) (a_newSources : Nat) (a_newTargets : Nat) (a_newLabels : Nat) (a_word : Nat) (a_failed : Nat) (a_sizes : Nat) (a_arrays : Nat) (a_savedLengths : Nat) (a_savedSources : Nat) (a_savedTargets : Nat) (a_savedLabels : Nat) (a_savedSideLengths : Nat) (a_savedLetters : Nat) (a_savedSides : Nat) (a_savedPairs : Nat) (objects : Int32) (steps : Int32) (firstStep : Int32) (secondStep : Int32) (pathLength : Int32) (outputLength : Int32) (foundSteps : Int32) (inputLength : Int32) (rules : Int32) (newObjects : Int32) (newSteps : Int32) (wordSize : Int32) (hasSnapshot : Int32) (savedObjects : Int32) (savedSteps : Int32) (savedRules : Int32) (lengths : (Nat → Int32))  (v1 : Int32) (out : Int32) (hf : f_X12_wordLength objects lengths v1 = some out) : xMet l yX12_wordLength wsX12_wordLength (rM 2 43) D G [.ref h, .int v1] [[(h, .inr (11, [.ref a_pairs, .ref a_above, .int objects, .int steps, .ref a_sources, .ref a_targets, .ref a_labels, .ref a_lengths, .ref a_letters, .ref a_distances, .ref a_longest, .int firstStep, .int secondStep, .ref a_lengthsTo, .ref a_lengthsFrom, .ref a_path, .int pathLength, .ref a_output, .int outputLength, .ref a_found, .int foundSteps, .ref a_keptLabels, .ref a_keptPairs, .ref a_input, .int inputLength, .int rules, .ref a_sides, .ref a_sideLengths, .int newObjects, .int newSteps, .ref a_newLengths, .ref a_newLetters, .ref a_newSources, .ref a_newTargets, .ref a_newLabels, .ref a_word, .int wordSize, .ref a_failed, .ref a_sizes, .ref a_arrays, .int hasSnapshot, .int savedObjects, .int savedSteps, .int savedRules, .ref a_savedLengths, .ref a_savedSources, .ref a_savedTargets, .ref a_savedLabels, .ref a_savedSideLengths, .ref a_savedLetters, .ref a_savedSides, .ref a_savedPairs]))], [(a_lengths, .inl (G 0, 16, .inl lengths))]] (xQi D [[(h, .inr (11, [.ref a_pairs, .ref a_above, .int objects, .int steps, .ref a_sources, .ref a_targets, .ref a_labels, .ref a_lengths, .ref a_letters, .ref a_distances, .ref a_longest, .int firstStep, .int secondStep, .ref a_lengthsTo, .ref a_lengthsFrom, .ref a_path, .int pathLength, .ref a_output, .int outputLength, .ref a_found, .int foundSteps, .ref a_keptLabels, .ref a_keptPairs, .ref a_input, .int inputLength, .int rules, .ref a_sides, .ref a_sideLengths, .int newObjects, .int newSteps, .ref a_newLengths, .ref a_newLetters, .ref a_newSources, .ref a_newTargets, .ref a_newLabels, .ref a_word, .int wordSize, .ref a_failed, .ref a_sizes, .ref a_arrays, .int hasSnapshot, .int savedObjects, .int savedSteps, .int savedRules, .ref a_savedLengths, .ref a_savedSources, .ref a_savedTargets, .ref a_savedLabels, .ref a_savedSideLengths, .ref a_savedLetters, .ref a_savedSides, .ref a_savedPairs]))], [(a_lengths, .inl (G 0, 16, .inl lengths))]] out) := by
  refine x_ent (cc := cX12_wordLength) (maxL := 2) (by decide) rfl (Nat.le_of_ble_eq_true rfl) ?_
  intro p e s m blw meth c aa ls args Q H locs hQ hx hb hr hml hown hts hlocks hE hN hl hP hS
  have hown : s.vm.findClass RX12 = some m.cls := hown
  have hl : lv_has ls 2 [(0, .ref h), (1, .int v1)] := hl
  refine lv_aload_n hx hb dX12_wordLength_0 rfl (lv_at hl 0 rfl) ?_
  refine lv_iload_n hx hb dX12_wordLength_1 rfl (lv_at hl 1 rfl) ?_
  obtain ⟨r_2, hr_2, hf⟩ := bd_some hf
  refine x_goi0 (ps := [0]) (x_runV (As := [.int v1]) (rest := []) (ps := [0]) ⟨hx, hb, hml, hown, hts⟩ (k_X12_isObject l D G fu h a_pairs a_above a_sources a_targets a_labels a_lengths a_letters a_distances a_longest a_lengthsTo a_lengthsFrom a_path a_output a_found a_keptLabels a_keptPairs a_input a_sides a_sideLengths a_newLengths a_newLetters a_newSources a_newTargets a_newLabels a_word a_failed a_sizes a_arrays a_savedLengths a_savedSources a_savedTargets a_savedLabels a_savedSideLengths a_savedLetters a_savedSides a_savedPairs objects steps firstStep secondStep pathLength outputLength foundSteps inputLength rules newObjects newSteps wordSize hasSnapshot savedObjects savedSteps savedRules v1 r_2 hr_2) (cwV 1 hts gX12_wordLength_X12_isObject rfl rfl rfl (by decide +kernel) ⟨Nat.le_of_ble_eq_true rfl, Nat.le_of_ble_eq_true rfl⟩) hE hP hN rfl (by decide) 0 rfl rfl rfl hl.1 (Nat.le_of_ble_eq_true rfl) dX12_wordLength_2 ⟨Nat.zero_le _, Nat.zero_le _⟩) hP hN hS rfl (fun H locs hP hS => ?_)
  refine lv_if_ne (tgt := 12) hx hb dX12_wordLength_5 (by decide) (fun c_5 => ?_) (fun c_5 => ?_)
  · have hf := it_pos c_5 hf
    refine lv_aload_n hx hb dX12_wordLength_12 rfl (lv_at hl 0 rfl) ?_
    refine x_get hx hb hts u_X12_wordLength_X12 hown hE hP 0 rfl rfl 7 (by decide) (hts (.fieldLink RX12 27 "DecreasingDiagramsModel" "lengths" "[I") (List.mem_of_getElem? (i := 1) rfl)) rfl dX12_wordLength_13 ?_
    refine lv_iload_n hx hb dX12_wordLength_16 rfl (lv_at hl 1 rfl) ?_
    obtain ⟨hi, hf⟩ := ck_some hf
    refine x_iald hx hb hE hP 1 rfl hi dX12_wordLength_17 ?_
    refine lv_if_ge (tgt := 26) hx hb dX12_wordLength_18 (by decide) (fun c_18 => ?_) (fun c_18 => ?_)
    · have hf := it_pos c_18 hf
      refine lv_aload_n hx hb dX12_wordLength_26 rfl (lv_at hl 0 rfl) ?_
      refine x_get hx hb hts u_X12_wordLength_X12 hown hE hP 0 rfl rfl 7 (by decide) (hts (.fieldLink RX12 27 "DecreasingDiagramsModel" "lengths" "[I") (List.mem_of_getElem? (i := 1) rfl)) rfl dX12_wordLength_27 ?_
      refine lv_iload_n hx hb dX12_wordLength_30 rfl (lv_at hl 1 rfl) ?_
      obtain ⟨hi, hf⟩ := ck_some hf
      refine x_iald hx hb hE hP 1 rfl hi dX12_wordLength_31 ?_
      have hf := Option.some.inj hf
      subst hf
      subst hQ
      exact x_iret hx hb hr hlocks hP hS dX12_wordLength_32
    · have hf := it_neg c_18 hf
      refine lv_bipush (v := -2) hx hb dX12_wordLength_21 (by decide) ?_
      refine lv_goto (tgt := 32) hx hb dX12_wordLength_23 (by decide) ?_
      have hf := Option.some.inj hf
      subst hf
      subst hQ
      exact x_iret hx hb hr hlocks hP hS dX12_wordLength_32
  · have hf := it_neg (fun h => h c_5) hf
    refine lv_iconst (v := -1) hx hb dX12_wordLength_8 (by decide) ?_
    refine lv_goto (tgt := 32) hx hb dX12_wordLength_9 (by decide) ?_
    have hf := Option.some.inj hf
    subst hf
    subst hQ
    exact x_iret hx hb hr hlocks hP hS dX12_wordLength_32
