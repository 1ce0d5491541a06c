set_option maxRecDepth 20000 in
theorem u_X12_isLocallyConfluent_X12 : ∀ w ∈ wsX120, w ∈ wsX12_isLocallyConfluent := xx_pl _ [19, 20, 21, 22, 23, 24, 25, 26, 27, 28, 29, 30, 31, 32, 33, 34, 35, 36, 37, 38, 39, 40, 41, 42, 43, 44, 45, 46, 47, 48, 49, 50, 51, 52, 53, 54, 55, 56, 57, 58, 59, 60, 61, 62, 63, 64, 65, 66, 67, 68, 69, 70] (by decide +kernel)
def f_X12_isLocallyConfluent_J68 (rec_6 : (Int32 → Option (Int32 × (Nat → Nat → Int32)))) (v1 : Int32) : Option (Int32 × (Nat → Nat → Int32)) :=
  lt (v1 + 1) (fun v1_68 => rec_6 v1_68)
def f_X12_isLocallyConfluent_J62 (rec_18 : (Int32 → Option (Int32 × (Nat → Nat → Int32)))) (v2 : Int32) : Option (Int32 × (Nat → Nat → Int32)) :=
  lt (v2 + 1) (fun v2_62 => rec_18 v2_62)
def f_X12_isLocallyConfluent_L18 (fu : Nat) (objects : Int32) (steps : Int32) (distances : (Nat → Nat → Int32)) (sources : (Nat → Int32)) (targets : (Nat → Int32)) (v1 : Int32) (rec_6 : (Int32 → Option (Int32 × (Nat → Nat → Int32)))) (rec_18 : Int32 → Option (Int32 × (Nat → Nat → Int32))) (v2 : Int32) : Option (Int32 × (Nat → Nat → Int32)) :=
  if steps ≤ v2 then (f_X12_isLocallyConfluent_J68 rec_6 v1) else (ck v1 32 (ck v2 32 (if ¬ (sources v1.toNatClampNeg) = (sources v2.toNatClampNeg) then (f_X12_isLocallyConfluent_J62 rec_18 v2) else (ck v1 32 (ck v2 32 ((f_X12_areJoinable fu objects distances (targets v1.toNatClampNeg) (targets v2.toNatClampNeg)).bind (fun r_54 => if ¬ r_54 = 0 then (f_X12_isLocallyConfluent_J62 rec_18 v2) else (some (0, distances)))))))))
def f_X12_isLocallyConfluent_L6 (fu : Nat) (objects : Int32) (steps : Int32) (distances : (Nat → Nat → Int32)) (sources : (Nat → Int32)) (targets : (Nat → Int32)) (rec_6 : Int32 → Option (Int32 × (Nat → Nat → Int32))) (v1 : Int32) : Option (Int32 × (Nat → Nat → Int32)) :=
  if steps ≤ v1 then (some (1, distances)) else (lt (v1 + 1) (fun v2_17 => lp (τ := Int32 → Option (Int32 × (Nat → Nat → Int32))) (fun _ => none) (f_X12_isLocallyConfluent_L18 fu objects steps distances sources targets v1 rec_6) fu v2_17))
def f_X12_isLocallyConfluent (fu : Nat) (objects : Int32) (steps : Int32) (distances : (Nat → Nat → Int32)) (sources : (Nat → Int32)) (targets : (Nat → Int32)) : Option (Int32 × (Nat → Nat → Int32)) :=
  (f_X12_findDistances fu objects steps distances sources targets).bind (fun r_1 => lt (0 : Int32) (fun v1_5 => lp (τ := Int32 → Option (Int32 × (Nat → Nat → Int32))) (fun _ => none) (f_X12_isLocallyConfluent_L6 fu objects steps r_1 sources targets) fu v1_5))
set_option maxHeartbeats 4000000 in
set_option maxRecDepth 100000 in
theorem k_X12_isLocallyConfluent (l : Launch) (D : va_G) (G : Nat → ClassId) (fu : Nat) (h : Nat) (a_pairs : Nat) (a_above : Nat) (a_sources : Nat) (a_targets : Nat) (a_labels : Nat) (a_lengths : Nat) (a_letters : Nat) (a_distances : Nat) (a_longest : Nat) (a_lengthsTo : Nat) (a_lengthsFrom : Nat) (a_path : Nat) (a_output : Nat) (a_found : Nat) (a_keptLabels : Nat) (a_keptPairs : Nat) (a_input : Nat) (a_sides : Nat) (a_sideLengths : Nat) (a_newLengths : Nat) (a_newLetters : Nat) (a_newSources : Nat) (a_newTargets : Nat) (a_newLabels : Nat) (a_word : Nat) (a_failed : Nat) (a_sizes : Nat) (a_arrays : Nat) (a_savedLengths : Nat) (a_savedSources : Nat) (a_savedTargets : Nat) (a_savedLabels : Nat) (a_savedSideLengths : Nat) (a_savedLetters : Nat) (a_savedSides : Nat) (a_savedPairs : Nat) (r_distances : Nat → Nat) (objects : Int32) (steps : Int32) (firstStep : Int32) (secondStep : Int32) (pathLength : Int32) (outputLength : Int32) (foundSteps : Int32) (inputLength : Int32) (rules : Int32) (newObjects : Int32) (newSteps : Int32) (wordSize : Int32) (hasSnapshot : Int32) (savedObjects : Int32) (savedSteps : Int32) (savedRules : Int32) (distances : (Nat → Nat → Int32)) (sources : (Nat → Int32)) (targets : (Nat → Int32))   (out : Int32 × (Nat → Nat → Int32)) (hf : f_X12_isLocallyConfluent fu objects steps distances sources targets = some out) : xMet l yX12_isLocallyConfluent wsX12_isLocallyConfluent (rM 2 45) D G [.ref h] [[(h, .inr (11, [.ref a_pairs, .ref a_above, .int objects, .int steps, .ref a_sources, .ref a_targets, .ref a_labels, .ref a_lengths, .ref a_letters, .ref a_distances, .ref a_longest, .int firstStep, .int secondStep, .ref a_lengthsTo, .ref a_lengthsFrom, .ref a_path, .int pathLength, .ref a_output, .int outputLength, .ref a_found, .int foundSteps, .ref a_keptLabels, .ref a_keptPairs, .ref a_input, .int inputLength, .int rules, .ref a_sides, .ref a_sideLengths, .int newObjects, .int newSteps, .ref a_newLengths, .ref a_newLetters, .ref a_newSources, .ref a_newTargets, .ref a_newLabels, .ref a_word, .int wordSize, .ref a_failed, .ref a_sizes, .ref a_arrays, .int hasSnapshot, .int savedObjects, .int savedSteps, .int savedRules, .ref a_savedLengths, .ref a_savedSources, .ref a_savedTargets, .ref a_savedLabels, .ref a_savedSideLengths, .ref a_savedLetters, .ref a_savedSides, .ref a_savedPairs]))], [gO (G 4) a_distances r_distances 16], gI (G 0) r_distances 16 16 distances, [(a_sources, .inl (G 0, 32, .inl sources))], [(a_targets, .inl (G 0, 32, .inl targets))]] (xQi D [[(h, .inr (11, [.ref a_pairs, .ref a_above, .int objects, .int steps, .ref a_sources, .ref a_targets, .ref a_labels, .ref a_lengths, .ref a_letters, .ref a_distances, .ref a_longest, .int firstStep, .int secondStep, .ref a_lengthsTo, .ref a_lengthsFrom, .ref a_path, .int pathLength, .ref a_output, .int outputLength, .ref a_found, .int foundSteps, .ref a_keptLabels, .ref a_keptPairs, .ref a_input, .int inputLength, .int rules, .ref a_sides, .ref a_sideLengths, .int newObjects, .int newSteps, .ref a_newLengths, .ref a_newLetters, .ref a_newSources, .ref a_newTargets, .ref a_newLabels, .ref a_word, .int wordSize, .ref a_failed, .ref a_sizes, .ref a_arrays, .int hasSnapshot, .int savedObjects, .int savedSteps, .int savedRules, .ref a_savedLengths, .ref a_savedSources, .ref a_savedTargets, .ref a_savedLabels, .ref a_savedSideLengths, .ref a_savedLetters, .ref a_savedSides, .ref a_savedPairs]))], [gO (G 4) a_distances r_distances 16], gI (G 0) r_distances 16 16 out.2, [(a_sources, .inl (G 0, 32, .inl sources))], [(a_targets, .inl (G 0, 32, .inl targets))]] out.1) := by
  refine x_ent (cc := cX12_isLocallyConfluent) (maxL := 3) (by decide) rfl (Nat.le_of_ble_eq_true rfl) ?_
  intro p e s m blw meth c aa ls args Q H locs hQ hx hb hr hml hown hts hlocks hE hN hl hP hS
  have hown : s.vm.findClass RX12 = some m.cls := hown
  have hl : lv_has ls 3 [(0, .ref h)] := hl
  have L6 : ∀ (distances : (Nat → Nat → Int32)), ∀ (n_6 : Nat) (v1 : Int32) (H : Heap) (locs : List Loc) (ls : Array Slot), xW D aa [[(h, .inr (11, [.ref a_pairs, .ref a_above, .int objects, .int steps, .ref a_sources, .ref a_targets, .ref a_labels, .ref a_lengths, .ref a_letters, .ref a_distances, .ref a_longest, .int firstStep, .int secondStep, .ref a_lengthsTo, .ref a_lengthsFrom, .ref a_path, .int pathLength, .ref a_output, .int outputLength, .ref a_found, .int foundSteps, .ref a_keptLabels, .ref a_keptPairs, .ref a_input, .int inputLength, .int rules, .ref a_sides, .ref a_sideLengths, .int newObjects, .int newSteps, .ref a_newLengths, .ref a_newLetters, .ref a_newSources, .ref a_newTargets, .ref a_newLabels, .ref a_word, .int wordSize, .ref a_failed, .ref a_sizes, .ref a_arrays, .int hasSnapshot, .int savedObjects, .int savedSteps, .int savedRules, .ref a_savedLengths, .ref a_savedSources, .ref a_savedTargets, .ref a_savedLabels, .ref a_savedSideLengths, .ref a_savedLetters, .ref a_savedSides, .ref a_savedPairs]))], [gO (G 4) a_distances r_distances 16], gI (G 0) r_distances 16 16 distances, [(a_sources, .inl (G 0, 32, .inl sources))], [(a_targets, .inl (G 0, 32, .inl targets))]] H → va_S (xA aa) s.heap H locs → lv_has ls 3 [(0, .ref h), (1, .int v1)] → lp (τ := Int32 → Option (Int32 × (Nat → Nat → Int32))) (fun _ => none) (f_X12_isLocallyConfluent_L6 fu objects steps distances sources targets) n_6 v1 = some out → W p l e (rM 2 45) s m args blw meth c H locs 0 0 Q (F0 m 6 ls []) := by
    intro distances   n_6
    induction n_6 with
    | zero =>
      intro v1 H locs ls hP hS hl hf
      exact no_some hf
    | succ n_6 ih_6 =>
      intro v1 H locs ls hP hS hl hf
      have hf : f_X12_isLocallyConfluent_L6 fu objects steps distances sources targets (lp (τ := Int32 → Option (Int32 × (Nat → Nat → Int32))) (fun _ => none) (f_X12_isLocallyConfluent_L6 fu objects steps distances sources targets) n_6) v1 = some out := hf
      have J68 : ∀ (v1 : Int32) (H : Heap) (locs : List Loc) (ls : Array Slot), xW D aa [[(h, .inr (11, [.ref a_pairs, .ref a_above, .int objects, .int steps, .ref a_sources, .ref a_targets, .ref a_labels, .ref a_lengths, .ref a_letters, .ref a_distances, .ref a_longest, .int firstStep, .int secondStep, .ref a_lengthsTo, .ref a_lengthsFrom, .ref a_path, .int pathLength, .ref a_output, .int outputLength, .ref a_found, .int foundSteps, .ref a_keptLabels, .ref a_keptPairs, .ref a_input, .int inputLength, .int rules, .ref a_sides, .ref a_sideLengths, .int newObjects, .int newSteps, .ref a_newLengths, .ref a_newLetters, .ref a_newSources, .ref a_newTargets, .ref a_newLabels, .ref a_word, .int wordSize, .ref a_failed, .ref a_sizes, .ref a_arrays, .int hasSnapshot, .int savedObjects, .int savedSteps, .int savedRules, .ref a_savedLengths, .ref a_savedSources, .ref a_savedTargets, .ref a_savedLabels, .ref a_savedSideLengths, .ref a_savedLetters, .ref a_savedSides, .ref a_savedPairs]))], [gO (G 4) a_distances r_distances 16], gI (G 0) r_distances 16 16 distances, [(a_sources, .inl (G 0, 32, .inl sources))], [(a_targets, .inl (G 0, 32, .inl targets))]] H → va_S (xA aa) s.heap H locs → lv_has ls 3 [(0, .ref h), (1, .int v1)] → f_X12_isLocallyConfluent_J68 (lp (τ := Int32 → Option (Int32 × (Nat → Nat → Int32))) (fun _ => none) (f_X12_isLocallyConfluent_L6 fu objects steps distances sources targets) n_6) v1 = some out → W p l e (rM 2 45) s m args blw meth c H locs 0 0 Q (F0 m 68 ls []) := by
        intro v1  H locs ls  hP hS hl hf
        obtain ⟨v1_68, e_v1_68, hf⟩ := lt_some hf
        refine lv_iinc (v := v1_68) (lv' := [(1, .int v1_68), (0, .ref h)]) hx hb dX12_isLocallyConfluent_68 hl (k := 1) rfl (by rw [e_v1_68]; rfl) (by decide) rfl (fun ls hl => ?_)
        refine lv_goto (tgt := 6) hx hb dX12_isLocallyConfluent_71 (by decide) ?_
        exact ih_6 v1_68 H locs ls hP hS (lv_sub hl [1, 0] rfl) hf
      have L18 : ∀ (v1 : Int32), ∀ (n_18 : Nat) (v2 : Int32) (H : Heap) (locs : List Loc) (ls : Array Slot), xW D aa [[(h, .inr (11, [.ref a_pairs, .ref a_above, .int objects, .int steps, .ref a_sources, .ref a_targets, .ref a_labels, .ref a_lengths, .ref a_letters, .ref a_distances, .ref a_longest, .int firstStep, .int secondStep, .ref a_lengthsTo, .ref a_lengthsFrom, .ref a_path, .int pathLength, .ref a_output, .int outputLength, .ref a_found, .int foundSteps, .ref a_keptLabels, .ref a_keptPairs, .ref a_input, .int inputLength, .int rules, .ref a_sides, .ref a_sideLengths, .int newObjects, .int newSteps, .ref a_newLengths, .ref a_newLetters, .ref a_newSources, .ref a_newTargets, .ref a_newLabels, .ref a_word, .int wordSize, .ref a_failed, .ref a_sizes, .ref a_arrays, .int hasSnapshot, .int savedObjects, .int savedSteps, .int savedRules, .ref a_savedLengths, .ref a_savedSources, .ref a_savedTargets, .ref a_savedLabels, .ref a_savedSideLengths, .ref a_savedLetters, .ref a_savedSides, .ref a_savedPairs]))], [gO (G 4) a_distances r_distances 16], gI (G 0) r_distances 16 16 distances, [(a_sources, .inl (G 0, 32, .inl sources))], [(a_targets, .inl (G 0, 32, .inl targets))]] H → va_S (xA aa) s.heap H locs → lv_has ls 3 [(0, .ref h), (1, .int v1), (2, .int v2)] → lp (τ := Int32 → Option (Int32 × (Nat → Nat → Int32))) (fun _ => none) (f_X12_isLocallyConfluent_L18 fu objects steps distances sources targets v1 (lp (τ := Int32 → Option (Int32 × (Nat → Nat → Int32))) (fun _ => none) (f_X12_isLocallyConfluent_L6 fu objects steps distances sources targets) n_6)) n_18 v2 = some out → W p l e (rM 2 45) s m args blw meth c H locs 0 0 Q (F0 m 18 ls []) := by
        intro v1   n_18
        induction n_18 with
        | zero =>
          intro v2 H locs ls hP hS hl hf
          exact no_some hf
        | succ n_18 ih_18 =>
          intro v2 H locs ls hP hS hl hf
          have hf : f_X12_isLocallyConfluent_L18 fu objects steps distances sources targets v1 (lp (τ := Int32 → Option (Int32 × (Nat → Nat → Int32))) (fun _ => none) (f_X12_isLocallyConfluent_L6 fu objects steps distances sources targets) n_6) (lp (τ := Int32 → Option (Int32 × (Nat → Nat → Int32))) (fun _ => none) (f_X12_isLocallyConfluent_L18 fu objects steps distances sources targets v1 (lp (τ := Int32 → Option (Int32 × (Nat → Nat → Int32))) (fun _ => none) (f_X12_isLocallyConfluent_L6 fu objects steps distances sources targets) n_6)) n_18) v2 = some out := hf
          have J62 : ∀ (v2 : Int32) (H : Heap) (locs : List Loc) (ls : Array Slot), xW D aa [[(h, .inr (11, [.ref a_pairs, .ref a_above, .int objects, .int steps, .ref a_sources, .ref a_targets, .ref a_labels, .ref a_lengths, .ref a_letters, .ref a_distances, .ref a_longest, .int firstStep, .int secondStep, .ref a_lengthsTo, .ref a_lengthsFrom, .ref a_path, .int pathLength, .ref a_output, .int outputLength, .ref a_found, .int foundSteps, .ref a_keptLabels, .ref a_keptPairs, .ref a_input, .int inputLength, .int rules, .ref a_sides, .ref a_sideLengths, .int newObjects, .int newSteps, .ref a_newLengths, .ref a_newLetters, .ref a_newSources, .ref a_newTargets, .ref a_newLabels, .ref a_word, .int wordSize, .ref a_failed, .ref a_sizes, .ref a_arrays, .int hasSnapshot, .int savedObjects, .int savedSteps, .int savedRules, .ref a_savedLengths, .ref a_savedSources, .ref a_savedTargets, .ref a_savedLabels, .ref a_savedSideLengths, .ref a_savedLetters, .ref a_savedSides, .ref a_savedPairs]))], [gO (G 4) a_distances r_distances 16], gI (G 0) r_distances 16 16 distances, [(a_sources, .inl (G 0, 32, .inl sources))], [(a_targets, .inl (G 0, 32, .inl targets))]] H → va_S (xA aa) s.heap H locs → lv_has ls 3 [(0, .ref h), (1, .int v1), (2, .int v2)] → f_X12_isLocallyConfluent_J62 (lp (τ := Int32 → Option (Int32 × (Nat → Nat → Int32))) (fun _ => none) (f_X12_isLocallyConfluent_L18 fu objects steps distances sources targets v1 (lp (τ := Int32 → Option (Int32 × (Nat → Nat → Int32))) (fun _ => none) (f_X12_isLocallyConfluent_L6 fu objects steps distances sources targets) n_6)) n_18) v2 = some out → W p l e (rM 2 45) s m args blw meth c H locs 0 0 Q (F0 m 62 ls []) := by
            intro v2  H locs ls  hP hS hl hf
            obtain ⟨v2_62, e_v2_62, hf⟩ := lt_some hf
            refine lv_iinc (v := v2_62) (lv' := [(2, .int v2_62), (0, .ref h), (1, .int v1)]) hx hb dX12_isLocallyConfluent_62 hl (k := 2) rfl (by rw [e_v2_62]; rfl) (by decide) rfl (fun ls hl => ?_)
            refine lv_goto (tgt := 18) hx hb dX12_isLocallyConfluent_65 (by decide) ?_
            exact ih_18 v2_62 H locs ls hP hS (lv_sub hl [1, 2, 0] rfl) hf
          refine lv_iload_n hx hb dX12_isLocallyConfluent_18 rfl (lv_at hl 2 rfl) ?_
          refine lv_aload_n hx hb dX12_isLocallyConfluent_19 rfl (lv_at hl 0 rfl) ?_
          refine x_get hx hb hts u_X12_isLocallyConfluent_X12 hown hE hP 0 rfl rfl 3 (by decide) (hts (.fieldLink RX12 135 "DecreasingDiagramsModel" "steps" "I") (List.mem_of_getElem? (i := 1) rfl)) rfl dX12_isLocallyConfluent_20 ?_
          refine lv_icmp_ge (tgt := 68) hx hb dX12_isLocallyConfluent_23 (by decide) (fun c_23 => ?_) (fun c_23 => ?_)
          · have hf := it_pos c_23 hf
            exact J68 v1  H locs ls  hP hS (lv_sub hl [0, 1] rfl) hf
          · have hf := it_neg c_23 hf
            refine lv_aload_n hx hb dX12_isLocallyConfluent_26 rfl (lv_at hl 0 rfl) ?_
            refine x_get hx hb hts u_X12_isLocallyConfluent_X12 hown hE hP 0 rfl rfl 4 (by decide) (hts (.fieldLink RX12 17 "DecreasingDiagramsModel" "sources" "[I") (List.mem_of_getElem? (i := 2) rfl)) rfl dX12_isLocallyConfluent_27 ?_
            refine lv_iload_n hx hb dX12_isLocallyConfluent_30 rfl (lv_at hl 1 rfl) ?_
            obtain ⟨hi, hf⟩ := ck_some hf
            refine x_iald hx hb hE hP 3 rfl hi dX12_isLocallyConfluent_31 ?_
            refine lv_aload_n hx hb dX12_isLocallyConfluent_32 rfl (lv_at hl 0 rfl) ?_
            refine x_get hx hb hts u_X12_isLocallyConfluent_X12 hown hE hP 0 rfl rfl 4 (by decide) (hts (.fieldLink RX12 17 "DecreasingDiagramsModel" "sources" "[I") (List.mem_of_getElem? (i := 2) rfl)) rfl dX12_isLocallyConfluent_33 ?_
            refine lv_iload_n hx hb dX12_isLocallyConfluent_36 rfl (lv_at hl 2 rfl) ?_
            obtain ⟨hi, hf⟩ := ck_some hf
            refine x_iald hx hb hE hP 3 rfl hi dX12_isLocallyConfluent_37 ?_
            refine lv_icmp_ne (tgt := 62) hx hb dX12_isLocallyConfluent_38 (by decide) (fun c_38 => ?_) (fun c_38 => ?_)
            · have hf := it_pos c_38 hf
              exact J62 v2  H locs ls  hP hS (lv_sub hl [0, 1, 2] rfl) hf
            · have hf := it_neg (fun h => h c_38) hf
              refine lv_aload_n hx hb dX12_isLocallyConfluent_41 rfl (lv_at hl 0 rfl) ?_
              refine lv_aload_n hx hb dX12_isLocallyConfluent_42 rfl (lv_at hl 0 rfl) ?_
              refine x_get hx hb hts u_X12_isLocallyConfluent_X12 hown hE hP 0 rfl rfl 5 (by decide) (hts (.fieldLink RX12 21 "DecreasingDiagramsModel" "targets" "[I") (List.mem_of_getElem? (i := 3) rfl)) rfl dX12_isLocallyConfluent_43 ?_
              refine lv_iload_n hx hb dX12_isLocallyConfluent_46 rfl (lv_at hl 1 rfl) ?_
              obtain ⟨hi, hf⟩ := ck_some hf
              refine x_iald hx hb hE hP 4 rfl hi dX12_isLocallyConfluent_47 ?_
              refine lv_aload_n hx hb dX12_isLocallyConfluent_48 rfl (lv_at hl 0 rfl) ?_
              refine x_get hx hb hts u_X12_isLocallyConfluent_X12 hown hE hP 0 rfl rfl 5 (by decide) (hts (.fieldLink RX12 21 "DecreasingDiagramsModel" "targets" "[I") (List.mem_of_getElem? (i := 3) rfl)) rfl dX12_isLocallyConfluent_49 ?_
              refine lv_iload_n hx hb dX12_isLocallyConfluent_52 rfl (lv_at hl 2 rfl) ?_
              obtain ⟨hi, hf⟩ := ck_some hf
              refine x_iald hx hb hE hP 4 rfl hi dX12_isLocallyConfluent_53 ?_
              obtain ⟨r_54, hr_54, hf⟩ := bd_some hf
              refine x_goi0 (ps := [0, 1, 2]) (x_runV (As := [.int (targets v1.toNatClampNeg), .int (targets v2.toNatClampNeg)]) (rest := []) (ps := [0, 1, 2]) ⟨hx, hb, hml, hown, hts⟩ (k_X12_areJoinable l D G fu h a_pairs a_above a_sources a_targets a_labels a_lengths a_letters a_distances a_longest a_lengthsTo a_lengthsFrom a_path a_output a_found a_keptLabels a_keptPairs a_input a_sides a_sideLengths a_newLengths a_newLetters a_newSources a_newTargets a_newLabels a_word a_failed a_sizes a_arrays a_savedLengths a_savedSources a_savedTargets a_savedLabels a_savedSideLengths a_savedLetters a_savedSides a_savedPairs r_distances objects steps firstStep secondStep pathLength outputLength foundSteps inputLength rules newObjects newSteps wordSize hasSnapshot savedObjects savedSteps savedRules distances (targets v1.toNatClampNeg) (targets v2.toNatClampNeg) r_54 hr_54) (cwV 2 hts gX12_isLocallyConfluent_X12_areJoinable rfl rfl rfl (by decide +kernel) ⟨Nat.le_of_ble_eq_true rfl, Nat.le_of_ble_eq_true rfl⟩) hE hP hN rfl (by decide) 0 rfl rfl rfl hl.1 (Nat.le_of_ble_eq_true rfl) dX12_isLocallyConfluent_54 ⟨Nat.zero_le _, Nat.zero_le _⟩) hP hN hS rfl (fun H locs hP hS => ?_)
              refine lv_if_ne (tgt := 62) hx hb dX12_isLocallyConfluent_57 (by decide) (fun c_57 => ?_) (fun c_57 => ?_)
              · have hf := it_pos c_57 hf
                exact J62 v2  H locs ls  hP hS (lv_sub hl [0, 1, 2] rfl) hf
              · have hf := it_neg (fun h => h c_57) hf
                refine lv_iconst (v := 0) hx hb dX12_isLocallyConfluent_60 (by decide) ?_
                have hf := Option.some.inj hf
                rewrite [← hQ, ← hf]
                exact x_iret hx hb hr hlocks hP hS dX12_isLocallyConfluent_61
      refine lv_iload_n hx hb dX12_isLocallyConfluent_6 rfl (lv_at hl 1 rfl) ?_
      refine lv_aload_n hx hb dX12_isLocallyConfluent_7 rfl (lv_at hl 0 rfl) ?_
      refine x_get hx hb hts u_X12_isLocallyConfluent_X12 hown hE hP 0 rfl rfl 3 (by decide) (hts (.fieldLink RX12 135 "DecreasingDiagramsModel" "steps" "I") (List.mem_of_getElem? (i := 1) rfl)) rfl dX12_isLocallyConfluent_8 ?_
      refine lv_icmp_ge (tgt := 74) hx hb dX12_isLocallyConfluent_11 (by decide) (fun c_11 => ?_) (fun c_11 => ?_)
      · have hf := it_pos c_11 hf
        refine lv_iconst (v := 1) hx hb dX12_isLocallyConfluent_74 (by decide) ?_
        have hf := Option.some.inj hf
        rewrite [← hQ, ← hf]
        exact x_iret hx hb hr hlocks hP hS dX12_isLocallyConfluent_75
      · have hf := it_neg c_11 hf
        refine lv_iload_n hx hb dX12_isLocallyConfluent_14 rfl (lv_at hl 1 rfl) ?_
        refine lv_iconst (v := 1) hx hb dX12_isLocallyConfluent_15 (by decide) ?_
        refine lv_iadd hx hb dX12_isLocallyConfluent_16 ?_
        obtain ⟨v2_17, e_v2_17, hf⟩ := lt_some hf
        refine x_istore_n (v := v2_17) (lv' := [(2, .int v2_17), (0, .ref h), (1, .int v1)]) hx hb dX12_isLocallyConfluent_17 e_v2_17 rfl hl (by decide) rfl (fun ls hl => ?_)
        exact L18 v1   fu v2_17 H locs ls hP hS (lv_sub hl [1, 2, 0] rfl) hf
  refine lv_aload_n hx hb dX12_isLocallyConfluent_0 rfl (lv_at hl 0 rfl) ?_
  obtain ⟨r_1, hr_1, hf⟩ := bd_some hf
  refine x_gov (ps := [0, 1, 2, 3, 4]) (qs := []) (n := 5) (I' := [[(h, .inr (11, [.ref a_pairs, .ref a_above, .int objects, .int steps, .ref a_sources, .ref a_targets, .ref a_labels, .ref a_lengths, .ref a_letters, .ref a_distances, .ref a_longest, .int firstStep, .int secondStep, .ref a_lengthsTo, .ref a_lengthsFrom, .ref a_path, .int pathLength, .ref a_output, .int outputLength, .ref a_found, .int foundSteps, .ref a_keptLabels, .ref a_keptPairs, .ref a_input, .int inputLength, .int rules, .ref a_sides, .ref a_sideLengths, .int newObjects, .int newSteps, .ref a_newLengths, .ref a_newLetters, .ref a_newSources, .ref a_newTargets, .ref a_newLabels, .ref a_word, .int wordSize, .ref a_failed, .ref a_sizes, .ref a_arrays, .int hasSnapshot, .int savedObjects, .int savedSteps, .int savedRules, .ref a_savedLengths, .ref a_savedSources, .ref a_savedTargets, .ref a_savedLabels, .ref a_savedSideLengths, .ref a_savedLetters, .ref a_savedSides, .ref a_savedPairs]))], [gO (G 4) a_distances r_distances 16], gI (G 0) r_distances 16 16 r_1, [(a_sources, .inl (G 0, 32, .inl sources))], [(a_targets, .inl (G 0, 32, .inl targets))]]) (x_runV (As := []) (rest := []) (ps := [0, 1, 2, 3, 4]) ⟨hx, hb, hml, hown, hts⟩ (k_X12_findDistances l D G fu h a_pairs a_above a_sources a_targets a_labels a_lengths a_letters a_distances a_longest a_lengthsTo a_lengthsFrom a_path a_output a_found a_keptLabels a_keptPairs a_input a_sides a_sideLengths a_newLengths a_newLetters a_newSources a_newTargets a_newLabels a_word a_failed a_sizes a_arrays a_savedLengths a_savedSources a_savedTargets a_savedLabels a_savedSideLengths a_savedLetters a_savedSides a_savedPairs r_distances objects steps firstStep secondStep pathLength outputLength foundSteps inputLength rules newObjects newSteps wordSize hasSnapshot savedObjects savedSteps savedRules distances sources targets r_1 hr_1) (cwV 0 hts gX12_isLocallyConfluent_X12_findDistances rfl rfl rfl (by decide +kernel) ⟨Nat.le_of_ble_eq_true rfl, Nat.le_of_ble_eq_true rfl⟩) hE hP hN rfl (by decide) 0 rfl rfl rfl hl.1 (Nat.le_of_ble_eq_true rfl) dX12_isLocallyConfluent_1 ⟨Nat.zero_le _, Nat.zero_le _⟩) hP hN hS rfl rfl rfl rfl rfl (by decide) (fun H locs hP hS => ?_)
  refine lv_iconst (v := 0) hx hb dX12_isLocallyConfluent_4 (by decide) ?_
  obtain ⟨v1_5, e_v1_5, hf⟩ := lt_some hf
  refine x_istore_n (v := v1_5) (lv' := [(1, .int v1_5), (0, .ref h)]) hx hb dX12_isLocallyConfluent_5 e_v1_5 rfl hl (by decide) rfl (fun ls hl => ?_)
  exact L6 r_1   fu v1_5 H locs ls hP hS (lv_sub hl [1, 0] rfl) hf

set_option maxRecDepth 20000 in
theorem u_X12_isNormal_X12 : ∀ w ∈ wsX120, w ∈ wsX12_isNormal := xx_pl _ [3, 4, 5, 6, 7, 8, 9, 10, 11, 12, 13, 14, 15, 16, 17, 18, 19, 20, 21, 22, 23, 24, 25, 26, 27, 28, 29, 30, 31, 32, 33, 34, 35, 36, 37, 38, 39, 40, 41, 42, 43, 44, 45, 46, 47, 48, 49, 50, 51, 52, 53, 54] (by decide +kernel)
def f_X12_isNormal_L2 (steps : Int32) (sources : (Nat → Int32)) (v1 : Int32) (rec_2 : Int32 → Option (Int32)) (v2 : Int32) : Option (Int32) :=
  if steps ≤ v2 then (some 1) else (ck v2 32 (if ¬ (sources v2.toNatClampNeg) = v1 then (lt (v2 + 1) (fun v2_22 => rec_2 v2_22)) else (some 0)))
def f_X12_isNormal (fu : Nat) (steps : Int32) (sources : (Nat → Int32)) (v1 : Int32) : Option (Int32) :=
  lt (0 : Int32) (fun v2_1 => lp (τ := Int32 → Option (Int32)) (fun _ => none) (f_X12_isNormal_L2 steps sources v1) fu v2_1)
set_option maxHeartbeats 4000000 in
set_option maxRecDepth 100000 in
theorem k_X12_isNormal (l : Launch) (D : va_G) (G : Nat → ClassId) (fu : Nat) (h : Nat) (a_pairs : Nat) (a_above : Nat) (a_sources : Nat) (a_targets : Nat) (a_labels : Nat) (a_lengths : Nat) (a_letters : Nat) (a_distances : Nat) (a_longest : Nat) (a_lengthsTo : Nat) (a_lengthsFrom : Nat) (a_path : Nat) (a_output : Nat) (a_found : Nat) (a_keptLabels : Nat) (a_keptPairs : Nat) (a_input : Nat) (a_sides : Nat) (a_sideLengths : Nat) (a_newLengths : Nat) (a_newLetters : Nat) (a_newSources : Nat) (a_newTargets : Nat) (a_newLabels : Nat) (a_word : Nat) (a_failed : Nat) (a_sizes : Nat) (a_arrays : Nat) (a_savedLengths : Nat) (a_savedSources : Nat) (a_savedTargets : Nat) (a_savedLabels : Nat) (a_savedSideLengths : Nat) (a_savedLetters : Nat) (a_savedSides : Nat) (a_savedPairs : Nat) (objects : Int32) (steps : Int32) (firstStep : Int32) (secondStep : Int32) (pathLength : Int32) (outputLength : Int32) (foundSteps : Int32) (inputLength : Int32) (rules : Int32) (newObjects : Int32) (newSteps : Int32) (wordSize : Int32) (hasSnapshot : Int32) (savedObjects : Int32) (savedSteps : Int32) (savedRules : Int32) (sources : (Nat → Int32))  (v1 : Int32) (out : Int32) (hf : f_X12_isNormal fu steps sources v1 = some out) : xMet l yX12_isNormal wsX12_isNormal (rM 0 0) D G [.ref h, .int v1] [[(h, .inr (11, [.ref a_pairs, .ref a_above, .int objects, .int steps, .ref a_sources, .ref a_targets, .ref a_labels, .ref a_lengths, .ref a_letters, .ref a_distances, .ref a_longest, .int firstStep, .int secondStep, .ref a_lengthsTo, .ref a_lengthsFrom, .ref a_path, .int pathLength, .ref a_output, .int outputLength, .ref a_found, .int foundSteps, .ref a_keptLabels, .ref a_keptPairs, .ref a_input, .int inputLength, .int rules, .ref a_sides, .ref a_sideLengths, .int newObjects, .int newSteps, .ref a_newLengths, .ref a_newLetters, .ref a_newSources, .ref a_newTargets, .ref a_newLabels, .ref a_word, .int wordSize, .ref a_failed, .ref a_sizes, .ref a_arrays, .int hasSnapshot, .int savedObjects, .int savedSteps, .int savedRules, .ref a_savedLengths, .ref a_savedSources, .ref a_savedTargets, .ref a_savedLabels, .ref a_savedSideLengths, .ref a_savedLetters, .ref a_savedSides, .ref a_savedPairs]))], [(a_sources, .inl (G 0, 32, .inl sources))]] (xQi D [[(h, .inr (11, [.ref a_pairs, .ref a_above, .int objects, .int steps, .ref a_sources, .ref a_targets, .ref a_labels, .ref a_lengths, .ref a_letters, .ref a_distances, .ref a_longest, .int firstStep, .int secondStep, .ref a_lengthsTo, .ref a_lengthsFrom, .ref a_path, .int pathLength, .ref a_output, .int outputLength, .ref a_found, .int foundSteps, .ref a_keptLabels, .ref a_keptPairs, .ref a_input, .int inputLength, .int rules, .ref a_sides, .ref a_sideLengths, .int newObjects, .int newSteps, .ref a_newLengths, .ref a_newLetters, .ref a_newSources, .ref a_newTargets, .ref a_newLabels, .ref a_word, .int wordSize, .ref a_failed, .ref a_sizes, .ref a_arrays, .int hasSnapshot, .int savedObjects, .int savedSteps, .int savedRules, .ref a_savedLengths, .ref a_savedSources, .ref a_savedTargets, .ref a_savedLabels, .ref a_savedSideLengths, .ref a_savedLetters, .ref a_savedSides, .ref a_savedPairs]))], [(a_sources, .inl (G 0, 32, .inl sources))]] out) := by
  refine x_ent (cc := cX12_isNormal) (maxL := 3) (by decide) rfl (Nat.le_of_ble_eq_true rfl) ?_
  intro p e s m blw meth c aa ls args Q H locs hQ hx hb hr hml hown hts hlocks hE hN hl hP hS
  have hown : s.vm.findClass RX12 = some m.cls := hown
  have hl : lv_has ls 3 [(0, .ref h), (1, .int v1)] := hl
  have L2 : ∀ (n_2 : Nat) (v2 : Int32) (H : Heap) (locs : List Loc) (ls : Array Slot), xW D aa [[(h, .inr (11, [.ref a_pairs, .ref a_above, .int objects, .int steps, .ref a_sources, .ref a_targets, .ref a_labels, .ref a_lengths, .ref a_letters, .ref a_distances, .ref a_longest, .int firstStep, .int secondStep, .ref a_lengthsTo, .ref a_lengthsFrom, .ref a_path, .int pathLength, .ref a_output, .int outputLength, .ref a_found, .int foundSteps, .ref a_keptLabels, .ref a_keptPairs, .ref a_input, .int inputLength, .int rules, .ref a_sides, .ref a_sideLengths, .int newObjects, .int newSteps, .ref a_newLengths, .ref a_newLetters, .ref a_newSources, .ref a_newTargets, .ref a_newLabels, .ref a_word, .int wordSize, .ref a_failed, .ref a_sizes, .ref a_arrays, .int hasSnapshot, .int savedObjects, .int savedSteps, .int savedRules, .ref a_savedLengths, .ref a_savedSources, .ref a_savedTargets, .ref a_savedLabels, .ref a_savedSideLengths, .ref a_savedLetters, .ref a_savedSides, .ref a_savedPairs]))], [(a_sources, .inl (G 0, 32, .inl sources))]] H → va_S (xA aa) s.heap H locs → lv_has ls 3 [(0, .ref h), (1, .int v1), (2, .int v2)] → lp (τ := Int32 → Option (Int32)) (fun _ => none) (f_X12_isNormal_L2 steps sources v1) n_2 v2 = some out → W p l e (rM 0 0) s m args blw meth c H locs 0 0 Q (F0 m 2 ls []) := by
    intro    n_2
    induction n_2 with
    | zero =>
      intro v2 H locs ls hP hS hl hf
      exact no_some hf
    | succ n_2 ih_2 =>
      intro v2 H locs ls hP hS hl hf
      have hf : f_X12_isNormal_L2 steps sources v1 (lp (τ := Int32 → Option (Int32)) (fun _ => none) (f_X12_isNormal_L2 steps sources v1) n_2) v2 = some out := hf
      refine lv_iload_n hx hb dX12_isNormal_2 rfl (lv_at hl 2 rfl) ?_
      refine lv_aload_n hx hb dX12_isNormal_3 rfl (lv_at hl 0 rfl) ?_
      refine x_get hx hb hts u_X12_isNormal_X12 hown hE hP 0 rfl rfl 3 (by decide) (hts (.fieldLink RX12 135 "DecreasingDiagramsModel" "steps" "I") (List.mem_of_getElem? (i := 1) rfl)) rfl dX12_isNormal_4 ?_
      refine lv_icmp_ge (tgt := 28) hx hb dX12_isNormal_7 (by decide) (fun c_7 => ?_) (fun c_7 => ?_)
      · have hf := it_pos c_7 hf
        refine lv_iconst (v := 1) hx hb dX12_isNormal_28 (by decide) ?_
        have hf := Option.some.inj hf
        rewrite [← hQ, ← hf]
        exact x_zret (r := 1) hx hb hr hlocks rfl hP hS dX12_isNormal_29
      · have hf := it_neg c_7 hf
        refine lv_aload_n hx hb dX12_isNormal_10 rfl (lv_at hl 0 rfl) ?_
        refine x_get hx hb hts u_X12_isNormal_X12 hown hE hP 0 rfl rfl 4 (by decide) (hts (.fieldLink RX12 17 "DecreasingDiagramsModel" "sources" "[I") (List.mem_of_getElem? (i := 2) rfl)) rfl dX12_isNormal_11 ?_
        refine lv_iload_n hx hb dX12_isNormal_14 rfl (lv_at hl 2 rfl) ?_
        obtain ⟨hi, hf⟩ := ck_some hf
        refine x_iald hx hb hE hP 1 rfl hi dX12_isNormal_15 ?_
        refine lv_iload_n hx hb dX12_isNormal_16 rfl (lv_at hl 1 rfl) ?_
        refine lv_icmp_ne (tgt := 22) hx hb dX12_isNormal_17 (by decide) (fun c_17 => ?_) (fun c_17 => ?_)
        · have hf := it_pos c_17 hf
          obtain ⟨v2_22, e_v2_22, hf⟩ := lt_some hf
          refine lv_iinc (v := v2_22) (lv' := [(2, .int v2_22), (0, .ref h), (1, .int v1)]) hx hb dX12_isNormal_22 hl (k := 2) rfl (by rw [e_v2_22]; rfl) (by decide) rfl (fun ls hl => ?_)
          refine lv_goto (tgt := 2) hx hb dX12_isNormal_25 (by decide) ?_
          exact ih_2 v2_22 H locs ls hP hS (lv_sub hl [1, 2, 0] rfl) hf
        · have hf := it_neg (fun h => h c_17) hf
          refine lv_iconst (v := 0) hx hb dX12_isNormal_20 (by decide) ?_
          have hf := Option.some.inj hf
          rewrite [← hQ, ← hf]
          exact x_zret (r := 0) hx hb hr hlocks rfl hP hS dX12_isNormal_21
  refine lv_iconst (v := 0) hx hb dX12_isNormal_0 (by decide) ?_
  obtain ⟨v2_1, e_v2_1, hf⟩ := lt_some hf
  refine x_istore_n (v := v2_1) (lv' := [(2, .int v2_1), (0, .ref h), (1, .int v1)]) hx hb dX12_isNormal_1 e_v2_1 rfl hl (by decide) rfl (fun ls hl => ?_)
  exact L2    fu v2_1 H locs ls hP hS (lv_sub hl [1, 2, 0] rfl) hf

set_option maxRecDepth 20000 in
theorem u_X12_isOnCycle_X12 : ∀ w ∈ wsX120, w ∈ wsX12_isOnCycle := xx_pl _ [5, 6, 7, 8, 9, 10, 11, 12, 13, 14, 15, 16, 17, 18, 19, 20, 21, 22, 23, 24, 25, 26, 27, 28, 29, 30, 31, 32, 33, 34, 35, 36, 37, 38, 39, 40, 41, 42, 43, 44, 45, 46, 47, 48, 49, 50, 51, 52, 53, 54, 55, 56] (by decide +kernel)
def f_X12_isOnCycle_J41 (rec_2 : (Int32 → Option (Int32))) (v2 : Int32) : Option (Int32) :=
  lt (v2 + 1) (fun v2_41 => rec_2 v2_41)
def f_X12_isOnCycle_L2 (steps : Int32) (distances : (Nat → Nat → Int32)) (sources : (Nat → Int32)) (targets : (Nat → Int32)) (v1 : Int32) (rec_2 : Int32 → Option (Int32)) (v2 : Int32) : Option (Int32) :=
  if steps ≤ v2 then (some 0) else (ck v2 32 (if ¬ (sources v2.toNatClampNeg) = v1 then (f_X12_isOnCycle_J41 rec_2 v2) else (ck v2 32 (ck (targets v2.toNatClampNeg) 16 (ck v1 16 (if 1000 ≤ (distances (targets v2.toNatClampNeg).toNatClampNeg v1.toNatClampNeg) then (f_X12_isOnCycle_J41 rec_2 v2) else (some 1)))))))
def f_X12_isOnCycle (fu : Nat) (steps : Int32) (distances : (Nat → Nat → Int32)) (sources : (Nat → Int32)) (targets : (Nat → Int32)) (v1 : Int32) : Option (Int32) :=
  lt (0 : Int32) (fun v2_1 => lp (τ := Int32 → Option (Int32)) (fun _ => none) (f_X12_isOnCycle_L2 steps distances sources targets v1) fu v2_1)
set_option maxHeartbeats 4000000 in
set_option maxRecDepth 100000 in
theorem k_X12_isOnCycle (l : Launch) (D : va_G) (G : Nat → ClassId) (fu : Nat) (h : Nat) (a_pairs : Nat) (a_above : Nat) (a_sources : Nat) (a_targets : Nat) (a_labels : Nat) (a_lengths : Nat) (a_letters : Nat) (a_distances : Nat) (a_longest : Nat) (a_lengthsTo : Nat) (a_lengthsFrom : Nat) (a_path : Nat) (a_output : Nat) (a_found : Nat) (a_keptLabels : Nat) (a_keptPairs : Nat) (a_input : Nat) (a_sides : Nat) (a_sideLengths : Nat) (a_newLengths : Nat) (a_newLetters : Nat) (a_newSources : Nat) (a_newTargets : Nat) (a_newLabels : Nat) (a_word : Nat) (a_failed : Nat) (a_sizes : Nat) (a_arrays : Nat) (a_savedLengths : Nat) (a_savedSources : Nat) (a_savedTargets : Nat) (a_savedLabels : Nat) (a_savedSideLengths : Nat) (a_savedLetters : Nat) (a_savedSides : Nat) (a_savedPairs : Nat) (r_distances : Nat → Nat) (objects : Int32) (steps : Int32) (firstStep : Int32) (secondStep : Int32) (pathLength : Int32) (outputLength : Int32) (foundSteps : Int32) (inputLength : Int32) (rules : Int32) (newObjects : Int32) (newSteps : Int32) (wordSize : Int32) (hasSnapshot : Int32) (savedObjects : Int32) (savedSteps : Int32) (savedRules : Int32) (distances : (Nat → Nat → Int32)) (sources : (Nat → Int32)) (targets : (Nat → Int32))  (v1 : Int32) (out : Int32) (hf : f_X12_isOnCycle fu steps distances sources targets v1 = some out) : xMet l yX12_isOnCycle wsX12_isOnCycle (rM 0 0) D G [.ref h, .int v1] [[(h, .inr (11, [.ref a_pairs, .ref a_above, .int objects, .int steps, .ref a_sources, .ref a_targets, .ref a_labels, .ref a_lengths, .ref a_letters, .ref a_distances, .ref a_longest, .int firstStep, .int secondStep, .ref a_lengthsTo, .ref a_lengthsFrom, .ref a_path, .int pathLength, .ref a_output, .int outputLength, .ref a_found, .int foundSteps, .ref a_keptLabels, .ref a_keptPairs, .ref a_input, .int inputLength, .int rules, .ref a_sides, .ref a_sideLengths, .int newObjects, .int newSteps, .ref a_newLengths, .ref a_newLetters, .ref a_newSources, .ref a_newTargets, .ref a_newLabels, .ref a_word, .int wordSize, .ref a_failed, .ref a_sizes, .ref a_arrays, .int hasSnapshot, .int savedObjects, .int savedSteps, .int savedRules, .ref a_savedLengths, .ref a_savedSources, .ref a_savedTargets, .ref a_savedLabels, .ref a_savedSideLengths, .ref a_savedLetters, .ref a_savedSides, .ref a_savedPairs]))], [gO (G 4) a_distances r_distances 16], gI (G 0) r_distances 16 16 distances, [(a_sources, .inl (G 0, 32, .inl sources))], [(a_targets, .inl (G 0, 32, .inl targets))]] (xQi D [[(h, .inr (11, [.ref a_pairs, .ref a_above, .int objects, .int steps, .ref a_sources, .ref a_targets, .ref a_labels, .ref a_lengths, .ref a_letters, .ref a_distances, .ref a_longest, .int firstStep, .int secondStep, .ref a_lengthsTo, .ref a_lengthsFrom, .ref a_path, .int pathLength, .ref a_output, .int outputLength, .ref a_found, .int foundSteps, .ref a_keptLabels, .ref a_keptPairs, .ref a_input, .int inputLength, .int rules, .ref a_sides, .ref a_sideLengths, .int newObjects, .int newSteps, .ref a_newLengths, .ref a_newLetters, .ref a_newSources, .ref a_newTargets, .ref a_newLabels, .ref a_word, .int wordSize, .ref a_failed, .ref a_sizes, .ref a_arrays, .int hasSnapshot, .int savedObjects, .int savedSteps, .int savedRules, .ref a_savedLengths, .ref a_savedSources, .ref a_savedTargets, .ref a_savedLabels, .ref a_savedSideLengths, .ref a_savedLetters, .ref a_savedSides, .ref a_savedPairs]))], [gO (G 4) a_distances r_distances 16], gI (G 0) r_distances 16 16 distances, [(a_sources, .inl (G 0, 32, .inl sources))], [(a_targets, .inl (G 0, 32, .inl targets))]] out) := by
  refine x_ent (cc := cX12_isOnCycle) (maxL := 3) (by decide) rfl (Nat.le_of_ble_eq_true rfl) ?_
  intro p e s m blw meth c aa ls args Q H locs hQ hx hb hr hml hown hts hlocks hE hN hl hP hS
  have hown : s.vm.findClass RX12 = some m.cls := hown
  have hl : lv_has ls 3 [(0, .ref h), (1, .int v1)] := hl
  have L2 : ∀ (n_2 : Nat) (v2 : Int32) (H : Heap) (locs : List Loc) (ls : Array Slot), xW D aa [[(h, .inr (11, [.ref a_pairs, .ref a_above, .int objects, .int steps, .ref a_sources, .ref a_targets, .ref a_labels, .ref a_lengths, .ref a_letters, .ref a_distances, .ref a_longest, .int firstStep, .int secondStep, .ref a_lengthsTo, .ref a_lengthsFrom, .ref a_path, .int pathLength, .ref a_output, .int outputLength, .ref a_found, .int foundSteps, .ref a_keptLabels, .ref a_keptPairs, .ref a_input, .int inputLength, .int rules, .ref a_sides, .ref a_sideLengths, .int newObjects, .int newSteps, .ref a_newLengths, .ref a_newLetters, .ref a_newSources, .ref a_newTargets, .ref a_newLabels, .ref a_word, .int wordSize, .ref a_failed, .ref a_sizes, .ref a_arrays, .int hasSnapshot, .int savedObjects, .int savedSteps, .int savedRules, .ref a_savedLengths, .ref a_savedSources, .ref a_savedTargets, .ref a_savedLabels, .ref a_savedSideLengths, .ref a_savedLetters, .ref a_savedSides, .ref a_savedPairs]))], [gO (G 4) a_distances r_distances 16], gI (G 0) r_distances 16 16 distances, [(a_sources, .inl (G 0, 32, .inl sources))], [(a_targets, .inl (G 0, 32, .inl targets))]] H → va_S (xA aa) s.heap H locs → lv_has ls 3 [(0, .ref h), (1, .int v1), (2, .int v2)] → lp (τ := Int32 → Option (Int32)) (fun _ => none) (f_X12_isOnCycle_L2 steps distances sources targets v1) n_2 v2 = some out → W p l e (rM 0 0) s m args blw meth c H locs 0 0 Q (F0 m 2 ls []) := by
    intro    n_2
    induction n_2 with
    | zero =>
      intro v2 H locs ls hP hS hl hf
      exact no_some hf
    | succ n_2 ih_2 =>
      intro v2 H locs ls hP hS hl hf
      have hf : f_X12_isOnCycle_L2 steps distances sources targets v1 (lp (τ := Int32 → Option (Int32)) (fun _ => none) (f_X12_isOnCycle_L2 steps distances sources targets v1) n_2) v2 = some out := hf
      have J41 : ∀ (v2 : Int32) (H : Heap) (locs : List Loc) (ls : Array Slot), xW D aa [[(h, .inr (11, [.ref a_pairs, .ref a_above, .int objects, .int steps, .ref a_sources, .ref a_targets, .ref a_labels, .ref a_lengths, .ref a_letters, .ref a_distances, .ref a_longest, .int firstStep, .int secondStep, .ref a_lengthsTo, .ref a_lengthsFrom, .ref a_path, .int pathLength, .ref a_output, .int outputLength, .ref a_found, .int foundSteps, .ref a_keptLabels, .ref a_keptPairs, .ref a_input, .int inputLength, .int rules, .ref a_sides, .ref a_sideLengths, .int newObjects, .int newSteps, .ref a_newLengths, .ref a_newLetters, .ref a_newSources, .ref a_newTargets, .ref a_newLabels, .ref a_word, .int wordSize, .ref a_failed, .ref a_sizes, .ref a_arrays, .int hasSnapshot, .int savedObjects, .int savedSteps, .int savedRules, .ref a_savedLengths, .ref a_savedSources, .ref a_savedTargets, .ref a_savedLabels, .ref a_savedSideLengths, .ref a_savedLetters, .ref a_savedSides, .ref a_savedPairs]))], [gO (G 4) a_distances r_distances 16], gI (G 0) r_distances 16 16 distances, [(a_sources, .inl (G 0, 32, .inl sources))], [(a_targets, .inl (G 0, 32, .inl targets))]] H → va_S (xA aa) s.heap H locs → lv_has ls 3 [(0, .ref h), (1, .int v1), (2, .int v2)] → f_X12_isOnCycle_J41 (lp (τ := Int32 → Option (Int32)) (fun _ => none) (f_X12_isOnCycle_L2 steps distances sources targets v1) n_2) v2 = some out → W p l e (rM 0 0) s m args blw meth c H locs 0 0 Q (F0 m 41 ls []) := by
        intro v2  H locs ls  hP hS hl hf
        obtain ⟨v2_41, e_v2_41, hf⟩ := lt_some hf
        refine lv_iinc (v := v2_41) (lv' := [(2, .int v2_41), (0, .ref h), (1, .int v1)]) hx hb dX12_isOnCycle_41 hl (k := 2) rfl (by rw [e_v2_41]; rfl) (by decide) rfl (fun ls hl => ?_)
        refine lv_goto (tgt := 2) hx hb dX12_isOnCycle_44 (by decide) ?_
        exact ih_2 v2_41 H locs ls hP hS (lv_sub hl [1, 2, 0] rfl) hf
      refine lv_iload_n hx hb dX12_isOnCycle_2 rfl (lv_at hl 2 rfl) ?_
      refine lv_aload_n hx hb dX12_isOnCycle_3 rfl (lv_at hl 0 rfl) ?_
      refine x_get hx hb hts u_X12_isOnCycle_X12 hown hE hP 0 rfl rfl 3 (by decide) (hts (.fieldLink RX12 135 "DecreasingDiagramsModel" "steps" "I") (List.mem_of_getElem? (i := 1) rfl)) rfl dX12_isOnCycle_4 ?_
      refine lv_icmp_ge (tgt := 47) hx hb dX12_isOnCycle_7 (by decide) (fun c_7 => ?_) (fun c_7 => ?_)
      · have hf := it_pos c_7 hf
        refine lv_iconst (v := 0) hx hb dX12_isOnCycle_47 (by decide) ?_
        have hf := Option.some.inj hf
        rewrite [← hQ, ← hf]
        exact x_zret (r := 0) hx hb hr hlocks rfl hP hS dX12_isOnCycle_48
      · have hf := it_neg c_7 hf
        refine lv_aload_n hx hb dX12_isOnCycle_10 rfl (lv_at hl 0 rfl) ?_
        refine x_get hx hb hts u_X12_isOnCycle_X12 hown hE hP 0 rfl rfl 4 (by decide) (hts (.fieldLink RX12 17 "DecreasingDiagramsModel" "sources" "[I") (List.mem_of_getElem? (i := 2) rfl)) rfl dX12_isOnCycle_11 ?_
        refine lv_iload_n hx hb dX12_isOnCycle_14 rfl (lv_at hl 2 rfl) ?_
        obtain ⟨hi, hf⟩ := ck_some hf
        refine x_iald hx hb hE hP 3 rfl hi dX12_isOnCycle_15 ?_
        refine lv_iload_n hx hb dX12_isOnCycle_16 rfl (lv_at hl 1 rfl) ?_
        refine lv_icmp_ne (tgt := 41) hx hb dX12_isOnCycle_17 (by decide) (fun c_17 => ?_) (fun c_17 => ?_)
        · have hf := it_pos c_17 hf
          exact J41 v2  H locs ls  hP hS (lv_sub hl [0, 1, 2] rfl) hf
        · have hf := it_neg (fun h => h c_17) hf
          refine lv_aload_n hx hb dX12_isOnCycle_20 rfl (lv_at hl 0 rfl) ?_
          refine x_get hx hb hts u_X12_isOnCycle_X12 hown hE hP 0 rfl rfl 9 (by decide) (hts (.fieldLink RX12 35 "DecreasingDiagramsModel" "distances" "[[I") (List.mem_of_getElem? (i := 3) rfl)) rfl dX12_isOnCycle_21 ?_
          refine lv_aload_n hx hb dX12_isOnCycle_24 rfl (lv_at hl 0 rfl) ?_
          refine x_get hx hb hts u_X12_isOnCycle_X12 hown hE hP 0 rfl rfl 5 (by decide) (hts (.fieldLink RX12 21 "DecreasingDiagramsModel" "targets" "[I") (List.mem_of_getElem? (i := 4) rfl)) rfl dX12_isOnCycle_25 ?_
          refine lv_iload_n hx hb dX12_isOnCycle_28 rfl (lv_at hl 2 rfl) ?_
          obtain ⟨hi, hf⟩ := ck_some hf
          refine x_iald hx hb hE hP 4 rfl hi dX12_isOnCycle_29 ?_
          obtain ⟨hq_30, hf⟩ := ck_some hf
          refine x_aald hx hb hE hP 1 4 rfl rfl hq_30 dX12_isOnCycle_30 ?_
          refine lv_iload_n hx hb dX12_isOnCycle_31 rfl (lv_at hl 1 rfl) ?_
          obtain ⟨hi, hf⟩ := ck_some hf
          refine x_iald2 hx hb hE hP 2 rfl hq_30 hi dX12_isOnCycle_32 ?_
          refine lv_sipush (v := 1000) hx hb dX12_isOnCycle_33 (by decide) ?_
          refine lv_icmp_ge (tgt := 41) hx hb dX12_isOnCycle_36 (by decide) (fun c_36 => ?_) (fun c_36 => ?_)
          · have hf := it_pos c_36 hf
            exact J41 v2  H locs ls  hP hS (lv_sub hl [0, 1, 2] rfl) hf
          · have hf := it_neg c_36 hf
            refine lv_iconst (v := 1) hx hb dX12_isOnCycle_39 (by decide) ?_
            have hf := Option.some.inj hf
            rewrite [← hQ, ← hf]
            exact x_zret (r := 1) hx hb hr hlocks rfl hP hS dX12_isOnCycle_40
  refine lv_iconst (v := 0) hx hb dX12_isOnCycle_0 (by decide) ?_
  obtain ⟨v2_1, e_v2_1, hf⟩ := lt_some hf
  refine x_istore_n (v := v2_1) (lv' := [(2, .int v2_1), (0, .ref h), (1, .int v1)]) hx hb dX12_isOnCycle_1 e_v2_1 rfl hl (by decide) rfl (fun ls hl => ?_)
  exact L2    fu v2_1 H locs ls hP hS (lv_sub hl [1, 2, 0] rfl) hf

def f_X12_isSide (v0 : Int32) : Option (Int32) :=
  (f_X12_isBetween v0 0 1).bind (fun r_3 => ckb r_3 (some r_3))
set_option maxHeartbeats 4000000 in
set_option maxRecDepth 100000 in
theorem k_X12_isSide (l : Launch) (D : va_G) (G : Nat → ClassId) (fu : Nat)    (v0 : Int32) (out : Int32) (hf : f_X12_isSide v0 = some out) : xMet l yX12_isSide wsX12_isSide (rM 1 22) D G [.int v0] [] (xQi D [] out) := by
  refine x_ent (cc := cX12_isSide) (maxL := 1) (by decide) rfl (Nat.le_of_ble_eq_true rfl) ?_
  intro p e s m blw meth c aa ls args Q H locs hQ hx hb hr hml hown hts hlocks hE hN hl hP hS
  have hown : s.vm.findClass RX12 = some m.cls := hown
  have hl : lv_has ls 1 [(0, .int v0)] := hl
  refine lv_iload_n hx hb dX12_isSide_0 rfl (lv_at hl 0 rfl) ?_
  refine lv_iconst (v := 0) hx hb dX12_isSide_1 (by decide) ?_
  refine lv_iconst (v := 1) hx hb dX12_isSide_2 (by decide) ?_
  obtain ⟨r_3, hr_3, hf⟩ := bd_some hf
  refine x_goi0 (ps := []) (x_runS (As := [.int v0, .int 0, .int 1]) (rest := []) (ps := []) ⟨hx, hb, hml, hown, hts⟩ (k_X12_isBetween l D G fu v0 0 1 r_3 hr_3) (va_cwS 3 hts gX12_isSide_X12_isBetween rfl rfl rfl (by decide +kernel) ⟨Nat.le_of_ble_eq_true rfl, Nat.le_of_ble_eq_true rfl⟩) hE hP hN rfl (by decide) rfl hl.1 (Nat.le_of_ble_eq_true rfl) dX12_isSide_3 ⟨Nat.zero_le _, Nat.zero_le _⟩) hP hN hS rfl (fun H locs hP hS => ?_)
  obtain ⟨hz, hf⟩ := ckb_some hf
  have hf := Option.some.inj hf
  rewrite [← hQ, ← hf]
  exact x_zret (r := r_3) hx hb hr hlocks hz hP hS dX12_isSide_6

set_option maxRecDepth 20000 in
theorem u_X12_isStep_X12 : ∀ w ∈ wsX120, w ∈ wsX12_isStep := xx_pl _ [6, 7, 8, 9, 10, 11, 12, 13, 14, 15, 16, 17, 18, 19, 20, 21, 22, 23, 24, 25, 26, 27, 28, 29, 30, 31, 32, 33, 34, 35, 36, 37, 38, 39, 40, 41, 42, 43, 44, 45, 46, 47, 48, 49, 50, 51, 52, 53, 54, 55, 56, 57] (by decide +kernel)
def f_X12_isStep (steps : Int32) (v1 : Int32) : Option (Int32) :=
  (f_X12_isBetween v1 0 (steps - 1)).bind (fun r_8 => ckb r_8 (some r_8))
set_option maxHeartbeats 4000000 in
set_option maxRecDepth 100000 in
theorem k_X12_isStep (l : Launch) (D : va_G) (G : Nat → ClassId) (fu : Nat) (h : Nat) (a_pairs : Nat) (a_above : Nat) (a_sources : Nat) (a_targets : Nat) (a_labels : Nat) (a_lengths : Nat) (a_letters : Nat) (a_distances : Nat) (a_longest : Nat) (a_lengthsTo : Nat) (a_lengthsFrom : Nat) (a_path : Nat) (a_output : Nat) (a_found : Nat) (a_keptLabels : Nat) (a_keptPairs : Nat) (a_input : Nat) (a_sides : Nat) (a_sideLengths : Nat) (a_newLengths : Nat) (a_newLetters : Nat) (a_newSources : Nat) (a_newTargets : Nat) (a_newLabels : Nat) (a_word : Nat) (a_failed : Nat) (a_sizes : Nat) (a_arrays : Nat) (a_savedLengths : Nat) (a_savedSources : Nat) (a_savedTargets : Nat) (a_savedLabels : Nat) (a_savedSideLengths : Nat) (a_savedLetters : Nat) (a_savedSides : Nat) (a_savedPairs : Nat) (objects : Int32) (steps : Int32) (firstStep : Int32) (secondStep : Int32) (pathLength : Int32) (outputLength : Int32) (foundSteps : Int32) (inputLength : Int32) (rules : Int32) (newObjects : Int32) (newSteps : Int32) (wordSize : Int32) (hasSnapshot : Int32) (savedObjects : Int32) (savedSteps : Int32) (savedRules : Int32)  (v1 : Int32) (out : Int32) (hf : f_X12_isStep steps v1 = some out) : xMet l yX12_isStep wsX12_isStep (rM 1 22) D G [.ref h, .int v1] [[(h, .inr (11, [.ref a_pairs, .ref a_above, .int objects, .int steps, .ref a_sources, .ref a_targets, .ref a_labels, .ref a_lengths, .ref a_letters, .ref a_distances, .ref a_longest, .int firstStep, .int secondStep, .ref a_lengthsTo, .ref a_lengthsFrom, .ref a_path, .int pathLength, .ref a_output, .int outputLength, .ref a_found, .int foundSteps, .ref a_keptLabels, .ref a_keptPairs, .ref a_input, .int inputLength, .int rules, .ref a_sides, .ref a_sideLengths, .int newObjects, .int newSteps, .ref a_newLengths, .ref a_newLetters, .ref a_newSources, .ref a_newTargets, .ref a_newLabels, .ref a_word, .int wordSize, .ref a_failed, .ref a_sizes, .ref a_arrays, .int hasSnapshot, .int savedObjects, .int savedSteps, .int savedRules, .ref a_savedLengths, .ref a_savedSources, .ref a_savedTargets, .ref a_savedLabels, .ref a_savedSideLengths, .ref a_savedLetters, .ref a_savedSides, .ref a_savedPairs]))]] (xQi D [[(h, .inr (11, [.ref a_pairs, .ref a_above, .int objects, .int steps, .ref a_sources, .ref a_targets, .ref a_labels, .ref a_lengths, .ref a_letters, .ref a_distances, .ref a_longest, .int firstStep, .int secondStep, .ref a_lengthsTo, .ref a_lengthsFrom, .ref a_path, .int pathLength, .ref a_output, .int outputLength, .ref a_found, .int foundSteps, .ref a_keptLabels, .ref a_keptPairs, .ref a_input, .int inputLength, .int rules, .ref a_sides, .ref a_sideLengths, .int newObjects, .int newSteps, .ref a_newLengths, .ref a_newLetters, .ref a_newSources, .ref a_newTargets, .ref a_newLabels, .ref a_word, .int wordSize, .ref a_failed, .ref a_sizes, .ref a_arrays, .int hasSnapshot, .int savedObjects, .int savedSteps, .int savedRules, .ref a_savedLengths, .ref a_savedSources, .ref a_savedTargets, .ref a_savedLabels, .ref a_savedSideLengths, .ref a_savedLetters, .ref a_savedSides, .ref a_savedPairs]))]] out) := by
  refine x_ent (cc := cX12_isStep) (maxL := 2) (by decide) rfl (Nat.le_of_ble_eq_true rfl) ?_
  intro p e s m blw meth c aa ls args Q H locs hQ hx hb hr hml hown hts hlocks hE hN hl hP hS
  have hown : s.vm.findClass RX12 = some m.cls := hown
  have hl : lv_has ls 2 [(0, .ref h), (1, .int v1)] := hl
  refine lv_iload_n hx hb dX12_isStep_0 rfl (lv_at hl 1 rfl) ?_
  refine lv_iconst (v := 0) hx hb dX12_isStep_1 (by decide) ?_
  refine lv_aload_n hx hb dX12_isStep_2 rfl (lv_at hl 0 rfl) ?_
  refine x_get hx hb hts u_X12_isStep_X12 hown hE hP 0 rfl rfl 3 (by decide) (hts (.fieldLink RX12 135 "DecreasingDiagramsModel" "steps" "I") (List.mem_of_getElem? (i := 1) rfl)) rfl dX12_isStep_3 ?_
  refine lv_iconst (v := 1) hx hb dX12_isStep_6 (by decide) ?_
  refine lv_isub hx hb dX12_isStep_7 ?_
  obtain ⟨r_8, hr_8, hf⟩ := bd_some hf
  refine x_goi0 (ps := []) (x_runS (As := [.int v1, .int 0, .int (steps - 1)]) (rest := []) (ps := []) ⟨hx, hb, hml, hown, hts⟩ (k_X12_isBetween l D G fu v1 0 (steps - 1) r_8 hr_8) (va_cwS 3 hts gX12_isStep_X12_isBetween rfl rfl rfl (by decide +kernel) ⟨Nat.le_of_ble_eq_true rfl, Nat.le_of_ble_eq_true rfl⟩) hE hP hN rfl (by decide) rfl hl.1 (Nat.le_of_ble_eq_true rfl) dX12_isStep_8 ⟨Nat.zero_le _, Nat.zero_le _⟩) hP hN hS rfl (fun H locs hP hS => ?_)
  obtain ⟨hz, hf⟩ := ckb_some hf
  have hf := Option.some.inj hf
  rewrite [← hQ, ← hf]
  exact x_zret (r := r_8) hx hb hr hlocks hz hP hS dX12_isStep_11

set_option maxRecDepth 20000 in
theorem u_X12_isTerminating_X12 : ∀ w ∈ wsX120, w ∈ wsX12_isTerminating := xx_pl _ [15, 16, 17, 18, 19, 20, 21, 22, 23, 24, 25, 26, 27, 28, 29, 30, 31, 32, 33, 34, 35, 36, 37, 38, 39, 40, 41, 42, 43, 44, 45, 46, 47, 48, 49, 50, 51, 52, 53, 54, 55, 56, 57, 58, 59, 60, 61, 62, 63, 64, 65, 66] (by decide +kernel)
def f_X12_isTerminating_L6 (fu : Nat) (objects : Int32) (steps : Int32) (distances : (Nat → Nat → Int32)) (sources : (Nat → Int32)) (targets : (Nat → Int32)) (rec_6 : Int32 → Option (Int32 × (Nat → Nat → Int32))) (v1 : Int32) : Option (Int32 × (Nat → Nat → Int32)) :=
  if objects ≤ v1 then (some (1, distances)) else ((f_X12_isOnCycle fu steps distances sources targets v1).bind (fun r_16 => if r_16 = 0 then (lt (v1 + 1) (fun v1_24 => rec_6 v1_24)) else (some (0, distances))))
def f_X12_isTerminating (fu : Nat) (objects : Int32) (steps : Int32) (distances : (Nat → Nat → Int32)) (sources : (Nat → Int32)) (targets : (Nat → Int32)) : Option (Int32 × (Nat → Nat → Int32)) :=
  (f_X12_findDistances fu objects steps distances sources targets).bind (fun r_1 => lt (0 : Int32) (fun v1_5 => lp (τ := Int32 → Option (Int32 × (Nat → Nat → Int32))) (fun _ => none) (f_X12_isTerminating_L6 fu objects steps r_1 sources targets) fu v1_5))
set_option maxHeartbeats 4000000 in
set_option maxRecDepth 100000 in
theorem k_X12_isTerminating (l : Launch) (D : va_G) (G : Nat → ClassId) (fu : Nat) (h : Nat) (a_pairs : Nat) (a_above : Nat) (a_sources : Nat) (a_targets : Nat) (a_labels : Nat) (a_lengths : Nat) (a_letters : Nat) (a_distances : Nat) (a_longest : Nat) (a_lengthsTo : Nat) (a_lengthsFrom : Nat) (a_path : Nat) (a_output : Nat) (a_found : Nat) (a_keptLabels : Nat) (a_keptPairs : Nat) (a_input : Nat) (a_sides : Nat) (a_sideLengths : Nat) (a_newLengths : Nat) (a_newLetters : Nat) (a_newSources : Nat) (a_newTargets : Nat) (a_newLabels : Nat) (a_word : Nat) (a_failed : Nat) (a_sizes : Nat) (a_arrays : Nat) (a_savedLengths : Nat) (a_savedSources : Nat) (a_savedTargets : Nat) (a_savedLabels : Nat) (a_savedSideLengths : Nat) (a_savedLetters : Nat) (a_savedSides : Nat) (a_savedPairs : Nat) (r_distances : Nat → Nat) (objects : Int32) (steps : Int32) (firstStep : Int32) (secondStep : Int32) (pathLength : Int32) (outputLength : Int32) (foundSteps : Int32) (inputLength : Int32) (rules : Int32) (newObjects : Int32) (newSteps : Int32) (wordSize : Int32) (hasSnapshot : Int32) (savedObjects : Int32) (savedSteps : Int32) (savedRules : Int32) (distances : (Nat → Nat → Int32)) (sources : (Nat → Int32)) (targets : (Nat → Int32))   (out : Int32 × (Nat → Nat → Int32)) (hf : f_X12_isTerminating fu objects steps distances sources targets = some out) : xMet l yX12_isTerminating wsX12_isTerminating (rM 1 24) D G [.ref h] [[(h, .inr (11, [.ref a_pairs, .ref a_above, .int objects, .int steps, .ref a_sources, .ref a_targets, .ref a_labels, .ref a_lengths, .ref a_letters, .ref a_distances, .ref a_longest, .int firstStep, .int secondStep, .ref a_lengthsTo, .ref a_lengthsFrom, .ref a_path, .int pathLength, .ref a_output, .int outputLength, .ref a_found, .int foundSteps, .ref a_keptLabels, .ref a_keptPairs, .ref a_input, .int inputLength, .int rules, .ref a_sides, .ref a_sideLengths, .int newObjects, .int newSteps, .ref a_newLengths, .ref a_newLetters, .ref a_newSources, .ref a_newTargets, .ref a_newLabels, .ref a_word, .int wordSize, .ref a_failed, .ref a_sizes, .ref a_arrays, .int hasSnapshot, .int savedObjects, .int savedSteps, .int savedRules, .ref a_savedLengths, .ref a_savedSources, .ref a_savedTargets, .ref a_savedLabels, .ref a_savedSideLengths, .ref a_savedLetters, .ref a_savedSides, .ref a_savedPairs]))], [gO (G 4) a_distances r_distances 16], gI (G 0) r_distances 16 16 distances, [(a_sources, .inl (G 0, 32, .inl sources))], [(a_targets, .inl (G 0, 32, .inl targets))]] (xQi D [[(h, .inr (11, [.ref a_pairs, .ref a_above, .int objects, .int steps, .ref a_sources, .ref a_targets, .ref a_labels, .ref a_lengths, .ref a_letters, .ref a_distances, .ref a_longest, .int firstStep, .int secondStep, .ref a_lengthsTo, .ref a_lengthsFrom, .ref a_path, .int pathLength, .ref a_output, .int outputLength, .ref a_found, .int foundSteps, .ref a_keptLabels, .ref a_keptPairs, .ref a_input, .int inputLength, .int rules, .ref a_sides, .ref a_sideLengths, .int newObjects, .int newSteps, .ref a_newLengths, .ref a_newLetters, .ref a_newSources, .ref a_newTargets, .ref a_newLabels, .ref a_word, .int wordSize, .ref a_failed, .ref a_sizes, .ref a_arrays, .int hasSnapshot, .int savedObjects, .int savedSteps, .int savedRules, .ref a_savedLengths, .ref a_savedSources, .ref a_savedTargets, .ref a_savedLabels, .ref a_savedSideLengths, .ref a_savedLetters, .ref a_savedSides, .ref a_savedPairs]))], [gO (G 4) a_distances r_distances 16], gI (G 0) r_distances 16 16 out.2, [(a_sources, .inl (G 0, 32, .inl sources))], [(a_targets, .inl (G 0, 32, .inl targets))]] out.1) := by
  refine x_ent (cc := cX12_isTerminating) (maxL := 2) (by decide) rfl (Nat.le_of_ble_eq_true rfl) ?_
  intro p e s m blw meth c aa ls args Q H locs hQ hx hb hr hml hown hts hlocks hE hN hl hP hS
  have hown : s.vm.findClass RX12 = some m.cls := hown
  have hl : lv_has ls 2 [(0, .ref h)] := hl
  have L6 : ∀ (distances : (Nat → Nat → Int32)), ∀ (n_6 : Nat) (v1 : Int32) (H : Heap) (locs : List Loc) (ls : Array Slot), xW D aa [[(h, .inr (11, [.ref a_pairs, .ref a_above, .int objects, .int steps, .ref a_sources, .ref a_targets, .ref a_labels, .ref a_lengths, .ref a_letters, .ref a_distances, .ref a_longest, .int firstStep, .int secondStep, .ref a_lengthsTo, .ref a_lengthsFrom, .ref a_path, .int pathLength, .ref a_output, .int outputLength, .ref a_found, .int foundSteps, .ref a_keptLabels, .ref a_keptPairs, .ref a_input, .int inputLength, .int rules, .ref a_sides, .ref a_sideLengths, .int newObjects, .int newSteps, .ref a_newLengths, .ref a_newLetters, .ref a_newSources, .ref a_newTargets, .ref a_newLabels, .ref a_word, .int wordSize, .ref a_failed, .ref a_sizes, .ref a_arrays, .int hasSnapshot, .int savedObjects, .int savedSteps, .int savedRules, .ref a_savedLengths, .ref a_savedSources, .ref a_savedTargets, .ref a_savedLabels, .ref a_savedSideLengths, .ref a_savedLetters, .ref a_savedSides, .ref a_savedPairs]))], [gO (G 4) a_distances r_distances 16], gI (G 0) r_distances 16 16 distances, [(a_sources, .inl (G 0, 32, .inl sources))], [(a_targets, .inl (G 0, 32, .inl targets))]] H → va_S (xA aa) s.heap H locs → lv_has ls 2 [(0, .ref h), (1, .int v1)] → lp (τ := Int32 → Option (Int32 × (Nat → Nat → Int32))) (fun _ => none) (f_X12_isTerminating_L6 fu objects steps distances sources targets) n_6 v1 = some out → W p l e (rM 1 24) s m args blw meth c H locs 0 0 Q (F0 m 6 ls []) := by
    intro distances   n_6
    induction n_6 with
    | zero =>
      intro v1 H locs ls hP hS hl hf
      exact no_some hf
    | succ n_6 ih_6 =>
      intro v1 H locs ls hP hS hl hf
      have hf : f_X12_isTerminating_L6 fu objects steps distances sources targets (lp (τ := Int32 → Option (Int32 × (Nat → Nat → Int32))) (fun _ => none) (f_X12_isTerminating_L6 fu objects steps distances sources targets) n_6) v1 = some out := hf
      refine lv_iload_n hx hb dX12_isTerminating_6 rfl (lv_at hl 1 rfl) ?_
      refine lv_aload_n hx hb dX12_isTerminating_7 rfl (lv_at hl 0 rfl) ?_
      refine x_get hx hb hts u_X12_isTerminating_X12 hown hE hP 0 rfl rfl 2 (by decide) (hts (.fieldLink RX12 132 "DecreasingDiagramsModel" "objects" "I") (List.mem_of_getElem? (i := 1) rfl)) rfl dX12_isTerminating_8 ?_
      refine lv_icmp_ge (tgt := 30) hx hb dX12_isTerminating_11 (by decide) (fun c_11 => ?_) (fun c_11 => ?_)
      · have hf := it_pos c_11 hf
        refine lv_iconst (v := 1) hx hb dX12_isTerminating_30 (by decide) ?_
        have hf := Option.some.inj hf
        rewrite [← hQ, ← hf]
        exact x_iret hx hb hr hlocks hP hS dX12_isTerminating_31
      · have hf := it_neg c_11 hf
        refine lv_aload_n hx hb dX12_isTerminating_14 rfl (lv_at hl 0 rfl) ?_
        refine lv_iload_n hx hb dX12_isTerminating_15 rfl (lv_at hl 1 rfl) ?_
        obtain ⟨r_16, hr_16, hf⟩ := bd_some hf
        refine x_goi0 (ps := [0, 1, 2, 3, 4]) (x_runV (As := [.int v1]) (rest := []) (ps := [0, 1, 2, 3, 4]) ⟨hx, hb, hml, hown, hts⟩ (k_X12_isOnCycle l D G fu h a_pairs a_above a_sources a_targets a_labels a_lengths a_letters a_distances a_longest a_lengthsTo a_lengthsFrom a_path a_output a_found a_keptLabels a_keptPairs a_input a_sides a_sideLengths a_newLengths a_newLetters a_newSources a_newTargets a_newLabels a_word a_failed a_sizes a_arrays a_savedLengths a_savedSources a_savedTargets a_savedLabels a_savedSideLengths a_savedLetters a_savedSides a_savedPairs r_distances objects steps firstStep secondStep pathLength outputLength foundSteps inputLength rules newObjects newSteps wordSize hasSnapshot savedObjects savedSteps savedRules distances sources targets v1 r_16 hr_16) (cwV 1 hts gX12_isTerminating_X12_isOnCycle rfl rfl rfl (by decide +kernel) ⟨Nat.le_of_ble_eq_true rfl, Nat.le_of_ble_eq_true rfl⟩) hE hP hN rfl (by decide) 0 rfl rfl rfl hl.1 (Nat.le_of_ble_eq_true rfl) dX12_isTerminating_16 ⟨Nat.zero_le _, Nat.zero_le _⟩) hP hN hS rfl (fun H locs hP hS => ?_)
        refine lv_if_eq (tgt := 24) hx hb dX12_isTerminating_19 (by decide) (fun c_19 => ?_) (fun c_19 => ?_)
        · have hf := it_pos c_19 hf
          obtain ⟨v1_24, e_v1_24, hf⟩ := lt_some hf
          refine lv_iinc (v := v1_24) (lv' := [(1, .int v1_24), (0, .ref h)]) hx hb dX12_isTerminating_24 hl (k := 1) rfl (by rw [e_v1_24]; rfl) (by decide) rfl (fun ls hl => ?_)
          refine lv_goto (tgt := 6) hx hb dX12_isTerminating_27 (by decide) ?_
          exact ih_6 v1_24 H locs ls hP hS (lv_sub hl [1, 0] rfl) hf
        · have hf := it_neg c_19 hf
          refine lv_iconst (v := 0) hx hb dX12_isTerminating_22 (by decide) ?_
          have hf := Option.some.inj hf
          rewrite [← hQ, ← hf]
          exact x_iret hx hb hr hlocks hP hS dX12_isTerminating_23
  refine lv_aload_n hx hb dX12_isTerminating_0 rfl (lv_at hl 0 rfl) ?_
  obtain ⟨r_1, hr_1, hf⟩ := bd_some hf
  refine x_gov (ps := [0, 1, 2, 3, 4]) (qs := []) (n := 5) (I' := [[(h, .inr (11, [.ref a_pairs, .ref a_above, .int objects, .int steps, .ref a_sources, .ref a_targets, .ref a_labels, .ref a_lengths, .ref a_letters, .ref a_distances, .ref a_longest, .int firstStep, .int secondStep, .ref a_lengthsTo, .ref a_lengthsFrom, .ref a_path, .int pathLength, .ref a_output, .int outputLength, .ref a_found, .int foundSteps, .ref a_keptLabels, .ref a_keptPairs, .ref a_input, .int inputLength, .int rules, .ref a_sides, .ref a_sideLengths, .int newObjects, .int newSteps, .ref a_newLengths, .ref a_newLetters, .ref a_newSources, .ref a_newTargets, .ref a_newLabels, .ref a_word, .int wordSize, .ref a_failed, .ref a_sizes, .ref a_arrays, .int hasSnapshot, .int savedObjects, .int savedSteps, .int savedRules, .ref a_savedLengths, .ref a_savedSources, .ref a_savedTargets, .ref a_savedLabels, .ref a_savedSideLengths, .ref a_savedLetters, .ref a_savedSides, .ref a_savedPairs]))], [gO (G 4) a_distances r_distances 16], gI (G 0) r_distances 16 16 r_1, [(a_sources, .inl (G 0, 32, .inl sources))], [(a_targets, .inl (G 0, 32, .inl targets))]]) (x_runV (As := []) (rest := []) (ps := [0, 1, 2, 3, 4]) ⟨hx, hb, hml, hown, hts⟩ (k_X12_findDistances l D G fu h a_pairs a_above a_sources a_targets a_labels a_lengths a_letters a_distances a_longest a_lengthsTo a_lengthsFrom a_path a_output a_found a_keptLabels a_keptPairs a_input a_sides a_sideLengths a_newLengths a_newLetters a_newSources a_newTargets a_newLabels a_word a_failed a_sizes a_arrays a_savedLengths a_savedSources a_savedTargets a_savedLabels a_savedSideLengths a_savedLetters a_savedSides a_savedPairs r_distances objects steps firstStep secondStep pathLength outputLength foundSteps inputLength rules newObjects newSteps wordSize hasSnapshot savedObjects savedSteps savedRules distances sources targets r_1 hr_1) (cwV 0 hts gX12_isTerminating_X12_findDistances rfl rfl rfl (by decide +kernel) ⟨Nat.le_of_ble_eq_true rfl, Nat.le_of_ble_eq_true rfl⟩) hE hP hN rfl (by decide) 0 rfl rfl rfl hl.1 (Nat.le_of_ble_eq_true rfl) dX12_isTerminating_1 ⟨Nat.zero_le _, Nat.zero_le _⟩) hP hN hS rfl rfl rfl rfl rfl (by decide) (fun H locs hP hS => ?_)
  refine lv_iconst (v := 0) hx hb dX12_isTerminating_4 (by decide) ?_
  obtain ⟨v1_5, e_v1_5, hf⟩ := lt_some hf
  refine x_istore_n (v := v1_5) (lv' := [(1, .int v1_5), (0, .ref h)]) hx hb dX12_isTerminating_5 e_v1_5 rfl hl (by decide) rfl (fun ls hl => ?_)
  exact L6 r_1   fu v1_5 H locs ls hP hS (lv_sub hl [1, 0] rfl) hf

def f_X12_joinLength (fu : Nat) (objects : Int32) (steps : Int32) (firstStep : Int32) (secondStep : Int32) (above : (Nat → Nat → Int32)) (labels : (Nat → Int32)) (lengthsTo : (Nat → Nat → Int32)) (sources : (Nat → Int32)) (targets : (Nat → Int32)) (v1 : Int32) (v2 : Int32) : Option (Int32 × Int32 × (Nat → Nat → Int32) × Int32) :=
  (f_X12_findPeak fu steps firstStep secondStep sources v1).bind (fun r_2 => if r_2.1 = 0 then (some ((-1), r_2.2.1, lengthsTo, r_2.2.2)) else ((f_X12_isSide v2).bind (fun r_9 => if ¬ r_9 = 0 then ((f_X12_valleyOfPeak fu objects steps r_2.2.1 r_2.2.2 above labels lengthsTo sources targets).bind (fun r_18 => lt r_18.1 (fun v3_21 => if ¬ v3_21 = (-2) then ((f_X12_lengthTo r_18.2 v2 v3_21).bind (fun r_36 => some (r_36, r_2.2.1, r_18.2, r_2.2.2))) else (some ((-2), r_2.2.1, r_18.2, r_2.2.2))))) else (some ((-1), r_2.2.1, lengthsTo, r_2.2.2)))))
set_option maxHeartbeats 4000000 in
set_option maxRecDepth 100000 in
theorem k_X12_joinLength (l : Launch) (D : va_G) (G : Nat → ClassId) (fu : Nat) (h : Nat) (a_pairs : Nat) (a_above : Nat) (a_sources : Nat) (a_targets : Nat) (a_labels : Nat) (a_lengths : Nat) (a_letters : Nat) (a_distances : Nat) (a_longest : Nat) (a_lengthsTo : Nat) (a_lengthsFrom : Nat) (a_path : Nat) (a_output : Nat) (a_found : Nat) (a_keptLabels : Nat) (a_keptPairs : Nat) (a_input : Nat) (a_sides : Nat) (a_sideLengths : Nat) (a_newLengths : Nat) (a_newLetters : Nat) (a_newSources : Nat) (a_newTargets : Nat) (a_newLabels : Nat) (a_word : Nat) (a_failed : Nat) (a_sizes : Nat) (a_arrays : Nat) (a_savedLengths : Nat) (a_savedSources : Nat) (a_savedTargets : Nat) (a_savedLabels : Nat) (a_savedSideLengths : Nat) (a_savedLetters : Nat) (a_savedSides : Nat) (a_savedPairs : Nat) (r_above : Nat → Nat) (r_lengthsTo : Nat → Nat) (objects : Int32) (steps : Int32) (firstStep : Int32) (secondStep : Int32) (pathLength : Int32) (outputLength : Int32) (foundSteps : Int32) (inputLength : Int32) (rules : Int32) (newObjects : Int32) (newSteps : Int32) (wordSize : Int32) (hasSnapshot : Int32) (savedObjects : Int32) (savedSteps : Int32) (savedRules : Int32) (above : (Nat → Nat → Int32)) (labels : (Nat → Int32)) (lengthsTo : (Nat → Nat → Int32)) (sources : (Nat → Int32)) (targets : (Nat → Int32))  (v1 : Int32) (v2 : Int32) (out : Int32 × Int32 × (Nat → Nat → Int32) × Int32) (hf : f_X12_joinLength fu objects steps firstStep secondStep above labels lengthsTo sources targets v1 v2 = some out) : xMet l yX12_joinLength wsX12_joinLength (rM 3 80) D G [.ref h, .int v1, .int v2] [[(h, .inr (11, [.ref a_pairs, .ref a_above, .int objects, .int steps, .ref a_sources, .ref a_targets, .ref a_labels, .ref a_lengths, .ref a_letters, .ref a_distances, .ref a_longest, .int firstStep, .int secondStep, .ref a_lengthsTo, .ref a_lengthsFrom, .ref a_path, .int pathLength, .ref a_output, .int outputLength, .ref a_found, .int foundSteps, .ref a_keptLabels, .ref a_keptPairs, .ref a_input, .int inputLength, .int rules, .ref a_sides, .ref a_sideLengths, .int newObjects, .int newSteps, .ref a_newLengths, .ref a_newLetters, .ref a_newSources, .ref a_newTargets, .ref a_newLabels, .ref a_word, .int wordSize, .ref a_failed, .ref a_sizes, .ref a_arrays, .int hasSnapshot, .int savedObjects, .int savedSteps, .int savedRules, .ref a_savedLengths, .ref a_savedSources, .ref a_savedTargets, .ref a_savedLabels, .ref a_savedSideLengths, .ref a_savedLetters, .ref a_savedSides, .ref a_savedPairs]))], [gO (G 6) a_above r_above 8], gI (G 2) r_above 8 8 above, [(a_labels, .inl (G 0, 32, .inl labels))], [gO (G 4) a_lengthsTo r_lengthsTo 2], gI (G 0) r_lengthsTo 2 32 lengthsTo, [(a_sources, .inl (G 0, 32, .inl sources))], [(a_targets, .inl (G 0, 32, .inl targets))]] (xQi D [[(h, .inr (11, [.ref a_pairs, .ref a_above, .int objects, .int steps, .ref a_sources, .ref a_targets, .ref a_labels, .ref a_lengths, .ref a_letters, .ref a_distances, .ref a_longest, .int out.2.1, .int out.2.2.2, .ref a_lengthsTo, .ref a_lengthsFrom, .ref a_path, .int pathLength, .ref a_output, .int outputLength, .ref a_found, .int foundSteps, .ref a_keptLabels, .ref a_keptPairs, .ref a_input, .int inputLength, .int rules, .ref a_sides, .ref a_sideLengths, .int newObjects, .int newSteps, .ref a_newLengths, .ref a_newLetters, .ref a_newSources, .ref a_newTargets, .ref a_newLabels, .ref a_word, .int wordSize, .ref a_failed, .ref a_sizes, .ref a_arrays, .int hasSnapshot, .int savedObjects, .int savedSteps, .int savedRules, .ref a_savedLengths, .ref a_savedSources, .ref a_savedTargets, .ref a_savedLabels, .ref a_savedSideLengths, .ref a_savedLetters, .ref a_savedSides, .ref a_savedPairs]))], [gO (G 6) a_above r_above 8], gI (G 2) r_above 8 8 above, [(a_labels, .inl (G 0, 32, .inl labels))], [gO (G 4) a_lengthsTo r_lengthsTo 2], gI (G 0) r_lengthsTo 2 32 out.2.2.1, [(a_sources, .inl (G 0, 32, .inl sources))], [(a_targets, .inl (G 0, 32, .inl targets))]] out.1) := by
  refine x_ent (cc := cX12_joinLength) (maxL := 4) (by decide) rfl (Nat.le_of_ble_eq_true rfl) ?_
  intro p e s m blw meth c aa ls args Q H locs hQ hx hb hr hml hown hts hlocks hE hN hl hP hS
  have hown : s.vm.findClass RX12 = some m.cls := hown
  have hl : lv_has ls 4 [(0, .ref h), (1, .int v1), (2, .int v2)] := hl
  refine lv_aload_n hx hb dX12_joinLength_0 rfl (lv_at hl 0 rfl) ?_
  refine lv_iload_n hx hb dX12_joinLength_1 rfl (lv_at hl 1 rfl) ?_
  obtain ⟨r_2, hr_2, hf⟩ := bd_some hf
  refine x_goi (ps := [0, 6]) (qs := [1, 2, 3, 4, 5, 7]) (n := 8) (I' := [[(h, .inr (11, [.ref a_pairs, .ref a_above, .int objects, .int steps, .ref a_sources, .ref a_targets, .ref a_labels, .ref a_lengths, .ref a_letters, .ref a_distances, .ref a_longest, .int r_2.2.1, .int r_2.2.2, .ref a_lengthsTo, .ref a_lengthsFrom, .ref a_path, .int pathLength, .ref a_output, .int outputLength, .ref a_found, .int foundSteps, .ref a_keptLabels, .ref a_keptPairs, .ref a_input, .int inputLength, .int rules, .ref a_sides, .ref a_sideLengths, .int newObjects, .int newSteps, .ref a_newLengths, .ref a_newLetters, .ref a_newSources, .ref a_newTargets, .ref a_newLabels, .ref a_word, .int wordSize, .ref a_failed, .ref a_sizes, .ref a_arrays, .int hasSnapshot, .int savedObjects, .int savedSteps, .int savedRules, .ref a_savedLengths, .ref a_savedSources, .ref a_savedTargets, .ref a_savedLabels, .ref a_savedSideLengths, .ref a_savedLetters, .ref a_savedSides, .ref a_savedPairs]))], [gO (G 6) a_above r_above 8], gI (G 2) r_above 8 8 above, [(a_labels, .inl (G 0, 32, .inl labels))], [gO (G 4) a_lengthsTo r_lengthsTo 2], gI (G 0) r_lengthsTo 2 32 lengthsTo, [(a_sources, .inl (G 0, 32, .inl sources))], [(a_targets, .inl (G 0, 32, .inl targets))]]) (x_runV (As := [.int v1]) (rest := []) (ps := [0, 6]) ⟨hx, hb, hml, hown, hts⟩ (k_X12_findPeak l D G fu h a_pairs a_above a_sources a_targets a_labels a_lengths a_letters a_distances a_longest a_lengthsTo a_lengthsFrom a_path a_output a_found a_keptLabels a_keptPairs a_input a_sides a_sideLengths a_newLengths a_newLetters a_newSources a_newTargets a_newLabels a_word a_failed a_sizes a_arrays a_savedLengths a_savedSources a_savedTargets a_savedLabels a_savedSideLengths a_savedLetters a_savedSides a_savedPairs objects steps firstStep secondStep pathLength outputLength foundSteps inputLength rules newObjects newSteps wordSize hasSnapshot savedObjects savedSteps savedRules sources v1 r_2 hr_2) (cwV 1 hts gX12_joinLength_X12_findPeak rfl rfl rfl (by decide +kernel) ⟨Nat.le_of_ble_eq_true rfl, Nat.le_of_ble_eq_true rfl⟩) hE hP hN rfl (by decide) 0 rfl rfl rfl hl.1 (Nat.le_of_ble_eq_true rfl) dX12_joinLength_2 ⟨Nat.zero_le _, Nat.zero_le _⟩) hP hN hS rfl rfl rfl rfl rfl (by decide) (fun H locs hP hS => ?_)
  refine lv_if_eq (tgt := 15) hx hb dX12_joinLength_5 (by decide) (fun c_5 => ?_) (fun c_5 => ?_)
  · have hf := it_pos c_5 hf
    refine lv_iconst (v := -1) hx hb dX12_joinLength_15 (by decide) ?_
    have hf := Option.some.inj hf
    rewrite [← hQ, ← hf]
    exact x_iret hx hb hr hlocks hP hS dX12_joinLength_16
  · have hf := it_neg c_5 hf
    refine lv_iload_n hx hb dX12_joinLength_8 rfl (lv_at hl 2 rfl) ?_
    obtain ⟨r_9, hr_9, hf⟩ := bd_some hf
    refine x_goi0 (ps := []) (x_runS (As := [.int v2]) (rest := []) (ps := []) ⟨hx, hb, hml, hown, hts⟩ (k_X12_isSide l D G fu v2 r_9 hr_9) (va_cwS 1 hts gX12_joinLength_X12_isSide rfl rfl rfl (by decide +kernel) ⟨Nat.le_of_ble_eq_true rfl, Nat.le_of_ble_eq_true rfl⟩) hE hP hN rfl (by decide) rfl hl.1 (Nat.le_of_ble_eq_true rfl) dX12_joinLength_9 ⟨Nat.zero_le _, Nat.zero_le _⟩) hP hN hS rfl (fun H locs hP hS => ?_)
    refine lv_if_ne (tgt := 17) hx hb dX12_joinLength_12 (by decide) (fun c_12 => ?_) (fun c_12 => ?_)
    · have hf := it_pos c_12 hf
      refine lv_aload_n hx hb dX12_joinLength_17 rfl (lv_at hl 0 rfl) ?_
      obtain ⟨r_18, hr_18, hf⟩ := bd_some hf
      refine x_goi (ps := [0, 1, 2, 3, 4, 5, 6, 7]) (qs := []) (n := 8) (I' := [[(h, .inr (11, [.ref a_pairs, .ref a_above, .int objects, .int steps, .ref a_sources, .ref a_targets, .ref a_labels, .ref a_lengths, .ref a_letters, .ref a_distances, .ref a_longest, .int r_2.2.1, .int r_2.2.2, .ref a_lengthsTo, .ref a_lengthsFrom, .ref a_path, .int pathLength, .ref a_output, .int outputLength, .ref a_found, .int foundSteps, .ref a_keptLabels, .ref a_keptPairs, .ref a_input, .int inputLength, .int rules, .ref a_sides, .ref a_sideLengths, .int newObjects, .int newSteps, .ref a_newLengths, .ref a_newLetters, .ref a_newSources, .ref a_newTargets, .ref a_newLabels, .ref a_word, .int wordSize, .ref a_failed, .ref a_sizes, .ref a_arrays, .int hasSnapshot, .int savedObjects, .int savedSteps, .int savedRules, .ref a_savedLengths, .ref a_savedSources, .ref a_savedTargets, .ref a_savedLabels, .ref a_savedSideLengths, .ref a_savedLetters, .ref a_savedSides, .ref a_savedPairs]))], [gO (G 6) a_above r_above 8], gI (G 2) r_above 8 8 above, [(a_labels, .inl (G 0, 32, .inl labels))], [gO (G 4) a_lengthsTo r_lengthsTo 2], gI (G 0) r_lengthsTo 2 32 r_18.2, [(a_sources, .inl (G 0, 32, .inl sources))], [(a_targets, .inl (G 0, 32, .inl targets))]]) (x_runV (As := []) (rest := []) (ps := [0, 1, 2, 3, 4, 5, 6, 7]) ⟨hx, hb, hml, hown, hts⟩ (k_X12_valleyOfPeak l D G fu h a_pairs a_above a_sources a_targets a_labels a_lengths a_letters a_distances a_longest a_lengthsTo a_lengthsFrom a_path a_output a_found a_keptLabels a_keptPairs a_input a_sides a_sideLengths a_newLengths a_newLetters a_newSources a_newTargets a_newLabels a_word a_failed a_sizes a_arrays a_savedLengths a_savedSources a_savedTargets a_savedLabels a_savedSideLengths a_savedLetters a_savedSides a_savedPairs r_above r_lengthsTo objects steps r_2.2.1 r_2.2.2 pathLength outputLength foundSteps inputLength rules newObjects newSteps wordSize hasSnapshot savedObjects savedSteps savedRules above labels lengthsTo sources targets r_18 hr_18) (cwV 0 hts gX12_joinLength_X12_valleyOfPeak rfl rfl rfl (by decide +kernel) ⟨Nat.le_of_ble_eq_true rfl, Nat.le_of_ble_eq_true rfl⟩) hE hP hN rfl (by decide) 0 rfl rfl rfl hl.1 (Nat.le_of_ble_eq_true rfl) dX12_joinLength_18 ⟨Nat.zero_le _, Nat.zero_le _⟩) hP hN hS rfl rfl rfl rfl rfl (by decide) (fun H locs hP hS => ?_)
      obtain ⟨v3_21, e_v3_21, hf⟩ := lt_some hf
      refine x_istore_n (v := v3_21) (lv' := [(3, .int v3_21), (0, .ref h), (1, .int v1), (2, .int v2)]) hx hb dX12_joinLength_21 e_v3_21 rfl hl (by decide) rfl (fun ls hl => ?_)
      refine lv_iload_n hx hb dX12_joinLength_22 rfl (lv_at hl 0 rfl) ?_
      refine lv_bipush (v := -2) hx hb dX12_joinLength_23 (by decide) ?_
      refine lv_icmp_ne (tgt := 33) hx hb dX12_joinLength_25 (by decide) (fun c_25 => ?_) (fun c_25 => ?_)
      · have hf := it_pos c_25 hf
        refine lv_aload_n hx hb dX12_joinLength_33 rfl (lv_at hl 1 rfl) ?_
        refine lv_iload_n hx hb dX12_joinLength_34 rfl (lv_at hl 3 rfl) ?_
        refine lv_iload_n hx hb dX12_joinLength_35 rfl (lv_at hl 0 rfl) ?_
        obtain ⟨r_36, hr_36, hf⟩ := bd_some hf
        refine x_goi0 (ps := [0, 4, 5]) (x_runV (As := [.int v2, .int v3_21]) (rest := []) (ps := [0, 4, 5]) ⟨hx, hb, hml, hown, hts⟩ (k_X12_lengthTo l D G fu h a_pairs a_above a_sources a_targets a_labels a_lengths a_letters a_distances a_longest a_lengthsTo a_lengthsFrom a_path a_output a_found a_keptLabels a_keptPairs a_input a_sides a_sideLengths a_newLengths a_newLetters a_newSources a_newTargets a_newLabels a_word a_failed a_sizes a_arrays a_savedLengths a_savedSources a_savedTargets a_savedLabels a_savedSideLengths a_savedLetters a_savedSides a_savedPairs r_lengthsTo objects steps r_2.2.1 r_2.2.2 pathLength outputLength foundSteps inputLength rules newObjects newSteps wordSize hasSnapshot savedObjects savedSteps savedRules r_18.2 v2 v3_21 r_36 hr_36) (cwV 2 hts gX12_joinLength_X12_lengthTo rfl rfl rfl (by decide +kernel) ⟨Nat.le_of_ble_eq_true rfl, Nat.le_of_ble_eq_true rfl⟩) hE hP hN rfl (by decide) 0 rfl rfl rfl hl.1 (Nat.le_of_ble_eq_true rfl) dX12_joinLength_36 ⟨Nat.zero_le _, Nat.zero_le _⟩) hP hN hS rfl (fun H locs hP hS => ?_)
        have hf := Option.some.inj hf
        rewrite [← hQ, ← hf]
        exact x_iret hx hb hr hlocks hP hS dX12_joinLength_39
      · have hf := it_neg (fun h => h c_25) hf
        refine lv_bipush (v := -2) hx hb dX12_joinLength_28 (by decide) ?_
        refine lv_goto (tgt := 39) hx hb dX12_joinLength_30 (by decide) ?_
        have hf := Option.some.inj hf
        rewrite [← hQ, ← hf]
        exact x_iret hx hb hr hlocks hP hS dX12_joinLength_39
    · have hf := it_neg (fun h => h c_12) hf
      refine lv_iconst (v := -1) hx hb dX12_joinLength_15 (by decide) ?_
      have hf := Option.some.inj hf
      rewrite [← hQ, ← hf]
      exact x_iret hx hb hr hlocks hP hS dX12_joinLength_16

set_option maxRecDepth 20000 in
theorem u_X12_joinStep_X12 : ∀ w ∈ wsX120, w ∈ wsX12_joinStep := xx_pl _ [52, 53, 54, 55, 56, 57, 58, 59, 60, 61, 62, 63, 64, 65, 66, 67, 68, 69, 70, 71, 72, 73, 74, 75, 76, 77, 78, 79, 80, 81, 82, 83, 84, 85, 86, 87, 88, 89, 90, 91, 92, 93, 94, 95, 96, 97, 98, 99, 100, 101, 102, 103] (by decide +kernel)
def f_X12_joinStep (fu : Nat) (objects : Int32) (steps : Int32) (firstStep : Int32) (secondStep : Int32) (pathLength : Int32) (above : (Nat → Nat → Int32)) (labels : (Nat → Int32)) (lengthsFrom : (Nat → Int32)) (lengthsTo : (Nat → Nat → Int32)) (path : (Nat → Int32)) (sources : (Nat → Int32)) (targets : (Nat → Int32)) (v1 : Int32) (v2 : Int32) (v3 : Int32) : Option (Int32 × (Nat → Int32) × (Nat → (Nat → Int32)) × (Nat → (Nat → Nat → Int32))) :=
  (f_X12_findPeak fu steps firstStep secondStep sources v1).bind (fun r_2 => if r_2.1 = 0 then (some ((-1), vv (0 : Int32) [r_2.2.1, pathLength, r_2.2.2], vv (fun _ => (0 : Int32)) [lengthsFrom, path], vv (fun _ _ => (0 : Int32)) [lengthsTo])) else ((f_X12_isSide v2).bind (fun r_9 => if ¬ r_9 = 0 then ((f_X12_valleyOfPeak fu objects steps r_2.2.1 r_2.2.2 above labels lengthsTo sources targets).bind (fun r_18 => lt r_18.1 (fun v4_21 => if ¬ v4_21 = (-2) then ((f_X12_findPath fu steps r_2.2.1 r_2.2.2 pathLength above labels lengthsFrom r_18.2 path sources targets v2 v4_21).bind (fun r_37 => (f_X12_isBetween v3 0 (r_37.2.2 - 1)).bind (fun r_48 => if r_48 = 0 then (some ((-2), vv (0 : Int32) [r_2.2.1, r_37.2.2, r_2.2.2], vv (fun _ => (0 : Int32)) [r_37.1, r_37.2.1], vv (fun _ _ => (0 : Int32)) [r_18.2])) else (ck v3 32 (some (r_37.2.1 v3.toNatClampNeg, vv (0 : Int32) [r_2.2.1, r_37.2.2, r_2.2.2], vv (fun _ => (0 : Int32)) [r_37.1, r_37.2.1], vv (fun _ _ => (0 : Int32)) [r_18.2])))))) else (some ((-2), vv (0 : Int32) [r_2.2.1, pathLength, r_2.2.2], vv (fun _ => (0 : Int32)) [lengthsFrom, path], vv (fun _ _ => (0 : Int32)) [r_18.2]))))) else (some ((-1), vv (0 : Int32) [r_2.2.1, pathLength, r_2.2.2], vv (fun _ => (0 : Int32)) [lengthsFrom, path], vv (fun _ _ => (0 : Int32)) [lengthsTo])))))
set_option maxHeartbeats 4000000 in
set_option maxRecDepth 100000 in
theorem k_X12_joinStep (l : Launch) (D : va_G) (G : Nat → ClassId) (fu : Nat) (h : Nat) (a_pairs : Nat) (a_above : Nat) (a_sources : Nat) (a_targets : Nat) (a_labels : Nat) (a_lengths : Nat) (a_letters : Nat) (a_distances : Nat) (a_longest : Nat) (a_lengthsTo : Nat) (a_lengthsFrom : Nat) (a_path : Nat) (a_output : Nat) (a_found : Nat) (a_keptLabels : Nat) (a_keptPairs : Nat) (a_input : Nat) (a_sides : Nat) (a_sideLengths : Nat) (a_newLengths : Nat) (a_newLetters : Nat) (a_newSources : Nat) (a_newTargets : Nat) (a_newLabels : Nat) (a_word : Nat) (a_failed : Nat) (a_sizes : Nat) (a_arrays : Nat) (a_savedLengths : Nat) (a_savedSources : Nat) (a_savedTargets : Nat) (a_savedLabels : Nat) (a_savedSideLengths : Nat) (a_savedLetters : Nat) (a_savedSides : Nat) (a_savedPairs : Nat) (r_above : Nat → Nat) (r_lengthsTo : Nat → Nat) (objects : Int32) (steps : Int32) (firstStep : Int32) (secondStep : Int32) (pathLength : Int32) (outputLength : Int32) (foundSteps : Int32) (inputLength : Int32) (rules : Int32) (newObjects : Int32) (newSteps : Int32) (wordSize : Int32) (hasSnapshot : Int32) (savedObjects : Int32) (savedSteps : Int32) (savedRules : Int32) (above : (Nat → Nat → Int32)) (labels : (Nat → Int32)) (lengthsFrom : (Nat → Int32)) (lengthsTo : (Nat → Nat → Int32)) (path : (Nat → Int32)) (sources : (Nat → Int32)) (targets : (Nat → Int32))  (v1 : Int32) (v2 : Int32) (v3 : Int32) (out : Int32 × (Nat → Int32) × (Nat → (Nat → Int32)) × (Nat → (Nat → Nat → Int32))) (hf : f_X12_joinStep fu objects steps firstStep secondStep pathLength above labels lengthsFrom lengthsTo path sources targets v1 v2 v3 = some out) : xMet l yX12_joinStep wsX12_joinStep (rM 3 86) D G [.ref h, .int v1, .int v2, .int v3] [[(h, .inr (11, [.ref a_pairs, .ref a_above, .int objects, .int steps, .ref a_sources, .ref a_targets, .ref a_labels, .ref a_lengths, .ref a_letters, .ref a_distances, .ref a_longest, .int firstStep, .int secondStep, .ref a_lengthsTo, .ref a_lengthsFrom, .ref a_path, .int pathLength, .ref a_output, .int outputLength, .ref a_found, .int foundSteps, .ref a_keptLabels, .ref a_keptPairs, .ref a_input, .int inputLength, .int rules, .ref a_sides, .ref a_sideLengths, .int newObjects, .int newSteps, .ref a_newLengths, .ref a_newLetters, .ref a_newSources, .ref a_newTargets, .ref a_newLabels, .ref a_word, .int wordSize, .ref a_failed, .ref a_sizes, .ref a_arrays, .int hasSnapshot, .int savedObjects, .int savedSteps, .int savedRules, .ref a_savedLengths, .ref a_savedSources, .ref a_savedTargets, .ref a_savedLabels, .ref a_savedSideLengths, .ref a_savedLetters, .ref a_savedSides, .ref a_savedPairs]))], [gO (G 6) a_above r_above 8], gI (G 2) r_above 8 8 above, [(a_labels, .inl (G 0, 32, .inl labels))], [(a_lengthsFrom, .inl (G 0, 32, .inl lengthsFrom))], [gO (G 4) a_lengthsTo r_lengthsTo 2], gI (G 0) r_lengthsTo 2 32 lengthsTo, [(a_path, .inl (G 0, 32, .inl path))], [(a_sources, .inl (G 0, 32, .inl sources))], [(a_targets, .inl (G 0, 32, .inl targets))]] (xQi D [[(h, .inr (11, [.ref a_pairs, .ref a_above, .int objects, .int steps, .ref a_sources, .ref a_targets, .ref a_labels, .ref a_lengths, .ref a_letters, .ref a_distances, .ref a_longest, .int (out.2.1 0), .int (out.2.1 2), .ref a_lengthsTo, .ref a_lengthsFrom, .ref a_path, .int (out.2.1 1), .ref a_output, .int outputLength, .ref a_found, .int foundSteps, .ref a_keptLabels, .ref a_keptPairs, .ref a_input, .int inputLength, .int rules, .ref a_sides, .ref a_sideLengths, .int newObjects, .int newSteps, .ref a_newLengths, .ref a_newLetters, .ref a_newSources, .ref a_newTargets, .ref a_newLabels, .ref a_word, .int wordSize, .ref a_failed, .ref a_sizes, .ref a_arrays, .int hasSnapshot, .int savedObjects, .int savedSteps, .int savedRules, .ref a_savedLengths, .ref a_savedSources, .ref a_savedTargets, .ref a_savedLabels, .ref a_savedSideLengths, .ref a_savedLetters, .ref a_savedSides, .ref a_savedPairs]))], [gO (G 6) a_above r_above 8], gI (G 2) r_above 8 8 above, [(a_labels, .inl (G 0, 32, .inl labels))], [(a_lengthsFrom, .inl (G 0, 32, .inl (out.2.2.1 0)))], [gO (G 4) a_lengthsTo r_lengthsTo 2], gI (G 0) r_lengthsTo 2 32 (out.2.2.2 0), [(a_path, .inl (G 0, 32, .inl (out.2.2.1 1)))], [(a_sources, .inl (G 0, 32, .inl sources))], [(a_targets, .inl (G 0, 32, .inl targets))]] out.1) := by
  refine x_ent (cc := cX12_joinStep) (maxL := 5) (by decide) rfl (Nat.le_of_ble_eq_true rfl) ?_
  intro p e s m blw meth c aa ls args Q H locs hQ hx hb hr hml hown hts hlocks hE hN hl hP hS
  have hown : s.vm.findClass RX12 = some m.cls := hown
  have hl : lv_has ls 5 [(0, .ref h), (1, .int v1), (2, .int v2), (3, .int v3)] := hl
  refine lv_aload_n hx hb dX12_joinStep_0 rfl (lv_at hl 0 rfl) ?_
  refine lv_iload_n hx hb dX12_joinStep_1 rfl (lv_at hl 1 rfl) ?_
  obtain ⟨r_2, hr_2, hf⟩ := bd_some hf
  refine x_goi (ps := [0, 8]) (qs := [1, 2, 3, 4, 5, 6, 7, 9]) (n := 10) (I' := [[(h, .inr (11, [.ref a_pairs, .ref a_above, .int objects, .int steps, .ref a_sources, .ref a_targets, .ref a_labels, .ref a_lengths, .ref a_letters, .ref a_distances, .ref a_longest, .int r_2.2.1, .int r_2.2.2, .ref a_lengthsTo, .ref a_lengthsFrom, .ref a_path, .int pathLength, .ref a_output, .int outputLength, .ref a_found, .int foundSteps, .ref a_keptLabels, .ref a_keptPairs, .ref a_input, .int inputLength, .int rules, .ref a_sides, .ref a_sideLengths, .int newObjects, .int newSteps, .ref a_newLengths, .ref a_newLetters, .ref a_newSources, .ref a_newTargets, .ref a_newLabels, .ref a_word, .int wordSize, .ref a_failed, .ref a_sizes, .ref a_arrays, .int hasSnapshot, .int savedObjects, .int savedSteps, .int savedRules, .ref a_savedLengths, .ref a_savedSources, .ref a_savedTargets, .ref a_savedLabels, .ref a_savedSideLengths, .ref a_savedLetters, .ref a_savedSides, .ref a_savedPairs]))], [gO (G 6) a_above r_above 8], gI (G 2) r_above 8 8 above, [(a_labels, .inl (G 0, 32, .inl labels))], [(a_lengthsFrom, .inl (G 0, 32, .inl lengthsFrom))], [gO (G 4) a_lengthsTo r_lengthsTo 2], gI (G 0) r_lengthsTo 2 32 lengthsTo, [(a_path, .inl (G 0, 32, .inl path))], [(a_sources, .inl (G 0, 32, .inl sources))], [(a_targets, .inl (G 0, 32, .inl targets))]]) (x_runV (As := [.int v1]) (rest := []) (ps := [0, 8]) ⟨hx, hb, hml, hown, hts⟩ (k_X12_findPeak l D G fu h a_pairs a_above a_sources a_targets a_labels a_lengths a_letters a_distances a_longest a_lengthsTo a_lengthsFrom a_path a_output a_found a_keptLabels a_keptPairs a_input a_sides a_sideLengths a_newLengths a_newLetters a_newSources a_newTargets a_newLabels a_word a_failed a_sizes a_arrays a_savedLengths a_savedSources a_savedTargets a_savedLabels a_savedSideLengths a_savedLetters a_savedSides a_savedPairs objects steps firstStep secondStep pathLength outputLength foundSteps inputLength rules newObjects newSteps wordSize hasSnapshot savedObjects savedSteps savedRules sources v1 r_2 hr_2) (cwV 1 hts gX12_joinStep_X12_findPeak rfl rfl rfl (by decide +kernel) ⟨Nat.le_of_ble_eq_true rfl, Nat.le_of_ble_eq_true rfl⟩) hE hP hN rfl (by decide) 0 rfl rfl rfl hl.1 (Nat.le_of_ble_eq_true rfl) dX12_joinStep_2 ⟨Nat.zero_le _, Nat.zero_le _⟩) hP hN hS rfl rfl rfl rfl rfl (by decide) (fun H locs hP hS => ?_)
  refine lv_if_eq (tgt := 15) hx hb dX12_joinStep_5 (by decide) (fun c_5 => ?_) (fun c_5 => ?_)
  · have hf := it_pos c_5 hf
    refine lv_iconst (v := -1) hx hb dX12_joinStep_15 (by decide) ?_
    have hf := Option.some.inj hf
    rewrite [← hQ, ← hf]
    exact x_iret hx hb hr hlocks hP hS dX12_joinStep_16
  · have hf := it_neg c_5 hf
    refine lv_iload_n hx hb dX12_joinStep_8 rfl (lv_at hl 2 rfl) ?_
    obtain ⟨r_9, hr_9, hf⟩ := bd_some hf
    refine x_goi0 (ps := []) (x_runS (As := [.int v2]) (rest := []) (ps := []) ⟨hx, hb, hml, hown, hts⟩ (k_X12_isSide l D G fu v2 r_9 hr_9) (va_cwS 1 hts gX12_joinStep_X12_isSide rfl rfl rfl (by decide +kernel) ⟨Nat.le_of_ble_eq_true rfl, Nat.le_of_ble_eq_true rfl⟩) hE hP hN rfl (by decide) rfl hl.1 (Nat.le_of_ble_eq_true rfl) dX12_joinStep_9 ⟨Nat.zero_le _, Nat.zero_le _⟩) hP hN hS rfl (fun H locs hP hS => ?_)
    refine lv_if_ne (tgt := 17) hx hb dX12_joinStep_12 (by decide) (fun c_12 => ?_) (fun c_12 => ?_)
    · have hf := it_pos c_12 hf
      refine lv_aload_n hx hb dX12_joinStep_17 rfl (lv_at hl 0 rfl) ?_
      obtain ⟨r_18, hr_18, hf⟩ := bd_some hf
      refine x_goi (ps := [0, 1, 2, 3, 5, 6, 8, 9]) (qs := [4, 7]) (n := 10) (I' := [[(h, .inr (11, [.ref a_pairs, .ref a_above, .int objects, .int steps, .ref a_sources, .ref a_targets, .ref a_labels, .ref a_lengths, .ref a_letters, .ref a_distances, .ref a_longest, .int r_2.2.1, .int r_2.2.2, .ref a_lengthsTo, .ref a_lengthsFrom, .ref a_path, .int pathLength, .ref a_output, .int outputLength, .ref a_found, .int foundSteps, .ref a_keptLabels, .ref a_keptPairs, .ref a_input, .int inputLength, .int rules, .ref a_sides, .ref a_sideLengths, .int newObjects, .int newSteps, .ref a_newLengths, .ref a_newLetters, .ref a_newSources, .ref a_newTargets, .ref a_newLabels, .ref a_word, .int wordSize, .ref a_failed, .ref a_sizes, .ref a_arrays, .int hasSnapshot, .int savedObjects, .int savedSteps, .int savedRules, .ref a_savedLengths, .ref a_savedSources, .ref a_savedTargets, .ref a_savedLabels, .ref a_savedSideLengths, .ref a_savedLetters, .ref a_savedSides, .ref a_savedPairs]))], [gO (G 6) a_above r_above 8], gI (G 2) r_above 8 8 above, [(a_labels, .inl (G 0, 32, .inl labels))], [(a_lengthsFrom, .inl (G 0, 32, .inl lengthsFrom))], [gO (G 4) a_lengthsTo r_lengthsTo 2], gI (G 0) r_lengthsTo 2 32 r_18.2, [(a_path, .inl (G 0, 32, .inl path))], [(a_sources, .inl (G 0, 32, .inl sources))], [(a_targets, .inl (G 0, 32, .inl targets))]]) (x_runV (As := []) (rest := []) (ps := [0, 1, 2, 3, 5, 6, 8, 9]) ⟨hx, hb, hml, hown, hts⟩ (k_X12_valleyOfPeak l D G fu h a_pairs a_above a_sources a_targets a_labels a_lengths a_letters a_distances a_longest a_lengthsTo a_lengthsFrom a_path a_output a_found a_keptLabels a_keptPairs a_input a_sides a_sideLengths a_newLengths a_newLetters a_newSources a_newTargets a_newLabels a_word a_failed a_sizes a_arrays a_savedLengths a_savedSources a_savedTargets a_savedLabels a_savedSideLengths a_savedLetters a_savedSides a_savedPairs r_above r_lengthsTo objects steps r_2.2.1 r_2.2.2 pathLength outputLength foundSteps inputLength rules newObjects newSteps wordSize hasSnapshot savedObjects savedSteps savedRules above labels lengthsTo sources targets r_18 hr_18) (cwV 0 hts gX12_joinStep_X12_valleyOfPeak rfl rfl rfl (by decide +kernel) ⟨Nat.le_of_ble_eq_true rfl, Nat.le_of_ble_eq_true rfl⟩) hE hP hN rfl (by decide) 0 rfl rfl rfl hl.1 (Nat.le_of_ble_eq_true rfl) dX12_joinStep_18 ⟨Nat.zero_le _, Nat.zero_le _⟩) hP hN hS rfl rfl rfl rfl rfl (by decide) (fun H locs hP hS => ?_)
      obtain ⟨v4_21, e_v4_21, hf⟩ := lt_some hf
      refine x_istore (v := v4_21) (lv' := [(4, .int v4_21), (0, .ref h), (1, .int v1), (2, .int v2), (3, .int v3)]) hx hb dX12_joinStep_21 e_v4_21 hl (by decide) rfl (fun ls hl => ?_)
      refine lv_iload hx hb dX12_joinStep_23 (lv_at hl 0 rfl) ?_
      refine lv_bipush (v := -2) hx hb dX12_joinStep_25 (by decide) ?_
      refine lv_icmp_ne (tgt := 33) hx hb dX12_joinStep_27 (by decide) (fun c_27 => ?_) (fun c_27 => ?_)
      · have hf := it_pos c_27 hf
        refine lv_aload_n hx hb dX12_joinStep_33 rfl (lv_at hl 1 rfl) ?_
        refine lv_iload_n hx hb dX12_joinStep_34 rfl (lv_at hl 3 rfl) ?_
        refine lv_iload hx hb dX12_joinStep_35 (lv_at hl 0 rfl) ?_
        obtain ⟨r_37, hr_37, hf⟩ := bd_some hf
        refine x_gov (ps := [0, 1, 2, 3, 4, 5, 6, 7, 8, 9]) (qs := []) (n := 10) (I' := [[(h, .inr (11, [.ref a_pairs, .ref a_above, .int objects, .int steps, .ref a_sources, .ref a_targets, .ref a_labels, .ref a_lengths, .ref a_letters, .ref a_distances, .ref a_longest, .int r_2.2.1, .int r_2.2.2, .ref a_lengthsTo, .ref a_lengthsFrom, .ref a_path, .int r_37.2.2, .ref a_output, .int outputLength, .ref a_found, .int foundSteps, .ref a_keptLabels, .ref a_keptPairs, .ref a_input, .int inputLength, .int rules, .ref a_sides, .ref a_sideLengths, .int newObjects, .int newSteps, .ref a_newLengths, .ref a_newLetters, .ref a_newSources, .ref a_newTargets, .ref a_newLabels, .ref a_word, .int wordSize, .ref a_failed, .ref a_sizes, .ref a_arrays, .int hasSnapshot, .int savedObjects, .int savedSteps, .int savedRules, .ref a_savedLengths, .ref a_savedSources, .ref a_savedTargets, .ref a_savedLabels, .ref a_savedSideLengths, .ref a_savedLetters, .ref a_savedSides, .ref a_savedPairs]))], [gO (G 6) a_above r_above 8], gI (G 2) r_above 8 8 above, [(a_labels, .inl (G 0, 32, .inl labels))], [(a_lengthsFrom, .inl (G 0, 32, .inl r_37.1))], [gO (G 4) a_lengthsTo r_lengthsTo 2], gI (G 0) r_lengthsTo 2 32 r_18.2, [(a_path, .inl (G 0, 32, .inl r_37.2.1))], [(a_sources, .inl (G 0, 32, .inl sources))], [(a_targets, .inl (G 0, 32, .inl targets))]]) (x_runV (As := [.int v2, .int v4_21]) (rest := []) (ps := [0, 1, 2, 3, 4, 5, 6, 7, 8, 9]) ⟨hx, hb, hml, hown, hts⟩ (k_X12_findPath l D G fu h a_pairs a_above a_sources a_targets a_labels a_lengths a_letters a_distances a_longest a_lengthsTo a_lengthsFrom a_path a_output a_found a_keptLabels a_keptPairs a_input a_sides a_sideLengths a_newLengths a_newLetters a_newSources a_newTargets a_newLabels a_word a_failed a_sizes a_arrays a_savedLengths a_savedSources a_savedTargets a_savedLabels a_savedSideLengths a_savedLetters a_savedSides a_savedPairs r_above r_lengthsTo objects steps r_2.2.1 r_2.2.2 pathLength outputLength foundSteps inputLength rules newObjects newSteps wordSize hasSnapshot savedObjects savedSteps savedRules above labels lengthsFrom r_18.2 path sources targets v2 v4_21 r_37 hr_37) (cwV 2 hts gX12_joinStep_X12_findPath rfl rfl rfl (by decide +kernel) ⟨Nat.le_of_ble_eq_true rfl, Nat.le_of_ble_eq_true rfl⟩) hE hP hN rfl (by decide) 0 rfl rfl rfl hl.1 (Nat.le_of_ble_eq_true rfl) dX12_joinStep_37 ⟨Nat.zero_le _, Nat.zero_le _⟩) hP hN hS rfl rfl rfl rfl rfl (by decide) (fun H locs hP hS => ?_)
        refine lv_iload_n hx hb dX12_joinStep_40 rfl (lv_at hl 4 rfl) ?_
        refine lv_iconst (v := 0) hx hb dX12_joinStep_41 (by decide) ?_
        refine lv_aload_n hx hb dX12_joinStep_42 rfl (lv_at hl 1 rfl) ?_
        refine x_get hx hb hts u_X12_joinStep_X12 hown hE hP 0 rfl rfl 16 (by decide) (hts (.fieldLink RX12 202 "DecreasingDiagramsModel" "pathLength" "I") (List.mem_of_getElem? (i := 1) rfl)) rfl dX12_joinStep_43 ?_
        refine lv_iconst (v := 1) hx hb dX12_joinStep_46 (by decide) ?_
        refine lv_isub hx hb dX12_joinStep_47 ?_
        obtain ⟨r_48, hr_48, hf⟩ := bd_some hf
        refine x_goi0 (ps := []) (x_runS (As := [.int v3, .int 0, .int (r_37.2.2 - 1)]) (rest := []) (ps := []) ⟨hx, hb, hml, hown, hts⟩ (k_X12_isBetween l D G fu v3 0 (r_37.2.2 - 1) r_48 hr_48) (va_cwS 3 hts gX12_joinStep_X12_isBetween rfl rfl rfl (by decide +kernel) ⟨Nat.le_of_ble_eq_true rfl, Nat.le_of_ble_eq_true rfl⟩) hE hP hN rfl (by decide) rfl hl.1 (Nat.le_of_ble_eq_true rfl) dX12_joinStep_48 ⟨Nat.zero_le _, Nat.zero_le _⟩) hP hN hS rfl (fun H locs hP hS => ?_)
        refine lv_if_eq (tgt := 63) hx hb dX12_joinStep_51 (by decide) (fun c_51 => ?_) (fun c_51 => ?_)
        · have hf := it_pos c_51 hf
          refine lv_bipush (v := -2) hx hb dX12_joinStep_63 (by decide) ?_
          have hf := Option.some.inj hf
          rewrite [← hQ, ← hf]
          exact x_iret hx hb hr hlocks hP hS dX12_joinStep_65
        · have hf := it_neg c_51 hf
          refine lv_aload_n hx hb dX12_joinStep_54 rfl (lv_at hl 1 rfl) ?_
          refine x_get hx hb hts u_X12_joinStep_X12 hown hE hP 0 rfl rfl 15 (by decide) (hts (.fieldLink RX12 47 "DecreasingDiagramsModel" "path" "[I") (List.mem_of_getElem? (i := 2) rfl)) rfl dX12_joinStep_55 ?_
          refine lv_iload_n hx hb dX12_joinStep_58 rfl (lv_at hl 4 rfl) ?_
          obtain ⟨hi, hf⟩ := ck_some hf
          refine x_iald hx hb hE hP 7 rfl hi dX12_joinStep_59 ?_
          refine lv_goto (tgt := 65) hx hb dX12_joinStep_60 (by decide) ?_
          have hf := Option.some.inj hf
          rewrite [← hQ, ← hf]
          exact x_iret hx hb hr hlocks hP hS dX12_joinStep_65
      · have hf := it_neg (fun h => h c_27) hf
        refine lv_bipush (v := -2) hx hb dX12_joinStep_30 (by decide) ?_
        have hf := Option.some.inj hf
        rewrite [← hQ, ← hf]
        exact x_iret hx hb hr hlocks hP hS dX12_joinStep_32
    · have hf := it_neg (fun h => h c_12) hf
      refine lv_iconst (v := -1) hx hb dX12_joinStep_15 (by decide) ?_
      have hf := Option.some.inj hf
      rewrite [← hQ, ← hf]
      exact x_iret hx hb hr hlocks hP hS dX12_joinStep_16

set_option maxRecDepth 20000 in
theorem u_X12_label_X12 : ∀ w ∈ wsX120, w ∈ wsX12_label := xx_pl _ [11, 12, 13, 14, 15, 16, 17, 18, 19, 20, 21, 22, 23, 24, 25, 26, 27, 28, 29, 30, 31, 32, 33, 34, 35, 36, 37, 38, 39, 40, 41, 42, 43, 44, 45, 46, 47, 48, 49, 50, 51, 52, 53, 54, 55, 56, 57, 58, 59, 60, 61, 62] (by decide +kernel)
def f_X12_label (steps : Int32) (labels : (Nat → Int32)) (v1 : Int32) : Option (Int32) :=
  (f_X12_isStep steps v1).bind (fun r_2 => if r_2 = 0 then (some (-1)) else (ck v1 32 (some (labels v1.toNatClampNeg))))
set_option maxHeartbeats 4000000 in
set_option maxRecDepth 100000 in
theorem k_X12_label (l : Launch) (D : va_G) (G : Nat → ClassId) (fu : Nat) (h : Nat) (a_pairs : Nat) (a_above : Nat) (a_sources : Nat) (a_targets : Nat) (a_labels : Nat) (a_lengths : Nat) (a_letters : Nat) (a_distances : Nat) (a_longest : Nat) (a_lengthsTo : Nat) (a_lengthsFrom : Nat) (a_path : Nat) (a_output : Nat) (a_found : Nat) (a_keptLabels : Nat) (a_keptPairs : Nat) (a_input : Nat) (a_sides : Nat) (a_sideLengths : Nat) (a_newLengths : Nat) (a_newLetters : Nat) (a_newSources : Nat) (a_newTargets : Nat) (a_newLabels : Nat) (a_word : Nat) (a_failed : Nat) (a_sizes : Nat) (a_arrays : Nat) (a_savedLengths : Nat) (a_savedSources : Nat) (a_savedTargets : Nat) (a_savedLabels : Nat) (a_savedSideLengths : Nat) (a_savedLetters : Nat) (a_savedSides : Nat) (a_savedPairs : Nat) (objects : Int32) (steps : Int32) (firstStep : Int32) (secondStep : Int32) (pathLength : Int32) (outputLength : Int32) (foundSteps : Int32) (inputLength : Int32) (rules : Int32) (newObjects : Int32) (newSteps : Int32) (wordSize : Int32) (hasSnapshot : Int32) (savedObjects : Int32) (savedSteps : Int32) (savedRules : Int32) (labels : (Nat → Int32))  (v1 : Int32) (out : Int32) (hf : f_X12_label steps labels v1 = some out) : xMet l yX12_label wsX12_label (rM 2 43) D G [.ref h, .int v1] [[(h, .inr (11, [.ref a_pairs, .ref a_above, .int objects, .int steps, .ref a_sources, .ref a_targets, .ref a_labels, .ref a_lengths, .ref a_letters, .ref a_distances, .ref a_longest, .int firstStep, .int secondStep, .ref a_lengthsTo, .ref a_lengthsFrom, .ref a_path, .int pathLength, .ref a_output, .int outputLength, .ref a_found, .int foundSteps, .ref a_keptLabels, .ref a_keptPairs, .ref a_input, .int inputLength, .int rules, .ref a_sides, .ref a_sideLengths, .int newObjects, .int newSteps, .ref a_newLengths, .ref a_newLetters, .ref a_newSources, .ref a_newTargets, .ref a_newLabels, .ref a_word, .int wordSize, .ref a_failed, .ref a_sizes, .ref a_arrays, .int hasSnapshot, .int savedObjects, .int savedSteps, .int savedRules, .ref a_savedLengths, .ref a_savedSources, .ref a_savedTargets, .ref a_savedLabels, .ref a_savedSideLengths, .ref a_savedLetters, .ref a_savedSides, .ref a_savedPairs]))], [(a_labels, .inl (G 0, 32, .inl labels))]] (xQi D [[(h, .inr (11, [.ref a_pairs, .ref a_above, .int objects, .int steps, .ref a_sources, .ref a_targets, .ref a_labels, .ref a_lengths, .ref a_letters, .ref a_distances, .ref a_longest, .int firstStep, .int secondStep, .ref a_lengthsTo, .ref a_lengthsFrom, .ref a_path, .int pathLength, .ref a_output, .int outputLength, .ref a_found, .int foundSteps, .ref a_keptLabels, .ref a_keptPairs, .ref a_input, .int inputLength, .int rules, .ref a_sides, .ref a_sideLengths, .int newObjects, .int newSteps, .ref a_newLengths, .ref a_newLetters, .ref a_newSources, .ref a_newTargets, .ref a_newLabels, .ref a_word, .int wordSize, .ref a_failed, .ref a_sizes, .ref a_arrays, .int hasSnapshot, .int savedObjects, .int savedSteps, .int savedRules, .ref a_savedLengths, .ref a_savedSources, .ref a_savedTargets, .ref a_savedLabels, .ref a_savedSideLengths, .ref a_savedLetters, .ref a_savedSides, .ref a_savedPairs]))], [(a_labels, .inl (G 0, 32, .inl labels))]] out) := by
  refine x_ent (cc := cX12_label) (maxL := 2) (by decide) rfl (Nat.le_of_ble_eq_true rfl) ?_
  intro p e s m blw meth c aa ls args Q H locs hQ hx hb hr hml hown hts hlocks hE hN hl hP hS
  have hown : s.vm.findClass RX12 = some m.cls := hown
  have hl : lv_has ls 2 [(0, .ref h), (1, .int v1)] := hl
  refine lv_aload_n hx hb dX12_label_0 rfl (lv_at hl 0 rfl) ?_
  refine lv_iload_n hx hb dX12_label_1 rfl (lv_at hl 1 rfl) ?_
  obtain ⟨r_2, hr_2, hf⟩ := bd_some hf
  refine x_goi0 (ps := [0]) (x_runV (As := [.int v1]) (rest := []) (ps := [0]) ⟨hx, hb, hml, hown, hts⟩ (k_X12_isStep l D G fu h a_pairs a_above a_sources a_targets a_labels a_lengths a_letters a_distances a_longest a_lengthsTo a_lengthsFrom a_path a_output a_found a_keptLabels a_keptPairs a_input a_sides a_sideLengths a_newLengths a_newLetters a_newSources a_newTargets a_newLabels a_word a_failed a_sizes a_arrays a_savedLengths a_savedSources a_savedTargets a_savedLabels a_savedSideLengths a_savedLetters a_savedSides a_savedPairs objects steps firstStep secondStep pathLength outputLength foundSteps inputLength rules newObjects newSteps wordSize hasSnapshot savedObjects savedSteps savedRules v1 r_2 hr_2) (cwV 1 hts gX12_label_X12_isStep rfl rfl rfl (by decide +kernel) ⟨Nat.le_of_ble_eq_true rfl, Nat.le_of_ble_eq_true rfl⟩) hE hP hN rfl (by decide) 0 rfl rfl rfl hl.1 (Nat.le_of_ble_eq_true rfl) dX12_label_2 ⟨Nat.zero_le _, Nat.zero_le _⟩) hP hN hS rfl (fun H locs hP hS => ?_)
  refine lv_if_eq (tgt := 17) hx hb dX12_label_5 (by decide) (fun c_5 => ?_) (fun c_5 => ?_)
  · have hf := it_pos c_5 hf
    refine lv_iconst (v := -1) hx hb dX12_label_17 (by decide) ?_
    have hf := Option.some.inj hf
    rewrite [← hQ, ← hf]
    exact x_iret hx hb hr hlocks hP hS dX12_label_18
  · have hf := it_neg c_5 hf
    refine lv_aload_n hx hb dX12_label_8 rfl (lv_at hl 0 rfl) ?_
    refine x_get hx hb hts u_X12_label_X12 hown hE hP 0 rfl rfl 6 (by decide) (hts (.fieldLink RX12 24 "DecreasingDiagramsModel" "labels" "[I") (List.mem_of_getElem? (i := 1) rfl)) rfl dX12_label_9 ?_
    refine lv_iload_n hx hb dX12_label_12 rfl (lv_at hl 1 rfl) ?_
    obtain ⟨hi, hf⟩ := ck_some hf
    refine x_iald hx hb hE hP 1 rfl hi dX12_label_13 ?_
    refine lv_goto (tgt := 18) hx hb dX12_label_14 (by decide) ?_
    have hf := Option.some.inj hf
    rewrite [← hQ, ← hf]
    exact x_iret hx hb hr hlocks hP hS dX12_label_18

set_option maxRecDepth 20000 in
theorem u_X12_letter_X12 : ∀ w ∈ wsX120, w ∈ wsX12_letter := xx_pl _ [12, 13, 14, 15, 16, 17, 18, 19, 20, 21, 22, 23, 24, 25, 26, 27, 28, 29, 30, 31, 32, 33, 34, 35, 36, 37, 38, 39, 40, 41, 42, 43, 44, 45, 46, 47, 48, 49, 50, 51, 52, 53, 54, 55, 56, 57, 58, 59, 60, 61, 62, 63] (by decide +kernel)
def f_X12_letter (objects : Int32) (lengths : (Nat → Int32)) (letters : (Nat → Nat → Int32)) (v1 : Int32) (v2 : Int32) : Option (Int32) :=
  (f_X12_isObject objects v1).bind (fun r_2 => if ¬ r_2 = 0 then (ck v1 16 ((f_X12_isBetween v2 0 ((lengths v1.toNatClampNeg) - 1)).bind (fun r_22 => if r_22 = 0 then (some (-2)) else (ck v1 16 (ck v2 8 (some (letters v1.toNatClampNeg v2.toNatClampNeg))))))) else (some (-1)))
set_option maxHeartbeats 4000000 in
set_option maxRecDepth 100000 in
theorem k_X12_letter (l : Launch) (D : va_G) (G : Nat → ClassId) (fu : Nat) (h : Nat) (a_pairs : Nat) (a_above : Nat) (a_sources : Nat) (a_targets : Nat) (a_labels : Nat) (a_lengths : Nat) (a_letters : Nat) (a_distances : Nat) (a_longest : Nat) (a_lengthsTo : Nat) (a_lengthsFrom : Nat) (a_path : Nat) (a_output : Nat) (a_found : Nat) (a_keptLabels : Nat) (a_keptPairs : Nat) (a_input : Nat) (a_sides : Nat) (a_sideLengths : Nat) (a_newLengths : Nat) (a_newLetters : Nat) (a_newSources : Nat) (a_newTargets : Nat) (a_newLabels : Nat) (a_word : Nat) (a_failed : Nat) (a_sizes : Nat) (a_arrays : Nat) (a_savedLengths : Nat) (a_savedSources : Nat) (a_savedTargets : Nat) (a_savedLabels : Nat) (a_savedSideLengths : Nat) (a_savedLetters : Nat) (a_savedSides : Nat) (a_savedPairs : Nat) (r_letters : Nat → Nat) (objects : Int32) (steps : Int32) (firstStep : Int32) (secondStep : Int32) (pathLength : Int32) (outputLength : Int32) (foundSteps : Int32) (inputLength : Int32) (rules : Int32) (newObjects : Int32) (newSteps : Int32) (wordSize : Int32) (hasSnapshot : Int32) (savedObjects : Int32) (savedSteps : Int32) (savedRules : Int32) (lengths : (Nat → Int32)) (letters : (Nat → Nat → Int32))  (v1 : Int32) (v2 : Int32) (out : Int32) (hf : f_X12_letter objects lengths letters v1 v2 = some out) : xMet l yX12_letter wsX12_letter (rM 2 43) D G [.ref h, .int v1, .int v2] [[(h, .inr (11, [.ref a_pairs, .ref a_above, .int objects, .int steps, .ref a_sources, .ref a_targets, .ref a_labels, .ref a_lengths, .ref a_letters, .ref a_distances, .ref a_longest, .int firstStep, .int secondStep, .ref a_lengthsTo, .ref a_lengthsFrom, .ref a_path, .int pathLength, .ref a_output, .int outputLength, .ref a_found, .int foundSteps, .ref a_keptLabels, .ref a_keptPairs, .ref a_input, .int inputLength, .int rules, .ref a_sides, .ref a_sideLengths, .int newObjects, .int newSteps, .ref a_newLengths, .ref a_newLetters, .ref a_newSources, .ref a_newTargets, .ref a_newLabels, .ref a_word, .int wordSize, .ref a_failed, .ref a_sizes, .ref a_arrays, .int hasSnapshot, .int savedObjects, .int savedSteps, .int savedRules, .ref a_savedLengths, .ref a_savedSources, .ref a_savedTargets, .ref a_savedLabels, .ref a_savedSideLengths, .ref a_savedLetters, .ref a_savedSides, .ref a_savedPairs]))], [(a_lengths, .inl (G 0, 16, .inl lengths))], [gO (G 4) a_letters r_letters 16], gI (G 0) r_letters 16 8 letters] (xQi D [[(h, .inr (11, [.ref a_pairs, .ref a_above, .int objects, .int steps, .ref a_sources, .ref a_targets, .ref a_labels, .ref a_lengths, .ref a_letters, .ref a_distances, .ref a_longest, .int firstStep, .int secondStep, .ref a_lengthsTo, .ref a_lengthsFrom, .ref a_path, .int pathLength, .ref a_output, .int outputLength, .ref a_found, .int foundSteps, .ref a_keptLabels, .ref a_keptPairs, .ref a_input, .int inputLength, .int rules, .ref a_sides, .ref a_sideLengths, .int newObjects, .int newSteps, .ref a_newLengths, .ref a_newLetters, .ref a_newSources, .ref a_newTargets, .ref a_newLabels, .ref a_word, .int wordSize, .ref a_failed, .ref a_sizes, .ref a_arrays, .int hasSnapshot, .int savedObjects, .int savedSteps, .int savedRules, .ref a_savedLengths, .ref a_savedSources, .ref a_savedTargets, .ref a_savedLabels, .ref a_savedSideLengths, .ref a_savedLetters, .ref a_savedSides, .ref a_savedPairs]))], [(a_lengths, .inl (G 0, 16, .inl lengths))], [gO (G 4) a_letters r_letters 16], gI (G 0) r_letters 16 8 letters] out) := by
  refine x_ent (cc := cX12_letter) (maxL := 3) (by decide) rfl (Nat.le_of_ble_eq_true rfl) ?_
  intro p e s m blw meth c aa ls args Q H locs hQ hx hb hr hml hown hts hlocks hE hN hl hP hS
  have hown : s.vm.findClass RX12 = some m.cls := hown
  have hl : lv_has ls 3 [(0, .ref h), (1, .int v1), (2, .int v2)] := hl
  refine lv_aload_n hx hb dX12_letter_0 rfl (lv_at hl 0 rfl) ?_
  refine lv_iload_n hx hb dX12_letter_1 rfl (lv_at hl 1 rfl) ?_
  obtain ⟨r_2, hr_2, hf⟩ := bd_some hf
  refine x_goi0 (ps := [0]) (x_runV (As := [.int v1]) (rest := []) (ps := [0]) ⟨hx, hb, hml, hown, hts⟩ (k_X12_isObject l D G fu h a_pairs a_above a_sources a_targets a_labels a_lengths a_letters a_distances a_longest a_lengthsTo a_lengthsFrom a_path a_output a_found a_keptLabels a_keptPairs a_input a_sides a_sideLengths a_newLengths a_newLetters a_newSources a_newTargets a_newLabels a_word a_failed a_sizes a_arrays a_savedLengths a_savedSources a_savedTargets a_savedLabels a_savedSideLengths a_savedLetters a_savedSides a_savedPairs objects steps firstStep secondStep pathLength outputLength foundSteps inputLength rules newObjects newSteps wordSize hasSnapshot savedObjects savedSteps savedRules v1 r_2 hr_2) (cwV 1 hts gX12_letter_X12_isObject rfl rfl rfl (by decide +kernel) ⟨Nat.le_of_ble_eq_true rfl, Nat.le_of_ble_eq_true rfl⟩) hE hP hN rfl (by decide) 0 rfl rfl rfl hl.1 (Nat.le_of_ble_eq_true rfl) dX12_letter_2 ⟨Nat.zero_le _, Nat.zero_le _⟩) hP hN hS rfl (fun H locs hP hS => ?_)
  refine lv_if_ne (tgt := 12) hx hb dX12_letter_5 (by decide) (fun c_5 => ?_) (fun c_5 => ?_)
  · have hf := it_pos c_5 hf
    refine lv_iload_n hx hb dX12_letter_12 rfl (lv_at hl 2 rfl) ?_
    refine lv_iconst (v := 0) hx hb dX12_letter_13 (by decide) ?_
    refine lv_aload_n hx hb dX12_letter_14 rfl (lv_at hl 0 rfl) ?_
    refine x_get hx hb hts u_X12_letter_X12 hown hE hP 0 rfl rfl 7 (by decide) (hts (.fieldLink RX12 27 "DecreasingDiagramsModel" "lengths" "[I") (List.mem_of_getElem? (i := 1) rfl)) rfl dX12_letter_15 ?_
    refine lv_iload_n hx hb dX12_letter_18 rfl (lv_at hl 1 rfl) ?_
    obtain ⟨hi, hf⟩ := ck_some hf
    refine x_iald hx hb hE hP 1 rfl hi dX12_letter_19 ?_
    refine lv_iconst (v := 1) hx hb dX12_letter_20 (by decide) ?_
    refine lv_isub hx hb dX12_letter_21 ?_
    obtain ⟨r_22, hr_22, hf⟩ := bd_some hf
    refine x_goi0 (ps := []) (x_runS (As := [.int v2, .int 0, .int ((lengths v1.toNatClampNeg) - 1)]) (rest := []) (ps := []) ⟨hx, hb, hml, hown, hts⟩ (k_X12_isBetween l D G fu v2 0 ((lengths v1.toNatClampNeg) - 1) r_22 hr_22) (va_cwS 3 hts gX12_letter_X12_isBetween rfl rfl rfl (by decide +kernel) ⟨Nat.le_of_ble_eq_true rfl, Nat.le_of_ble_eq_true rfl⟩) hE hP hN rfl (by decide) rfl hl.1 (Nat.le_of_ble_eq_true rfl) dX12_letter_22 ⟨Nat.zero_le _, Nat.zero_le _⟩) hP hN hS rfl (fun H locs hP hS => ?_)
    refine lv_if_eq (tgt := 39) hx hb dX12_letter_25 (by decide) (fun c_25 => ?_) (fun c_25 => ?_)
    · have hf := it_pos c_25 hf
      refine lv_bipush (v := -2) hx hb dX12_letter_39 (by decide) ?_
      have hf := Option.some.inj hf
      rewrite [← hQ, ← hf]
      exact x_iret hx hb hr hlocks hP hS dX12_letter_41
    · have hf := it_neg c_25 hf
      refine lv_aload_n hx hb dX12_letter_28 rfl (lv_at hl 0 rfl) ?_
      refine x_get hx hb hts u_X12_letter_X12 hown hE hP 0 rfl rfl 8 (by decide) (hts (.fieldLink RX12 32 "DecreasingDiagramsModel" "letters" "[[I") (List.mem_of_getElem? (i := 2) rfl)) rfl dX12_letter_29 ?_
      refine lv_iload_n hx hb dX12_letter_32 rfl (lv_at hl 1 rfl) ?_
      obtain ⟨hq_33, hf⟩ := ck_some hf
      refine x_aald hx hb hE hP 2 4 rfl rfl hq_33 dX12_letter_33 ?_
      refine lv_iload_n hx hb dX12_letter_34 rfl (lv_at hl 2 rfl) ?_
      obtain ⟨hi, hf⟩ := ck_some hf
      refine x_iald2 hx hb hE hP 3 rfl hq_33 hi dX12_letter_35 ?_
      refine lv_goto (tgt := 41) hx hb dX12_letter_36 (by decide) ?_
      have hf := Option.some.inj hf
      rewrite [← hQ, ← hf]
      exact x_iret hx hb hr hlocks hP hS dX12_letter_41
  · have hf := it_neg (fun h => h c_5) hf
    refine lv_iconst (v := -1) hx hb dX12_letter_8 (by decide) ?_
    refine lv_goto (tgt := 41) hx hb dX12_letter_9 (by decide) ?_
    have hf := Option.some.inj hf
    rewrite [← hQ, ← hf]
    exact x_iret hx hb hr hlocks hP hS dX12_letter_41

set_option maxRecDepth 20000 in
theorem u_X12_longestPath_X12 : ∀ w ∈ wsX120, w ∈ wsX12_longestPath := xx_pl _ [23, 24, 25, 26, 27, 28, 29, 30, 31, 32, 33, 34, 35, 36, 37, 38, 39, 40, 41, 42, 43, 44, 45, 46, 47, 48, 49, 50, 51, 52, 53, 54, 55, 56, 57, 58, 59, 60, 61, 62, 63, 64, 65, 66, 67, 68, 69, 70, 71, 72, 73, 74] (by decide +kernel)
def f_X12_longestPath_J176 (v1 : Int32) (distances : (Nat → Nat → Int32)) (longest : (Nat → Int32)) : Option (Int32 × (Nat → Nat → Int32) × (Nat → Int32)) :=
  ck v1 16 (some (longest v1.toNatClampNeg, distances, longest))
def f_X12_longestPath_J170 (rec_64 : (Int32 → (Nat → Int32) → Option (Int32 × (Nat → Nat → Int32) × (Nat → Int32)))) (v2 : Int32) (longest : (Nat → Int32)) : Option (Int32 × (Nat → Nat → Int32) × (Nat → Int32)) :=
  lt (v2 + 1) (fun v2_170 => rec_64 v2_170 longest)
def f_X12_longestPath_J164 (rec_74 : (Int32 → (Nat → Int32) → Option (Int32 × (Nat → Nat → Int32) × (Nat → Int32)))) (v3 : Int32) (longest : (Nat → Int32)) : Option (Int32 × (Nat → Nat → Int32) × (Nat → Int32)) :=
  lt (v3 + 1) (fun v3_164 => rec_74 v3_164 longest)
def f_X12_longestPath_J106 (sources : (Nat → Int32)) (targets : (Nat → Int32)) (rec_74 : (Int32 → (Nat → Int32) → Option (Int32 × (Nat → Nat → Int32) × (Nat → Int32)))) (t0 : Int32) (v3 : Int32) (longest : (Nat → Int32)) : Option (Int32 × (Nat → Nat → Int32) × (Nat → Int32)) :=
  lt t0 (fun v4_106 => if v4_106 = 0 then (f_X12_longestPath_J164 rec_74 v3 longest) else (ck v3 32 (ck (targets v3.toNatClampNeg) 16 (ck v3 32 (ck (sources v3.toNatClampNeg) 16 (if ((longest (targets v3.toNatClampNeg).toNatClampNeg) + 1) ≤ (longest (sources v3.toNatClampNeg).toNatClampNeg) then (f_X12_longestPath_J164 rec_74 v3 longest) else (ck v3 32 (ck v3 32 (ck (targets v3.toNatClampNeg) 16 (ck (sources v3.toNatClampNeg) 16 (lt (upd longest (sources v3.toNatClampNeg).toNatClampNeg ((longest (targets v3.toNatClampNeg).toNatClampNeg) + 1)) (fun longest_163 => f_X12_longestPath_J164 rec_74 v3 longest_163))))))))))))
def f_X12_longestPath_L74 (steps : Int32) (distances : (Nat → Nat → Int32)) (sources : (Nat → Int32)) (targets : (Nat → Int32)) (v1 : Int32) (v2 : Int32) (rec_64 : (Int32 → (Nat → Int32) → Option (Int32 × (Nat → Nat → Int32) × (Nat → Int32)))) (rec_74 : Int32 → (Nat → Int32) → Option (Int32 × (Nat → Nat → Int32) × (Nat → Int32))) (v3 : Int32) (longest : (Nat → Int32)) : Option (Int32 × (Nat → Nat → Int32) × (Nat → Int32)) :=
  if steps ≤ v3 then (f_X12_longestPath_J170 rec_64 v2 longest) else (ck v1 16 (ck v3 32 (ck (sources v3.toNatClampNeg) 16 (if 1000 ≤ (distances v1.toNatClampNeg (sources v3.toNatClampNeg).toNatClampNeg) then (f_X12_longestPath_J106 sources targets rec_74 0 v3 longest) else (f_X12_longestPath_J106 sources targets rec_74 1 v3 longest)))))
def f_X12_longestPath_L64 (fu : Nat) (objects : Int32) (steps : Int32) (distances : (Nat → Nat → Int32)) (sources : (Nat → Int32)) (targets : (Nat → Int32)) (v1 : Int32) (rec_64 : Int32 → (Nat → Int32) → Option (Int32 × (Nat → Nat → Int32) × (Nat → Int32))) (v2 : Int32) (longest : (Nat → Int32)) : Option (Int32 × (Nat → Nat → Int32) × (Nat → Int32)) :=
  if objects ≤ v2 then (f_X12_longestPath_J176 v1 distances longest) else (lt (0 : Int32) (fun v3_73 => lp (τ := Int32 → (Nat → Int32) → Option (Int32 × (Nat → Nat → Int32) × (Nat → Int32))) (fun _ _ => none) (f_X12_longestPath_L74 steps distances sources targets v1 v2 rec_64) fu v3_73 longest))
def f_X12_longestPath_J62 (fu : Nat) (objects : Int32) (steps : Int32) (sources : (Nat → Int32)) (targets : (Nat → Int32)) (v1 : Int32) (distances : (Nat → Nat → Int32)) (longest : (Nat → Int32)) : Option (Int32 × (Nat → Nat → Int32) × (Nat → Int32)) :=
  lt (0 : Int32) (fun v2_63 => lp (τ := Int32 → (Nat → Int32) → Option (Int32 × (Nat → Nat → Int32) × (Nat → Int32))) (fun _ _ => none) (f_X12_longestPath_L64 fu objects steps distances sources targets v1) fu v2_63 longest)
def f_X12_longestPath_J49 (rec_16 : (Int32 → (Nat → Int32) → Option (Int32 × (Nat → Nat → Int32) × (Nat → Int32)))) (v2 : Int32) (longest : (Nat → Int32)) : Option (Int32 × (Nat → Nat → Int32) × (Nat → Int32)) :=
  ck v2 16 (lt (upd longest v2.toNatClampNeg 0) (fun longest_55 => lt (v2 + 1) (fun v2_56 => rec_16 v2_56 longest_55)))
def f_X12_longestPath_L16 (fu : Nat) (objects : Int32) (steps : Int32) (distances : (Nat → Nat → Int32)) (sources : (Nat → Int32)) (targets : (Nat → Int32)) (v1 : Int32) (rec_16 : Int32 → (Nat → Int32) → Option (Int32 × (Nat → Nat → Int32) × (Nat → Int32))) (v2 : Int32) (longest : (Nat → Int32)) : Option (Int32 × (Nat → Nat → Int32) × (Nat → Int32)) :=
  if objects ≤ v2 then (f_X12_longestPath_J62 fu objects steps sources targets v1 distances longest) else (ck v1 16 (ck v2 16 (if 1000 ≤ (distances v1.toNatClampNeg v2.toNatClampNeg) then (f_X12_longestPath_J49 rec_16 v2 longest) else ((f_X12_isOnCycle fu steps distances sources targets v2).bind (fun r_40 => if r_40 = 0 then (f_X12_longestPath_J49 rec_16 v2 longest) else (some ((-2), distances, longest)))))))
def f_X12_longestPath (fu : Nat) (objects : Int32) (steps : Int32) (distances : (Nat → Nat → Int32)) (longest : (Nat → Int32)) (sources : (Nat → Int32)) (targets : (Nat → Int32)) (v1 : Int32) : Option (Int32 × (Nat → Nat → Int32) × (Nat → Int32)) :=
  (f_X12_isObject objects v1).bind (fun r_2 => if ¬ r_2 = 0 then ((f_X12_findDistances fu objects steps distances sources targets).bind (fun r_11 => lt (0 : Int32) (fun v2_15 => lp (τ := Int32 → (Nat → Int32) → Option (Int32 × (Nat → Nat → Int32) × (Nat → Int32))) (fun _ _ => none) (f_X12_longestPath_L16 fu objects steps r_11 sources targets v1) fu v2_15 longest))) else (some ((-1), distances, longest)))
set_option maxHeartbeats 4000000 in
set_option maxRecDepth 100000 in
theorem k_X12_longestPath (l : Launch) (D : va_G) (G : Nat → ClassId) (fu : Nat) (h : Nat) (a_pairs : Nat) (a_above : Nat) (a_sources : Nat) (a_targets : Nat) (a_labels : Nat) (a_lengths : Nat) (a_letters : Nat) (a_distances : Nat) (a_longest : Nat) (a_lengthsTo : Nat) (a_lengthsFrom : Nat) (a_path : Nat) (a_output : Nat) (a_found : Nat) (a_keptLabels : Nat) (a_keptPairs : Nat) (a_input : Nat) (a_sides : Nat) (a_sideLengths : Nat) (a_newLengths : Nat) (a_newLetters : Nat) (a_newSources : Nat) (a_newTargets : Nat) (a_newLabels : Nat) (a_word : Nat) (a_failed : Nat) (a_sizes : Nat) (a_arrays : Nat) (a_savedLengths : Nat) (a_savedSources : Nat) (a_savedTargets : Nat) (a_savedLabels : Nat) (a_savedSideLengths : Nat) (a_savedLetters : Nat) (a_savedSides : Nat) (a_savedPairs : Nat) (r_distances : Nat → Nat) (objects : Int32) (steps : Int32) (firstStep : Int32) (secondStep : Int32) (pathLength : Int32) (outputLength : Int32) (foundSteps : Int32) (inputLength : Int32) (rules : Int32) (newObjects : Int32) (newSteps : Int32) (wordSize : Int32) (hasSnapshot : Int32) (savedObjects : Int32) (savedSteps : Int32) (savedRules : Int32) (distances : (Nat → Nat → Int32)) (longest : (Nat → Int32)) (sources : (Nat → Int32)) (targets : (Nat → Int32))  (v1 : Int32) (out : Int32 × (Nat → Nat → Int32) × (Nat → Int32)) (hf : f_X12_longestPath fu objects steps distances longest sources targets v1 = some out) : xMet l yX12_longestPath wsX12_longestPath (rM 2 43) D G [.ref h, .int v1] [[(h, .inr (11, [.ref a_pairs, .ref a_above, .int objects, .int steps, .ref a_sources, .ref a_targets, .ref a_labels, .ref a_lengths, .ref a_letters, .ref a_distances, .ref a_longest, .int firstStep, .int secondStep, .ref a_lengthsTo, .ref a_lengthsFrom, .ref a_path, .int pathLength, .ref a_output, .int outputLength, .ref a_found, .int foundSteps, .ref a_keptLabels, .ref a_keptPairs, .ref a_input, .int inputLength, .int rules, .ref a_sides, .ref a_sideLengths, .int newObjects, .int newSteps, .ref a_newLengths, .ref a_newLetters, .ref a_newSources, .ref a_newTargets, .ref a_newLabels, .ref a_word, .int wordSize, .ref a_failed, .ref a_sizes, .ref a_arrays, .int hasSnapshot, .int savedObjects, .int savedSteps, .int savedRules, .ref a_savedLengths, .ref a_savedSources, .ref a_savedTargets, .ref a_savedLabels, .ref a_savedSideLengths, .ref a_savedLetters, .ref a_savedSides, .ref a_savedPairs]))], [gO (G 4) a_distances r_distances 16], gI (G 0) r_distances 16 16 distances, [(a_longest, .inl (G 0, 16, .inl longest))], [(a_sources, .inl (G 0, 32, .inl sources))], [(a_targets, .inl (G 0, 32, .inl targets))]] (xQi D [[(h, .inr (11, [.ref a_pairs, .ref a_above, .int objects, .int steps, .ref a_sources, .ref a_targets, .ref a_labels, .ref a_lengths, .ref a_letters, .ref a_distances, .ref a_longest, .int firstStep, .int secondStep, .ref a_lengthsTo, .ref a_lengthsFrom, .ref a_path, .int pathLength, .ref a_output, .int outputLength, .ref a_found, .int foundSteps, .ref a_keptLabels, .ref a_keptPairs, .ref a_input, .int inputLength, .int rules, .ref a_sides, .ref a_sideLengths, .int newObjects, .int newSteps, .ref a_newLengths, .ref a_newLetters, .ref a_newSources, .ref a_newTargets, .ref a_newLabels, .ref a_word, .int wordSize, .ref a_failed, .ref a_sizes, .ref a_arrays, .int hasSnapshot, .int savedObjects, .int savedSteps, .int savedRules, .ref a_savedLengths, .ref a_savedSources, .ref a_savedTargets, .ref a_savedLabels, .ref a_savedSideLengths, .ref a_savedLetters, .ref a_savedSides, .ref a_savedPairs]))], [gO (G 4) a_distances r_distances 16], gI (G 0) r_distances 16 16 out.2.1, [(a_longest, .inl (G 0, 16, .inl out.2.2))], [(a_sources, .inl (G 0, 32, .inl sources))], [(a_targets, .inl (G 0, 32, .inl targets))]] out.1) := by
  refine x_ent (cc := cX12_longestPath) (maxL := 5) (by decide) rfl (Nat.le_of_ble_eq_true rfl) ?_
  intro p e s m blw meth c aa ls args Q H locs hQ hx hb hr hml hown hts hlocks hE hN hl hP hS
  have hown : s.vm.findClass RX12 = some m.cls := hown
  have hl : lv_has ls 5 [(0, .ref h), (1, .int v1)] := hl
  have J176 : ∀ (distances : (Nat → Nat → Int32)) (longest : (Nat → Int32)) (H : Heap) (locs : List Loc) (ls : Array Slot), xW D aa [[(h, .inr (11, [.ref a_pairs, .ref a_above, .int objects, .int steps, .ref a_sources, .ref a_targets, .ref a_labels, .ref a_lengths, .ref a_letters, .ref a_distances, .ref a_longest, .int firstStep, .int secondStep, .ref a_lengthsTo, .ref a_lengthsFrom, .ref a_path, .int pathLength, .ref a_output, .int outputLength, .ref a_found, .int foundSteps, .ref a_keptLabels, .ref a_keptPairs, .ref a_input, .int inputLength, .int rules, .ref a_sides, .ref a_sideLengths, .int newObjects, .int newSteps, .ref a_newLengths, .ref a_newLetters, .ref a_newSources, .ref a_newTargets, .ref a_newLabels, .ref a_word, .int wordSize, .ref a_failed, .ref a_sizes, .ref a_arrays, .int hasSnapshot, .int savedObjects, .int savedSteps, .int savedRules, .ref a_savedLengths, .ref a_savedSources, .ref a_savedTargets, .ref a_savedLabels, .ref a_savedSideLengths, .ref a_savedLetters, .ref a_savedSides, .ref a_savedPairs]))], [gO (G 4) a_distances r_distances 16], gI (G 0) r_distances 16 16 distances, [(a_longest, .inl (G 0, 16, .inl longest))], [(a_sources, .inl (G 0, 32, .inl sources))], [(a_targets, .inl (G 0, 32, .inl targets))]] H → va_S (xA aa) s.heap H locs → lv_has ls 5 [(0, .ref h), (1, .int v1)] → f_X12_longestPath_J176 v1 distances longest = some out → W p l e (rM 2 43) s m args blw meth c H locs 0 0 Q (F0 m 176 ls []) := by
    intro distances longest  H locs ls  hP hS hl hf
    refine lv_aload_n hx hb dX12_longestPath_176 rfl (lv_at hl 0 rfl) ?_
    refine x_get hx hb hts u_X12_longestPath_X12 hown hE hP 0 rfl rfl 10 (by decide) (hts (.fieldLink RX12 38 "DecreasingDiagramsModel" "longest" "[I") (List.mem_of_getElem? (i := 3) rfl)) rfl dX12_longestPath_177 ?_
    refine lv_iload_n hx hb dX12_longestPath_180 rfl (lv_at hl 1 rfl) ?_
    obtain ⟨hi, hf⟩ := ck_some hf
    refine x_iald hx hb hE hP 3 rfl hi dX12_longestPath_181 ?_
    have hf := Option.some.inj hf
    rewrite [← hQ, ← hf]
    exact x_iret hx hb hr hlocks hP hS dX12_longestPath_182
  have L64 : ∀ (distances : (Nat → Nat → Int32)), ∀ (n_64 : Nat) (v2 : Int32) (longest : (Nat → Int32)) (H : Heap) (locs : List Loc) (ls : Array Slot), xW D aa [[(h, .inr (11, [.ref a_pairs, .ref a_above, .int objects, .int steps, .ref a_sources, .ref a_targets, .ref a_labels, .ref a_lengths, .ref a_letters, .ref a_distances, .ref a_longest, .int firstStep, .int secondStep, .ref a_lengthsTo, .ref a_lengthsFrom, .ref a_path, .int pathLength, .ref a_output, .int outputLength, .ref a_found, .int foundSteps, .ref a_keptLabels, .ref a_keptPairs, .ref a_input, .int inputLength, .int rules, .ref a_sides, .ref a_sideLengths, .int newObjects, .int newSteps, .ref a_newLengths, .ref a_newLetters, .ref a_newSources, .ref a_newTargets, .ref a_newLabels, .ref a_word, .int wordSize, .ref a_failed, .ref a_sizes, .ref a_arrays, .int hasSnapshot, .int savedObjects, .int savedSteps, .int savedRules, .ref a_savedLengths, .ref a_savedSources, .ref a_savedTargets, .ref a_savedLabels, .ref a_savedSideLengths, .ref a_savedLetters, .ref a_savedSides, .ref a_savedPairs]))], [gO (G 4) a_distances r_distances 16], gI (G 0) r_distances 16 16 distances, [(a_longest, .inl (G 0, 16, .inl longest))], [(a_sources, .inl (G 0, 32, .inl sources))], [(a_targets, .inl (G 0, 32, .inl targets))]] H → va_S (xA aa) s.heap H locs → lv_has ls 5 [(0, .ref h), (1, .int v1), (2, .int v2)] → lp (τ := Int32 → (Nat → Int32) → Option (Int32 × (Nat → Nat → Int32) × (Nat → Int32))) (fun _ _ => none) (f_X12_longestPath_L64 fu objects steps distances sources targets v1) n_64 v2 longest = some out → W p l e (rM 2 43) s m args blw meth c H locs 0 0 Q (F0 m 64 ls []) := by
    intro distances   n_64
    induction n_64 with
    | zero =>
      intro v2 longest H locs ls hP hS hl hf
      exact no_some hf
    | succ n_64 ih_64 =>
      intro v2 longest H locs ls hP hS hl hf
      have hf : f_X12_longestPath_L64 fu objects steps distances sources targets v1 (lp (τ := Int32 → (Nat → Int32) → Option (Int32 × (Nat → Nat → Int32) × (Nat → Int32))) (fun _ _ => none) (f_X12_longestPath_L64 fu objects steps distances sources targets v1) n_64) v2 longest = some out := hf
      have J170 : ∀ (v2 : Int32) (longest : (Nat → Int32)) (H : Heap) (locs : List Loc) (ls : Array Slot), xW D aa [[(h, .inr (11, [.ref a_pairs, .ref a_above, .int objects, .int steps, .ref a_sources, .ref a_targets, .ref a_labels, .ref a_lengths, .ref a_letters, .ref a_distances, .ref a_longest, .int firstStep, .int secondStep, .ref a_lengthsTo, .ref a_lengthsFrom, .ref a_path, .int pathLength, .ref a_output, .int outputLength, .ref a_found, .int foundSteps, .ref a_keptLabels, .ref a_keptPairs, .ref a_input, .int inputLength, .int rules, .ref a_sides, .ref a_sideLengths, .int newObjects, .int newSteps, .ref a_newLengths, .ref a_newLetters, .ref a_newSources, .ref a_newTargets, .ref a_newLabels, .ref a_word, .int wordSize, .ref a_failed, .ref a_sizes, .ref a_arrays, .int hasSnapshot, .int savedObjects, .int savedSteps, .int savedRules, .ref a_savedLengths, .ref a_savedSources, .ref a_savedTargets, .ref a_savedLabels, .ref a_savedSideLengths, .ref a_savedLetters, .ref a_savedSides, .ref a_savedPairs]))], [gO (G 4) a_distances r_distances 16], gI (G 0) r_distances 16 16 distances, [(a_longest, .inl (G 0, 16, .inl longest))], [(a_sources, .inl (G 0, 32, .inl sources))], [(a_targets, .inl (G 0, 32, .inl targets))]] H → va_S (xA aa) s.heap H locs → lv_has ls 5 [(0, .ref h), (1, .int v1), (2, .int v2)] → f_X12_longestPath_J170 (lp (τ := Int32 → (Nat → Int32) → Option (Int32 × (Nat → Nat → Int32) × (Nat → Int32))) (fun _ _ => none) (f_X12_longestPath_L64 fu objects steps distances sources targets v1) n_64) v2 longest = some out → W p l e (rM 2 43) s m args blw meth c H locs 0 0 Q (F0 m 170 ls []) := by
        intro v2 longest  H locs ls  hP hS hl hf
        obtain ⟨v2_170, e_v2_170, hf⟩ := lt_some hf
        refine lv_iinc (v := v2_170) (lv' := [(2, .int v2_170), (0, .ref h), (1, .int v1)]) hx hb dX12_longestPath_170 hl (k := 2) rfl (by rw [e_v2_170]; rfl) (by decide) rfl (fun ls hl => ?_)
        refine lv_goto (tgt := 64) hx hb dX12_longestPath_173 (by decide) ?_
        exact ih_64 v2_170 longest H locs ls hP hS (lv_sub hl [1, 2, 0] rfl) hf
      have L74 : ∀ (v2 : Int32), ∀ (n_74 : Nat) (v3 : Int32) (longest : (Nat → Int32)) (H : Heap) (locs : List Loc) (ls : Array Slot), xW D aa [[(h, .inr (11, [.ref a_pairs, .ref a_above, .int objects, .int steps, .ref a_sources, .ref a_targets, .ref a_labels, .ref a_lengths, .ref a_letters, .ref a_distances, .ref a_longest, .int firstStep, .int secondStep, .ref a_lengthsTo, .ref a_lengthsFrom, .ref a_path, .int pathLength, .ref a_output, .int outputLength, .ref a_found, .int foundSteps, .ref a_keptLabels, .ref a_keptPairs, .ref a_input, .int inputLength, .int rules, .ref a_sides, .ref a_sideLengths, .int newObjects, .int newSteps, .ref a_newLengths, .ref a_newLetters, .ref a_newSources, .ref a_newTargets, .ref a_newLabels, .ref a_word, .int wordSize, .ref a_failed, .ref a_sizes, .ref a_arrays, .int hasSnapshot, .int savedObjects, .int savedSteps, .int savedRules, .ref a_savedLengths, .ref a_savedSources, .ref a_savedTargets, .ref a_savedLabels, .ref a_savedSideLengths, .ref a_savedLetters, .ref a_savedSides, .ref a_savedPairs]))], [gO (G 4) a_distances r_distances 16], gI (G 0) r_distances 16 16 distances, [(a_longest, .inl (G 0, 16, .inl longest))], [(a_sources, .inl (G 0, 32, .inl sources))], [(a_targets, .inl (G 0, 32, .inl targets))]] H → va_S (xA aa) s.heap H locs → lv_has ls 5 [(0, .ref h), (1, .int v1), (2, .int v2), (3, .int v3)] → lp (τ := Int32 → (Nat → Int32) → Option (Int32 × (Nat → Nat → Int32) × (Nat → Int32))) (fun _ _ => none) (f_X12_longestPath_L74 steps distances sources targets v1 v2 (lp (τ := Int32 → (Nat → Int32) → Option (Int32 × (Nat → Nat → Int32) × (Nat → Int32))) (fun _ _ => none) (f_X12_longestPath_L64 fu objects steps distances sources targets v1) n_64)) n_74 v3 longest = some out → W p l e (rM 2 43) s m args blw meth c H locs 0 0 Q (F0 m 74 ls []) := by
        intro v2   n_74
        induction n_74 with
        | zero =>
          intro v3 longest H locs ls hP hS hl hf
          exact no_some hf
        | succ n_74 ih_74 =>
          intro v3 longest H locs ls hP hS hl hf
          have hf : f_X12_longestPath_L74 steps distances sources targets v1 v2 (lp (τ := Int32 → (Nat → Int32) → Option (Int32 × (Nat → Nat → Int32) × (Nat → Int32))) (fun _ _ => none) (f_X12_longestPath_L64 fu objects steps distances sources targets v1) n_64) (lp (τ := Int32 → (Nat → Int32) → Option (Int32 × (Nat → Nat → Int32) × (Nat → Int32))) (fun _ _ => none) (f_X12_longestPath_L74 steps distances sources targets v1 v2 (lp (τ := Int32 → (Nat → Int32) → Option (Int32 × (Nat → Nat → Int32) × (Nat → Int32))) (fun _ _ => none) (f_X12_longestPath_L64 fu objects steps distances sources targets v1) n_64)) n_74) v3 longest = some out := hf
          have J164 : ∀ (v3 : Int32) (longest : (Nat → Int32)) (H : Heap) (locs : List Loc) (ls : Array Slot), xW D aa [[(h, .inr (11, [.ref a_pairs, .ref a_above, .int objects, .int steps, .ref a_sources, .ref a_targets, .ref a_labels, .ref a_lengths, .ref a_letters, .ref a_distances, .ref a_longest, .int firstStep, .int secondStep, .ref a_lengthsTo, .ref a_lengthsFrom, .ref a_path, .int pathLength, .ref a_output, .int outputLength, .ref a_found, .int foundSteps, .ref a_keptLabels, .ref a_keptPairs, .ref a_input, .int inputLength, .int rules, .ref a_sides, .ref a_sideLengths, .int newObjects, .int newSteps, .ref a_newLengths, .ref a_newLetters, .ref a_newSources, .ref a_newTargets, .ref a_newLabels, .ref a_word, .int wordSize, .ref a_failed, .ref a_sizes, .ref a_arrays, .int hasSnapshot, .int savedObjects, .int savedSteps, .int savedRules, .ref a_savedLengths, .ref a_savedSources, .ref a_savedTargets, .ref a_savedLabels, .ref a_savedSideLengths, .ref a_savedLetters, .ref a_savedSides, .ref a_savedPairs]))], [gO (G 4) a_distances r_distances 16], gI (G 0) r_distances 16 16 distances, [(a_longest, .inl (G 0, 16, .inl longest))], [(a_sources, .inl (G 0, 32, .inl sources))], [(a_targets, .inl (G 0, 32, .inl targets))]] H → va_S (xA aa) s.heap H locs → lv_has ls 5 [(0, .ref h), (1, .int v1), (2, .int v2), (3, .int v3)] → f_X12_longestPath_J164 (lp (τ := Int32 → (Nat → Int32) → Option (Int32 × (Nat → Nat → Int32) × (Nat → Int32))) (fun _ _ => none) (f_X12_longestPath_L74 steps distances sources targets v1 v2 (lp (τ := Int32 → (Nat → Int32) → Option (Int32 × (Nat → Nat → Int32) × (Nat → Int32))) (fun _ _ => none) (f_X12_longestPath_L64 fu objects steps distances sources targets v1) n_64)) n_74) v3 longest = some out → W p l e (rM 2 43) s m args blw meth c H locs 0 0 Q (F0 m 164 ls []) := by
            intro v3 longest  H locs ls  hP hS hl hf
            obtain ⟨v3_164, e_v3_164, hf⟩ := lt_some hf
            refine lv_iinc (v := v3_164) (lv' := [(3, .int v3_164), (0, .ref h), (1, .int v1), (2, .int v2)]) hx hb dX12_longestPath_164 hl (k := 3) rfl (by rw [e_v3_164]; rfl) (by decide) rfl (fun ls hl => ?_)
            refine lv_goto (tgt := 74) hx hb dX12_longestPath_167 (by decide) ?_
            exact ih_74 v3_164 longest H locs ls hP hS (lv_sub hl [1, 2, 3, 0] rfl) hf
          have J106 : ∀ (t0 : Int32) (v3 : Int32) (longest : (Nat → Int32)) (H : Heap) (locs : List Loc) (ls : Array Slot), xW D aa [[(h, .inr (11, [.ref a_pairs, .ref a_above, .int objects, .int steps, .ref a_sources, .ref a_targets, .ref a_labels, .ref a_lengths, .ref a_letters, .ref a_distances, .ref a_longest, .int firstStep, .int secondStep, .ref a_lengthsTo, .ref a_lengthsFrom, .ref a_path, .int pathLength, .ref a_output, .int outputLength, .ref a_found, .int foundSteps, .ref a_keptLabels, .ref a_keptPairs, .ref a_input, .int inputLength, .int rules, .ref a_sides, .ref a_sideLengths, .int newObjects, .int newSteps, .ref a_newLengths, .ref a_newLetters, .ref a_newSources, .ref a_newTargets, .ref a_newLabels, .ref a_word, .int wordSize, .ref a_failed, .ref a_sizes, .ref a_arrays, .int hasSnapshot, .int savedObjects, .int savedSteps, .int savedRules, .ref a_savedLengths, .ref a_savedSources, .ref a_savedTargets, .ref a_savedLabels, .ref a_savedSideLengths, .ref a_savedLetters, .ref a_savedSides, .ref a_savedPairs]))], [gO (G 4) a_distances r_distances 16], gI (G 0) r_distances 16 16 distances, [(a_longest, .inl (G 0, 16, .inl longest))], [(a_sources, .inl (G 0, 32, .inl sources))], [(a_targets, .inl (G 0, 32, .inl targets))]] H → va_S (xA aa) s.heap H locs → lv_has ls 5 [(0, .ref h), (1, .int v1), (2, .int v2), (3, .int v3)] → f_X12_longestPath_J106 sources targets (lp (τ := Int32 → (Nat → Int32) → Option (Int32 × (Nat → Nat → Int32) × (Nat → Int32))) (fun _ _ => none) (f_X12_longestPath_L74 steps distances sources targets v1 v2 (lp (τ := Int32 → (Nat → Int32) → Option (Int32 × (Nat → Nat → Int32) × (Nat → Int32))) (fun _ _ => none) (f_X12_longestPath_L64 fu objects steps distances sources targets v1) n_64)) n_74) t0 v3 longest = some out → W p l e (rM 2 43) s m args blw meth c H locs 0 0 Q (F0 m 106 ls [.int t0]) := by
            intro t0 v3 longest  H locs ls  hP hS hl hf
            obtain ⟨v4_106, e_v4_106, hf⟩ := lt_some hf
            refine x_istore (v := v4_106) (lv' := [(4, .int v4_106), (0, .ref h), (1, .int v1), (2, .int v2), (3, .int v3)]) hx hb dX12_longestPath_106 e_v4_106 hl (by decide) rfl (fun ls hl => ?_)
            refine lv_iload hx hb dX12_longestPath_108 (lv_at hl 0 rfl) ?_
            refine lv_if_eq (tgt := 164) hx hb dX12_longestPath_110 (by decide) (fun c_110 => ?_) (fun c_110 => ?_)
            · have hf := it_pos c_110 hf
              exact J164 v3 longest  H locs ls  hP hS (lv_sub hl [1, 2, 3, 4] rfl) hf
            · have hf := it_neg c_110 hf
              refine lv_aload_n hx hb dX12_longestPath_113 rfl (lv_at hl 1 rfl) ?_
              refine x_get hx hb hts u_X12_longestPath_X12 hown hE hP 0 rfl rfl 10 (by decide) (hts (.fieldLink RX12 38 "DecreasingDiagramsModel" "longest" "[I") (List.mem_of_getElem? (i := 3) rfl)) rfl dX12_longestPath_114 ?_
              refine lv_aload_n hx hb dX12_longestPath_117 rfl (lv_at hl 1 rfl) ?_
              refine x_get hx hb hts u_X12_longestPath_X12 hown hE hP 0 rfl rfl 5 (by decide) (hts (.fieldLink RX12 21 "DecreasingDiagramsModel" "targets" "[I") (List.mem_of_getElem? (i := 6) rfl)) rfl dX12_longestPath_118 ?_
              refine lv_iload_n hx hb dX12_longestPath_121 rfl (lv_at hl 4 rfl) ?_
              obtain ⟨hi, hf⟩ := ck_some hf
              refine x_iald hx hb hE hP 5 rfl hi dX12_longestPath_122 ?_
              obtain ⟨hi, hf⟩ := ck_some hf
              refine x_iald hx hb hE hP 3 rfl hi dX12_longestPath_123 ?_
              refine lv_iconst (v := 1) hx hb dX12_longestPath_124 (by decide) ?_
              refine lv_iadd hx hb dX12_longestPath_125 ?_
              refine lv_aload_n hx hb dX12_longestPath_126 rfl (lv_at hl 1 rfl) ?_
              refine x_get hx hb hts u_X12_longestPath_X12 hown hE hP 0 rfl rfl 10 (by decide) (hts (.fieldLink RX12 38 "DecreasingDiagramsModel" "longest" "[I") (List.mem_of_getElem? (i := 3) rfl)) rfl dX12_longestPath_127 ?_
              refine lv_aload_n hx hb dX12_longestPath_130 rfl (lv_at hl 1 rfl) ?_
              refine x_get hx hb hts u_X12_longestPath_X12 hown hE hP 0 rfl rfl 4 (by decide) (hts (.fieldLink RX12 17 "DecreasingDiagramsModel" "sources" "[I") (List.mem_of_getElem? (i := 5) rfl)) rfl dX12_longestPath_131 ?_
              refine lv_iload_n hx hb dX12_longestPath_134 rfl (lv_at hl 4 rfl) ?_
              obtain ⟨hi, hf⟩ := ck_some hf
              refine x_iald hx hb hE hP 4 rfl hi dX12_longestPath_135 ?_
              obtain ⟨hi, hf⟩ := ck_some hf
              refine x_iald hx hb hE hP 3 rfl hi dX12_longestPath_136 ?_
              refine lv_icmp_le (tgt := 164) hx hb dX12_longestPath_137 (by decide) (fun c_137 => ?_) (fun c_137 => ?_)
              · have hf := it_pos c_137 hf
                exact J164 v3 longest  H locs ls  hP hS (lv_sub hl [1, 2, 3, 4] rfl) hf
              · have hf := it_neg c_137 hf
                refine lv_aload_n hx hb dX12_longestPath_140 rfl (lv_at hl 1 rfl) ?_
                refine x_get hx hb hts u_X12_longestPath_X12 hown hE hP 0 rfl rfl 10 (by decide) (hts (.fieldLink RX12 38 "DecreasingDiagramsModel" "longest" "[I") (List.mem_of_getElem? (i := 3) rfl)) rfl dX12_longestPath_141 ?_
                refine lv_aload_n hx hb dX12_longestPath_144 rfl (lv_at hl 1 rfl) ?_
                refine x_get hx hb hts u_X12_longestPath_X12 hown hE hP 0 rfl rfl 4 (by decide) (hts (.fieldLink RX12 17 "DecreasingDiagramsModel" "sources" "[I") (List.mem_of_getElem? (i := 5) rfl)) rfl dX12_longestPath_145 ?_
                refine lv_iload_n hx hb dX12_longestPath_148 rfl (lv_at hl 4 rfl) ?_
                obtain ⟨hi, hf⟩ := ck_some hf
                refine x_iald hx hb hE hP 4 rfl hi dX12_longestPath_149 ?_
                refine lv_aload_n hx hb dX12_longestPath_150 rfl (lv_at hl 1 rfl) ?_
                refine x_get hx hb hts u_X12_longestPath_X12 hown hE hP 0 rfl rfl 10 (by decide) (hts (.fieldLink RX12 38 "DecreasingDiagramsModel" "longest" "[I") (List.mem_of_getElem? (i := 3) rfl)) rfl dX12_longestPath_151 ?_
                refine lv_aload_n hx hb dX12_longestPath_154 rfl (lv_at hl 1 rfl) ?_
                refine x_get hx hb hts u_X12_longestPath_X12 hown hE hP 0 rfl rfl 5 (by decide) (hts (.fieldLink RX12 21 "DecreasingDiagramsModel" "targets" "[I") (List.mem_of_getElem? (i := 6) rfl)) rfl dX12_longestPath_155 ?_
                refine lv_iload_n hx hb dX12_longestPath_158 rfl (lv_at hl 4 rfl) ?_
                obtain ⟨hi, hf⟩ := ck_some hf
                refine x_iald hx hb hE hP 5 rfl hi dX12_longestPath_159 ?_
                obtain ⟨hi, hf⟩ := ck_some hf
                refine x_iald hx hb hE hP 3 rfl hi dX12_longestPath_160 ?_
                refine lv_iconst (v := 1) hx hb dX12_longestPath_161 (by decide) ?_
                refine lv_iadd hx hb dX12_longestPath_162 ?_
                obtain ⟨hi, hf⟩ := ck_some hf
                obtain ⟨longest_163, e_longest_163, hf⟩ := lt_some hf
                refine x_iast (I' := [[(h, .inr (11, [.ref a_pairs, .ref a_above, .int objects, .int steps, .ref a_sources, .ref a_targets, .ref a_labels, .ref a_lengths, .ref a_letters, .ref a_distances, .ref a_longest, .int firstStep, .int secondStep, .ref a_lengthsTo, .ref a_lengthsFrom, .ref a_path, .int pathLength, .ref a_output, .int outputLength, .ref a_found, .int foundSteps, .ref a_keptLabels, .ref a_keptPairs, .ref a_input, .int inputLength, .int rules, .ref a_sides, .ref a_sideLengths, .int newObjects, .int newSteps, .ref a_newLengths, .ref a_newLetters, .ref a_newSources, .ref a_newTargets, .ref a_newLabels, .ref a_word, .int wordSize, .ref a_failed, .ref a_sizes, .ref a_arrays, .int hasSnapshot, .int savedObjects, .int savedSteps, .int savedRules, .ref a_savedLengths, .ref a_savedSources, .ref a_savedTargets, .ref a_savedLabels, .ref a_savedSideLengths, .ref a_savedLetters, .ref a_savedSides, .ref a_savedPairs]))], [gO (G 4) a_distances r_distances 16], gI (G 0) r_distances 16 16 distances, [(a_longest, .inl (G 0, 16, .inl longest_163))], [(a_sources, .inl (G 0, 32, .inl sources))], [(a_targets, .inl (G 0, 32, .inl targets))]]) hx hb hE hP hN hS 3 rfl hi e_longest_163 rfl dX12_longestPath_163 (fun H locs hP hS => ?_)
                exact J164 v3 longest_163  H locs ls  hP hS (lv_sub hl [1, 2, 3, 4] rfl) hf
          refine lv_iload_n hx hb dX12_longestPath_74 rfl (lv_at hl 3 rfl) ?_
          refine lv_aload_n hx hb dX12_longestPath_75 rfl (lv_at hl 0 rfl) ?_
          refine x_get hx hb hts u_X12_longestPath_X12 hown hE hP 0 rfl rfl 3 (by decide) (hts (.fieldLink RX12 135 "DecreasingDiagramsModel" "steps" "I") (List.mem_of_getElem? (i := 4) rfl)) rfl dX12_longestPath_76 ?_
          refine lv_icmp_ge (tgt := 170) hx hb dX12_longestPath_79 (by decide) (fun c_79 => ?_) (fun c_79 => ?_)
          · have hf := it_pos c_79 hf
            exact J170 v2 longest  H locs ls  hP hS (lv_sub hl [0, 1, 2] rfl) hf
          · have hf := it_neg c_79 hf
            refine lv_aload_n hx hb dX12_longestPath_82 rfl (lv_at hl 0 rfl) ?_
            refine x_get hx hb hts u_X12_longestPath_X12 hown hE hP 0 rfl rfl 9 (by decide) (hts (.fieldLink RX12 35 "DecreasingDiagramsModel" "distances" "[[I") (List.mem_of_getElem? (i := 2) rfl)) rfl dX12_longestPath_83 ?_
            refine lv_iload_n hx hb dX12_longestPath_86 rfl (lv_at hl 1 rfl) ?_
            obtain ⟨hq_87, hf⟩ := ck_some hf
            refine x_aald hx hb hE hP 1 4 rfl rfl hq_87 dX12_longestPath_87 ?_
            refine lv_aload_n hx hb dX12_longestPath_88 rfl (lv_at hl 0 rfl) ?_
            refine x_get hx hb hts u_X12_longestPath_X12 hown hE hP 0 rfl rfl 4 (by decide) (hts (.fieldLink RX12 17 "DecreasingDiagramsModel" "sources" "[I") (List.mem_of_getElem? (i := 5) rfl)) rfl dX12_longestPath_89 ?_
            refine lv_iload_n hx hb dX12_longestPath_92 rfl (lv_at hl 3 rfl) ?_
            obtain ⟨hi, hf⟩ := ck_some hf
            refine x_iald hx hb hE hP 4 rfl hi dX12_longestPath_93 ?_
            obtain ⟨hi, hf⟩ := ck_some hf
            refine x_iald2 hx hb hE hP 2 rfl hq_87 hi dX12_longestPath_94 ?_
            refine lv_sipush (v := 1000) hx hb dX12_longestPath_95 (by decide) ?_
            refine lv_icmp_ge (tgt := 105) hx hb dX12_longestPath_98 (by decide) (fun c_98 => ?_) (fun c_98 => ?_)
            · have hf := it_pos c_98 hf
              refine lv_iconst (v := 0) hx hb dX12_longestPath_105 (by decide) ?_
              exact J106 0 v3 longest  H locs ls  hP hS (lv_sub hl [0, 1, 2, 3] rfl) hf
            · have hf := it_neg c_98 hf
              refine lv_iconst (v := 1) hx hb dX12_longestPath_101 (by decide) ?_
              refine lv_goto (tgt := 106) hx hb dX12_longestPath_102 (by decide) ?_
              exact J106 1 v3 longest  H locs ls  hP hS (lv_sub hl [0, 1, 2, 3] rfl) hf
      refine lv_iload_n hx hb dX12_longestPath_64 rfl (lv_at hl 2 rfl) ?_
      refine lv_aload_n hx hb dX12_longestPath_65 rfl (lv_at hl 0 rfl) ?_
      refine x_get hx hb hts u_X12_longestPath_X12 hown hE hP 0 rfl rfl 2 (by decide) (hts (.fieldLink RX12 132 "DecreasingDiagramsModel" "objects" "I") (List.mem_of_getElem? (i := 1) rfl)) rfl dX12_longestPath_66 ?_
      refine lv_icmp_ge (tgt := 176) hx hb dX12_longestPath_69 (by decide) (fun c_69 => ?_) (fun c_69 => ?_)
      · have hf := it_pos c_69 hf
        exact J176 distances longest  H locs ls  hP hS (lv_sub hl [0, 1] rfl) hf
      · have hf := it_neg c_69 hf
        refine lv_iconst (v := 0) hx hb dX12_longestPath_72 (by decide) ?_
        obtain ⟨v3_73, e_v3_73, hf⟩ := lt_some hf
        refine x_istore_n (v := v3_73) (lv' := [(3, .int v3_73), (0, .ref h), (1, .int v1), (2, .int v2)]) hx hb dX12_longestPath_73 e_v3_73 rfl hl (by decide) rfl (fun ls hl => ?_)
        exact L74 v2   fu v3_73 longest H locs ls hP hS (lv_sub hl [1, 2, 3, 0] rfl) hf
  have J62 : ∀ (distances : (Nat → Nat → Int32)) (longest : (Nat → Int32)) (H : Heap) (locs : List Loc) (ls : Array Slot), xW D aa [[(h, .inr (11, [.ref a_pairs, .ref a_above, .int objects, .int steps, .ref a_sources, .ref a_targets, .ref a_labels, .ref a_lengths, .ref a_letters, .ref a_distances, .ref a_longest, .int firstStep, .int secondStep, .ref a_lengthsTo, .ref a_lengthsFrom, .ref a_path, .int pathLength, .ref a_output, .int outputLength, .ref a_found, .int foundSteps, .ref a_keptLabels, .ref a_keptPairs, .ref a_input, .int inputLength, .int rules, .ref a_sides, .ref a_sideLengths, .int newObjects, .int newSteps, .ref a_newLengths, .ref a_newLetters, .ref a_newSources, .ref a_newTargets, .ref a_newLabels, .ref a_word, .int wordSize, .ref a_failed, .ref a_sizes, .ref a_arrays, .int hasSnapshot, .int savedObjects, .int savedSteps, .int savedRules, .ref a_savedLengths, .ref a_savedSources, .ref a_savedTargets, .ref a_savedLabels, .ref a_savedSideLengths, .ref a_savedLetters, .ref a_savedSides, .ref a_savedPairs]))], [gO (G 4) a_distances r_distances 16], gI (G 0) r_distances 16 16 distances, [(a_longest, .inl (G 0, 16, .inl longest))], [(a_sources, .inl (G 0, 32, .inl sources))], [(a_targets, .inl (G 0, 32, .inl targets))]] H → va_S (xA aa) s.heap H locs → lv_has ls 5 [(0, .ref h), (1, .int v1)] → f_X12_longestPath_J62 fu objects steps sources targets v1 distances longest = some out → W p l e (rM 2 43) s m args blw meth c H locs 0 0 Q (F0 m 62 ls []) := by
    intro distances longest  H locs ls  hP hS hl hf
    refine lv_iconst (v := 0) hx hb dX12_longestPath_62 (by decide) ?_
    obtain ⟨v2_63, e_v2_63, hf⟩ := lt_some hf
    refine x_istore_n (v := v2_63) (lv' := [(2, .int v2_63), (0, .ref h), (1, .int v1)]) hx hb dX12_longestPath_63 e_v2_63 rfl hl (by decide) rfl (fun ls hl => ?_)
    exact L64 distances   fu v2_63 longest H locs ls hP hS (lv_sub hl [1, 2, 0] rfl) hf
  have L16 : ∀ (distances : (Nat → Nat → Int32)), ∀ (n_16 : Nat) (v2 : Int32) (longest : (Nat → Int32)) (H : Heap) (locs : List Loc) (ls : Array Slot), xW D aa [[(h, .inr (11, [.ref a_pairs, .ref a_above, .int objects, .int steps, .ref a_sources, .ref a_targets, .ref a_labels, .ref a_lengths, .ref a_letters, .ref a_distances, .ref a_longest, .int firstStep, .int secondStep, .ref a_lengthsTo, .ref a_lengthsFrom, .ref a_path, .int pathLength, .ref a_output, .int outputLength, .ref a_found, .int foundSteps, .ref a_keptLabels, .ref a_keptPairs, .ref a_input, .int inputLength, .int rules, .ref a_sides, .ref a_sideLengths, .int newObjects, .int newSteps, .ref a_newLengths, .ref a_newLetters, .ref a_newSources, .ref a_newTargets, .ref a_newLabels, .ref a_word, .int wordSize, .ref a_failed, .ref a_sizes, .ref a_arrays, .int hasSnapshot, .int savedObjects, .int savedSteps, .int savedRules, .ref a_savedLengths, .ref a_savedSources, .ref a_savedTargets, .ref a_savedLabels, .ref a_savedSideLengths, .ref a_savedLetters, .ref a_savedSides, .ref a_savedPairs]))], [gO (G 4) a_distances r_distances 16], gI (G 0) r_distances 16 16 distances, [(a_longest, .inl (G 0, 16, .inl longest))], [(a_sources, .inl (G 0, 32, .inl sources))], [(a_targets, .inl (G 0, 32, .inl targets))]] H → va_S (xA aa) s.heap H locs → lv_has ls 5 [(0, .ref h), (1, .int v1), (2, .int v2)] → lp (τ := Int32 → (Nat → Int32) → Option (Int32 × (Nat → Nat → Int32) × (Nat → Int32))) (fun _ _ => none) (f_X12_longestPath_L16 fu objects steps distances sources targets v1) n_16 v2 longest = some out → W p l e (rM 2 43) s m args blw meth c H locs 0 0 Q (F0 m 16 ls []) := by
    intro distances   n_16
    induction n_16 with
    | zero =>
      intro v2 longest H locs ls hP hS hl hf
      exact no_some hf
    | succ n_16 ih_16 =>
      intro v2 longest H locs ls hP hS hl hf
      have hf : f_X12_longestPath_L16 fu objects steps distances sources targets v1 (lp (τ := Int32 → (Nat → Int32) → Option (Int32 × (Nat → Nat → Int32) × (Nat → Int32))) (fun _ _ => none) (f_X12_longestPath_L16 fu objects steps distances sources targets v1) n_16) v2 longest = some out := hf
      have J49 : ∀ (v2 : Int32) (longest : (Nat → Int32)) (H : Heap) (locs : List Loc) (ls : Array Slot), xW D aa [[(h, .inr (11, [.ref a_pairs, .ref a_above, .int objects, .int steps, .ref a_sources, .ref a_targets, .ref a_labels, .ref a_lengths, .ref a_letters, .ref a_distances, .ref a_longest, .int firstStep, .int secondStep, .ref a_lengthsTo, .ref a_lengthsFrom, .ref a_path, .int pathLength, .ref a_output, .int outputLength, .ref a_found, .int foundSteps, .ref a_keptLabels, .ref a_keptPairs, .ref a_input, .int inputLength, .int rules, .ref a_sides, .ref a_sideLengths, .int newObjects, .int newSteps, .ref a_newLengths, .ref a_newLetters, .ref a_newSources, .ref a_newTargets, .ref a_newLabels, .ref a_word, .int wordSize, .ref a_failed, .ref a_sizes, .ref a_arrays, .int hasSnapshot, .int savedObjects, .int savedSteps, .int savedRules, .ref a_savedLengths, .ref a_savedSources, .ref a_savedTargets, .ref a_savedLabels, .ref a_savedSideLengths, .ref a_savedLetters, .ref a_savedSides, .ref a_savedPairs]))], [gO (G 4) a_distances r_distances 16], gI (G 0) r_distances 16 16 distances, [(a_longest, .inl (G 0, 16, .inl longest))], [(a_sources, .inl (G 0, 32, .inl sources))], [(a_targets, .inl (G 0, 32, .inl targets))]] H → va_S (xA aa) s.heap H locs → lv_has ls 5 [(0, .ref h), (1, .int v1), (2, .int v2)] → f_X12_longestPath_J49 (lp (τ := Int32 → (Nat → Int32) → Option (Int32 × (Nat → Nat → Int32) × (Nat → Int32))) (fun _ _ => none) (f_X12_longestPath_L16 fu objects steps distances sources targets v1) n_16) v2 longest = some out → W p l e (rM 2 43) s m args blw meth c H locs 0 0 Q (F0 m 49 ls []) := by
        intro v2 longest  H locs ls  hP hS hl hf
        refine lv_aload_n hx hb dX12_longestPath_49 rfl (lv_at hl 0 rfl) ?_
        refine x_get hx hb hts u_X12_longestPath_X12 hown hE hP 0 rfl rfl 10 (by decide) (hts (.fieldLink RX12 38 "DecreasingDiagramsModel" "longest" "[I") (List.mem_of_getElem? (i := 3) rfl)) rfl dX12_longestPath_50 ?_
        refine lv_iload_n hx hb dX12_longestPath_53 rfl (lv_at hl 2 rfl) ?_
        refine lv_iconst (v := 0) hx hb dX12_longestPath_54 (by decide) ?_
        obtain ⟨hi, hf⟩ := ck_some hf
        obtain ⟨longest_55, e_longest_55, hf⟩ := lt_some hf
        refine x_iast (I' := [[(h, .inr (11, [.ref a_pairs, .ref a_above, .int objects, .int steps, .ref a_sources, .ref a_targets, .ref a_labels, .ref a_lengths, .ref a_letters, .ref a_distances, .ref a_longest, .int firstStep, .int secondStep, .ref a_lengthsTo, .ref a_lengthsFrom, .ref a_path, .int pathLength, .ref a_output, .int outputLength, .ref a_found, .int foundSteps, .ref a_keptLabels, .ref a_keptPairs, .ref a_input, .int inputLength, .int rules, .ref a_sides, .ref a_sideLengths, .int newObjects, .int newSteps, .ref a_newLengths, .ref a_newLetters, .ref a_newSources, .ref a_newTargets, .ref a_newLabels, .ref a_word, .int wordSize, .ref a_failed, .ref a_sizes, .ref a_arrays, .int hasSnapshot, .int savedObjects, .int savedSteps, .int savedRules, .ref a_savedLengths, .ref a_savedSources, .ref a_savedTargets, .ref a_savedLabels, .ref a_savedSideLengths, .ref a_savedLetters, .ref a_savedSides, .ref a_savedPairs]))], [gO (G 4) a_distances r_distances 16], gI (G 0) r_distances 16 16 distances, [(a_longest, .inl (G 0, 16, .inl longest_55))], [(a_sources, .inl (G 0, 32, .inl sources))], [(a_targets, .inl (G 0, 32, .inl targets))]]) hx hb hE hP hN hS 3 rfl hi e_longest_55 rfl dX12_longestPath_55 (fun H locs hP hS => ?_)
        obtain ⟨v2_56, e_v2_56, hf⟩ := lt_some hf
        refine lv_iinc (v := v2_56) (lv' := [(2, .int v2_56), (0, .ref h), (1, .int v1)]) hx hb dX12_longestPath_56 hl (k := 2) rfl (by rw [e_v2_56]; rfl) (by decide) rfl (fun ls hl => ?_)
        refine lv_goto (tgt := 16) hx hb dX12_longestPath_59 (by decide) ?_
        exact ih_16 v2_56 longest_55 H locs ls hP hS (lv_sub hl [1, 2, 0] rfl) hf
      refine lv_iload_n hx hb dX12_longestPath_16 rfl (lv_at hl 2 rfl) ?_
      refine lv_aload_n hx hb dX12_longestPath_17 rfl (lv_at hl 0 rfl) ?_
      refine x_get hx hb hts u_X12_longestPath_X12 hown hE hP 0 rfl rfl 2 (by decide) (hts (.fieldLink RX12 132 "DecreasingDiagramsModel" "objects" "I") (List.mem_of_getElem? (i := 1) rfl)) rfl dX12_longestPath_18 ?_
      refine lv_icmp_ge (tgt := 62) hx hb dX12_longestPath_21 (by decide) (fun c_21 => ?_) (fun c_21 => ?_)
      · have hf := it_pos c_21 hf
        exact J62 distances longest  H locs ls  hP hS (lv_sub hl [0, 1] rfl) hf
      · have hf := it_neg c_21 hf
        refine lv_aload_n hx hb dX12_longestPath_24 rfl (lv_at hl 0 rfl) ?_
        refine x_get hx hb hts u_X12_longestPath_X12 hown hE hP 0 rfl rfl 9 (by decide) (hts (.fieldLink RX12 35 "DecreasingDiagramsModel" "distances" "[[I") (List.mem_of_getElem? (i := 2) rfl)) rfl dX12_longestPath_25 ?_
        refine lv_iload_n hx hb dX12_longestPath_28 rfl (lv_at hl 1 rfl) ?_
        obtain ⟨hq_29, hf⟩ := ck_some hf
        refine x_aald hx hb hE hP 1 4 rfl rfl hq_29 dX12_longestPath_29 ?_
        refine lv_iload_n hx hb dX12_longestPath_30 rfl (lv_at hl 2 rfl) ?_
        obtain ⟨hi, hf⟩ := ck_some hf
        refine x_iald2 hx hb hE hP 2 rfl hq_29 hi dX12_longestPath_31 ?_
        refine lv_sipush (v := 1000) hx hb dX12_longestPath_32 (by decide) ?_
        refine lv_icmp_ge (tgt := 49) hx hb dX12_longestPath_35 (by decide) (fun c_35 => ?_) (fun c_35 => ?_)
        · have hf := it_pos c_35 hf
          exact J49 v2 longest  H locs ls  hP hS (lv_sub hl [0, 1, 2] rfl) hf
        · have hf := it_neg c_35 hf
          refine lv_aload_n hx hb dX12_longestPath_38 rfl (lv_at hl 0 rfl) ?_
          refine lv_iload_n hx hb dX12_longestPath_39 rfl (lv_at hl 2 rfl) ?_
          obtain ⟨r_40, hr_40, hf⟩ := bd_some hf
          refine x_goi0 (ps := [0, 1, 2, 4, 5]) (x_runV (As := [.int v2]) (rest := []) (ps := [0, 1, 2, 4, 5]) ⟨hx, hb, hml, hown, hts⟩ (k_X12_isOnCycle l D G fu h a_pairs a_above a_sources a_targets a_labels a_lengths a_letters a_distances a_longest a_lengthsTo a_lengthsFrom a_path a_output a_found a_keptLabels a_keptPairs a_input a_sides a_sideLengths a_newLengths a_newLetters a_newSources a_newTargets a_newLabels a_word a_failed a_sizes a_arrays a_savedLengths a_savedSources a_savedTargets a_savedLabels a_savedSideLengths a_savedLetters a_savedSides a_savedPairs r_distances objects steps firstStep secondStep pathLength outputLength foundSteps inputLength rules newObjects newSteps wordSize hasSnapshot savedObjects savedSteps savedRules distances sources targets v2 r_40 hr_40) (cwV 1 hts gX12_longestPath_X12_isOnCycle rfl rfl rfl (by decide +kernel) ⟨Nat.le_of_ble_eq_true rfl, Nat.le_of_ble_eq_true rfl⟩) hE hP hN rfl (by decide) 0 rfl rfl rfl hl.1 (Nat.le_of_ble_eq_true rfl) dX12_longestPath_40 ⟨Nat.zero_le _, Nat.zero_le _⟩) hP hN hS rfl (fun H locs hP hS => ?_)
          refine lv_if_eq (tgt := 49) hx hb dX12_longestPath_43 (by decide) (fun c_43 => ?_) (fun c_43 => ?_)
          · have hf := it_pos c_43 hf
            exact J49 v2 longest  H locs ls  hP hS (lv_sub hl [0, 1, 2] rfl) hf
          · have hf := it_neg c_43 hf
            refine lv_bipush (v := -2) hx hb dX12_longestPath_46 (by decide) ?_
            have hf := Option.some.inj hf
            rewrite [← hQ, ← hf]
            exact x_iret hx hb hr hlocks hP hS dX12_longestPath_48
  refine lv_aload_n hx hb dX12_longestPath_0 rfl (lv_at hl 0 rfl) ?_
  refine lv_iload_n hx hb dX12_longestPath_1 rfl (lv_at hl 1 rfl) ?_
  obtain ⟨r_2, hr_2, hf⟩ := bd_some hf
  refine x_goi0 (ps := [0]) (x_runV (As := [.int v1]) (rest := []) (ps := [0]) ⟨hx, hb, hml, hown, hts⟩ (k_X12_isObject l D G fu h a_pairs a_above a_sources a_targets a_labels a_lengths a_letters a_distances a_longest a_lengthsTo a_lengthsFrom a_path a_output a_found a_keptLabels a_keptPairs a_input a_sides a_sideLengths a_newLengths a_newLetters a_newSources a_newTargets a_newLabels a_word a_failed a_sizes a_arrays a_savedLengths a_savedSources a_savedTargets a_savedLabels a_savedSideLengths a_savedLetters a_savedSides a_savedPairs objects steps firstStep secondStep pathLength outputLength foundSteps inputLength rules newObjects newSteps wordSize hasSnapshot savedObjects savedSteps savedRules v1 r_2 hr_2) (cwV 1 hts gX12_longestPath_X12_isObject rfl rfl rfl (by decide +kernel) ⟨Nat.le_of_ble_eq_true rfl, Nat.le_of_ble_eq_true rfl⟩) hE hP hN rfl (by decide) 0 rfl rfl rfl hl.1 (Nat.le_of_ble_eq_true rfl) dX12_longestPath_2 ⟨Nat.zero_le _, Nat.zero_le _⟩) hP hN hS rfl (fun H locs hP hS => ?_)
  refine lv_if_ne (tgt := 10) hx hb dX12_longestPath_5 (by decide) (fun c_5 => ?_) (fun c_5 => ?_)
  · have hf := it_pos c_5 hf
    refine lv_aload_n hx hb dX12_longestPath_10 rfl (lv_at hl 0 rfl) ?_
    obtain ⟨r_11, hr_11, hf⟩ := bd_some hf
    refine x_gov (ps := [0, 1, 2, 4, 5]) (qs := [3]) (n := 6) (I' := [[(h, .inr (11, [.ref a_pairs, .ref a_above, .int objects, .int steps, .ref a_sources, .ref a_targets, .ref a_labels, .ref a_lengths, .ref a_letters, .ref a_distances, .ref a_longest, .int firstStep, .int secondStep, .ref a_lengthsTo, .ref a_lengthsFrom, .ref a_path, .int pathLength, .ref a_output, .int outputLength, .ref a_found, .int foundSteps, .ref a_keptLabels, .ref a_keptPairs, .ref a_input, .int inputLength, .int rules, .ref a_sides, .ref a_sideLengths, .int newObjects, .int newSteps, .ref a_newLengths, .ref a_newLetters, .ref a_newSources, .ref a_newTargets, .ref a_newLabels, .ref a_word, .int wordSize, .ref a_failed, .ref a_sizes, .ref a_arrays, .int hasSnapshot, .int savedObjects, .int savedSteps, .int savedRules, .ref a_savedLengths, .ref a_savedSources, .ref a_savedTargets, .ref a_savedLabels, .ref a_savedSideLengths, .ref a_savedLetters, .ref a_savedSides, .ref a_savedPairs]))], [gO (G 4) a_distances r_distances 16], gI (G 0) r_distances 16 16 r_11, [(a_longest, .inl (G 0, 16, .inl longest))], [(a_sources, .inl (G 0, 32, .inl sources))], [(a_targets, .inl (G 0, 32, .inl targets))]]) (x_runV (As := []) (rest := []) (ps := [0, 1, 2, 4, 5]) ⟨hx, hb, hml, hown, hts⟩ (k_X12_findDistances l D G fu h a_pairs a_above a_sources a_targets a_labels a_lengths a_letters a_distances a_longest a_lengthsTo a_lengthsFrom a_path a_output a_found a_keptLabels a_keptPairs a_input a_sides a_sideLengths a_newLengths a_newLetters a_newSources a_newTargets a_newLabels a_word a_failed a_sizes a_arrays a_savedLengths a_savedSources a_savedTargets a_savedLabels a_savedSideLengths a_savedLetters a_savedSides a_savedPairs r_distances objects steps firstStep secondStep pathLength outputLength foundSteps inputLength rules newObjects newSteps wordSize hasSnapshot savedObjects savedSteps savedRules distances sources targets r_11 hr_11) (cwV 0 hts gX12_longestPath_X12_findDistances rfl rfl rfl (by decide +kernel) ⟨Nat.le_of_ble_eq_true rfl, Nat.le_of_ble_eq_true rfl⟩) hE hP hN rfl (by decide) 0 rfl rfl rfl hl.1 (Nat.le_of_ble_eq_true rfl) dX12_longestPath_11 ⟨Nat.zero_le _, Nat.zero_le _⟩) hP hN hS rfl rfl rfl rfl rfl (by decide) (fun H locs hP hS => ?_)
    refine lv_iconst (v := 0) hx hb dX12_longestPath_14 (by decide) ?_
    obtain ⟨v2_15, e_v2_15, hf⟩ := lt_some hf
    refine x_istore_n (v := v2_15) (lv' := [(2, .int v2_15), (0, .ref h), (1, .int v1)]) hx hb dX12_longestPath_15 e_v2_15 rfl hl (by decide) rfl (fun ls hl => ?_)
    exact L16 r_11   fu v2_15 longest H locs ls hP hS (lv_sub hl [1, 2, 0] rfl) hf
  · have hf := it_neg (fun h => h c_5) hf
    refine lv_iconst (v := -1) hx hb dX12_longestPath_8 (by decide) ?_
    have hf := Option.some.inj hf
    rewrite [← hQ, ← hf]
    exact x_iret hx hb hr hlocks hP hS dX12_longestPath_9

set_option maxRecDepth 20000 in
theorem u_X12_newArray_X12 : ∀ w ∈ wsX120, w ∈ wsX12_newArray := xx_pl _ [10, 11, 12, 13, 14, 15, 16, 17, 18, 19, 20, 21, 22, 23, 24, 25, 26, 27, 28, 29, 30, 31, 32, 33, 34, 35, 36, 37, 38, 39, 40, 41, 42, 43, 44, 45, 46, 47, 48, 49, 50, 51, 52, 53, 54, 55, 56, 57, 58, 59, 60, 61] (by decide +kernel)
def f_X12_newArray_L31 (sizes : (Nat → Int32)) (v1 : Int32) (v2 : Int32) (rec_31 : Int32 → (Nat → Nat → Int64) → Option (Int32 × (Nat → Nat → Int64) × (Nat → Int32))) (v3 : Int32) (arrays : (Nat → Nat → Int64)) : Option (Int32 × (Nat → Nat → Int64) × (Nat → Int32)) :=
  if v2 ≤ v3 then (some (1, arrays, sizes)) else (ck v1 3 (ck v3 16 (lt (up2 arrays v1.toNatClampNeg v3.toNatClampNeg 0) (fun arrays_44 => lt (v3 + 1) (fun v3_45 => rec_31 v3_45 arrays_44)))))
def f_X12_newArray (fu : Nat) (arrays : (Nat → Nat → Int64)) (sizes : (Nat → Int32)) (v1 : Int32) (v2 : Int32) : Option (Int32 × (Nat → Nat → Int64) × (Nat → Int32)) :=
  (f_X12_isArray v1).bind (fun r_1 => if r_1 = 0 then (some ((-1), arrays, sizes)) else (if v2 ≤ 16 then (if 0 ≤ v2 then (ck v1 3 (lt (upd sizes v1.toNatClampNeg v2) (fun sizes_28 => lt (0 : Int32) (fun v3_30 => lp (τ := Int32 → (Nat → Nat → Int64) → Option (Int32 × (Nat → Nat → Int64) × (Nat → Int32))) (fun _ _ => none) (f_X12_newArray_L31 sizes_28 v1 v2) fu v3_30 arrays)))) else (some ((-14), arrays, sizes))) else (some ((-1), arrays, sizes))))
set_option maxHeartbeats 4000000 in
set_option maxRecDepth 100000 in
theorem k_X12_newArray (l : Launch) (D : va_G) (G : Nat → ClassId) (fu : Nat) (h : Nat) (a_pairs : Nat) (a_above : Nat) (a_sources : Nat) (a_targets : Nat) (a_labels : Nat) (a_lengths : Nat) (a_letters : Nat) (a_distances : Nat) (a_longest : Nat) (a_lengthsTo : Nat) (a_lengthsFrom : Nat) (a_path : Nat) (a_output : Nat) (a_found : Nat) (a_keptLabels : Nat) (a_keptPairs : Nat) (a_input : Nat) (a_sides : Nat) (a_sideLengths : Nat) (a_newLengths : Nat) (a_newLetters : Nat) (a_newSources : Nat) (a_newTargets : Nat) (a_newLabels : Nat) (a_word : Nat) (a_failed : Nat) (a_sizes : Nat) (a_arrays : Nat) (a_savedLengths : Nat) (a_savedSources : Nat) (a_savedTargets : Nat) (a_savedLabels : Nat) (a_savedSideLengths : Nat) (a_savedLetters : Nat) (a_savedSides : Nat) (a_savedPairs : Nat) (r_arrays : Nat → Nat) (objects : Int32) (steps : Int32) (firstStep : Int32) (secondStep : Int32) (pathLength : Int32) (outputLength : Int32) (foundSteps : Int32) (inputLength : Int32) (rules : Int32) (newObjects : Int32) (newSteps : Int32) (wordSize : Int32) (hasSnapshot : Int32) (savedObjects : Int32) (savedSteps : Int32) (savedRules : Int32) (arrays : (Nat → Nat → Int64)) (sizes : (Nat → Int32))  (v1 : Int32) (v2 : Int32) (out : Int32 × (Nat → Nat → Int64) × (Nat → Int32)) (hf : f_X12_newArray fu arrays sizes v1 v2 = some out) : xMet l yX12_newArray wsX12_newArray (rM 2 42) D G [.ref h, .int v1, .int v2] [[(h, .inr (11, [.ref a_pairs, .ref a_above, .int objects, .int steps, .ref a_sources, .ref a_targets, .ref a_labels, .ref a_lengths, .ref a_letters, .ref a_distances, .ref a_longest, .int firstStep, .int secondStep, .ref a_lengthsTo, .ref a_lengthsFrom, .ref a_path, .int pathLength, .ref a_output, .int outputLength, .ref a_found, .int foundSteps, .ref a_keptLabels, .ref a_keptPairs, .ref a_input, .int inputLength, .int rules, .ref a_sides, .ref a_sideLengths, .int newObjects, .int newSteps, .ref a_newLengths, .ref a_newLetters, .ref a_newSources, .ref a_newTargets, .ref a_newLabels, .ref a_word, .int wordSize, .ref a_failed, .ref a_sizes, .ref a_arrays, .int hasSnapshot, .int savedObjects, .int savedSteps, .int savedRules, .ref a_savedLengths, .ref a_savedSources, .ref a_savedTargets, .ref a_savedLabels, .ref a_savedSideLengths, .ref a_savedLetters, .ref a_savedSides, .ref a_savedPairs]))], [gO (G 5) a_arrays r_arrays 3], gJ (G 1) r_arrays 3 16 arrays, [(a_sizes, .inl (G 0, 3, .inl sizes))]] (xQi D [[(h, .inr (11, [.ref a_pairs, .ref a_above, .int objects, .int steps, .ref a_sources, .ref a_targets, .ref a_labels, .ref a_lengths, .ref a_letters, .ref a_distances, .ref a_longest, .int firstStep, .int secondStep, .ref a_lengthsTo, .ref a_lengthsFrom, .ref a_path, .int pathLength, .ref a_output, .int outputLength, .ref a_found, .int foundSteps, .ref a_keptLabels, .ref a_keptPairs, .ref a_input, .int inputLength, .int rules, .ref a_sides, .ref a_sideLengths, .int newObjects, .int newSteps, .ref a_newLengths, .ref a_newLetters, .ref a_newSources, .ref a_newTargets, .ref a_newLabels, .ref a_word, .int wordSize, .ref a_failed, .ref a_sizes, .ref a_arrays, .int hasSnapshot, .int savedObjects, .int savedSteps, .int savedRules, .ref a_savedLengths, .ref a_savedSources, .ref a_savedTargets, .ref a_savedLabels, .ref a_savedSideLengths, .ref a_savedLetters, .ref a_savedSides, .ref a_savedPairs]))], [gO (G 5) a_arrays r_arrays 3], gJ (G 1) r_arrays 3 16 out.2.1, [(a_sizes, .inl (G 0, 3, .inl out.2.2))]] out.1) := by
  refine x_ent (cc := cX12_newArray) (maxL := 4) (by decide) rfl (Nat.le_of_ble_eq_true rfl) ?_
  intro p e s m blw meth c aa ls args Q H locs hQ hx hb hr hml hown hts hlocks hE hN hl hP hS
  have hown : s.vm.findClass RX12 = some m.cls := hown
  have hl : lv_has ls 4 [(0, .ref h), (1, .int v1), (2, .int v2)] := hl
  have L31 : ∀ (sizes : (Nat → Int32)), ∀ (n_31 : Nat) (v3 : Int32) (arrays : (Nat → Nat → Int64)) (H : Heap) (locs : List Loc) (ls : Array Slot), xW D aa [[(h, .inr (11, [.ref a_pairs, .ref a_above, .int objects, .int steps, .ref a_sources, .ref a_targets, .ref a_labels, .ref a_lengths, .ref a_letters, .ref a_distances, .ref a_longest, .int firstStep, .int secondStep, .ref a_lengthsTo, .ref a_lengthsFrom, .ref a_path, .int pathLength, .ref a_output, .int outputLength, .ref a_found, .int foundSteps, .ref a_keptLabels, .ref a_keptPairs, .ref a_input, .int inputLength, .int rules, .ref a_sides, .ref a_sideLengths, .int newObjects, .int newSteps, .ref a_newLengths, .ref a_newLetters, .ref a_newSources, .ref a_newTargets, .ref a_newLabels, .ref a_word, .int wordSize, .ref a_failed, .ref a_sizes, .ref a_arrays, .int hasSnapshot, .int savedObjects, .int savedSteps, .int savedRules, .ref a_savedLengths, .ref a_savedSources, .ref a_savedTargets, .ref a_savedLabels, .ref a_savedSideLengths, .ref a_savedLetters, .ref a_savedSides, .ref a_savedPairs]))], [gO (G 5) a_arrays r_arrays 3], gJ (G 1) r_arrays 3 16 arrays, [(a_sizes, .inl (G 0, 3, .inl sizes))]] H → va_S (xA aa) s.heap H locs → lv_has ls 4 [(0, .ref h), (1, .int v1), (2, .int v2), (3, .int v3)] → lp (τ := Int32 → (Nat → Nat → Int64) → Option (Int32 × (Nat → Nat → Int64) × (Nat → Int32))) (fun _ _ => none) (f_X12_newArray_L31 sizes v1 v2) n_31 v3 arrays = some out → W p l e (rM 2 42) s m args blw meth c H locs 0 0 Q (F0 m 31 ls []) := by
    intro sizes   n_31
    induction n_31 with
    | zero =>
      intro v3 arrays H locs ls hP hS hl hf
      exact no_some hf
    | succ n_31 ih_31 =>
      intro v3 arrays H locs ls hP hS hl hf
      have hf : f_X12_newArray_L31 sizes v1 v2 (lp (τ := Int32 → (Nat → Nat → Int64) → Option (Int32 × (Nat → Nat → Int64) × (Nat → Int32))) (fun _ _ => none) (f_X12_newArray_L31 sizes v1 v2) n_31) v3 arrays = some out := hf
      refine lv_iload_n hx hb dX12_newArray_31 rfl (lv_at hl 3 rfl) ?_
      refine lv_iload_n hx hb dX12_newArray_32 rfl (lv_at hl 2 rfl) ?_
      refine lv_icmp_ge (tgt := 51) hx hb dX12_newArray_33 (by decide) (fun c_33 => ?_) (fun c_33 => ?_)
      · have hf := it_pos c_33 hf
        refine lv_iconst (v := 1) hx hb dX12_newArray_51 (by decide) ?_
        have hf := Option.some.inj hf
        rewrite [← hQ, ← hf]
        exact x_iret hx hb hr hlocks hP hS dX12_newArray_52
      · have hf := it_neg c_33 hf
        refine lv_aload_n hx hb dX12_newArray_36 rfl (lv_at hl 0 rfl) ?_
        refine x_get hx hb hts u_X12_newArray_X12 hown hE hP 0 rfl rfl 39 (by decide) (hts (.fieldLink RX12 101 "DecreasingDiagramsModel" "arrays" "[[J") (List.mem_of_getElem? (i := 2) rfl)) rfl dX12_newArray_37 ?_
        refine lv_iload_n hx hb dX12_newArray_40 rfl (lv_at hl 1 rfl) ?_
        obtain ⟨hq_41, hf⟩ := ck_some hf
        refine x_aald hx hb hE hP 1 5 rfl rfl hq_41 dX12_newArray_41 ?_
        refine lv_iload_n hx hb dX12_newArray_42 rfl (lv_at hl 3 rfl) ?_
        refine lv_lconst (v := 0) hx hb dX12_newArray_43 (by decide) ?_
        obtain ⟨hi, hf⟩ := ck_some hf
        obtain ⟨arrays_44, e_arrays_44, hf⟩ := lt_some hf
        refine x_last2 (I' := [[(h, .inr (11, [.ref a_pairs, .ref a_above, .int objects, .int steps, .ref a_sources, .ref a_targets, .ref a_labels, .ref a_lengths, .ref a_letters, .ref a_distances, .ref a_longest, .int firstStep, .int secondStep, .ref a_lengthsTo, .ref a_lengthsFrom, .ref a_path, .int pathLength, .ref a_output, .int outputLength, .ref a_found, .int foundSteps, .ref a_keptLabels, .ref a_keptPairs, .ref a_input, .int inputLength, .int rules, .ref a_sides, .ref a_sideLengths, .int newObjects, .int newSteps, .ref a_newLengths, .ref a_newLetters, .ref a_newSources, .ref a_newTargets, .ref a_newLabels, .ref a_word, .int wordSize, .ref a_failed, .ref a_sizes, .ref a_arrays, .int hasSnapshot, .int savedObjects, .int savedSteps, .int savedRules, .ref a_savedLengths, .ref a_savedSources, .ref a_savedTargets, .ref a_savedLabels, .ref a_savedSideLengths, .ref a_savedLetters, .ref a_savedSides, .ref a_savedPairs]))], [gO (G 5) a_arrays r_arrays 3], gJ (G 1) r_arrays 3 16 arrays_44, [(a_sizes, .inl (G 0, 3, .inl sizes))]]) hx hb hE hP hN hS 2 rfl hq_41 hi e_arrays_44 rfl dX12_newArray_44 (fun H locs hP hS => ?_)
        obtain ⟨v3_45, e_v3_45, hf⟩ := lt_some hf
        refine lv_iinc (v := v3_45) (lv' := [(3, .int v3_45), (0, .ref h), (1, .int v1), (2, .int v2)]) hx hb dX12_newArray_45 hl (k := 3) rfl (by rw [e_v3_45]; rfl) (by decide) rfl (fun ls hl => ?_)
        refine lv_goto (tgt := 31) hx hb dX12_newArray_48 (by decide) ?_
        exact ih_31 v3_45 arrays_44 H locs ls hP hS (lv_sub hl [1, 2, 3, 0] rfl) hf
  refine lv_iload_n hx hb dX12_newArray_0 rfl (lv_at hl 1 rfl) ?_
  obtain ⟨r_1, hr_1, hf⟩ := bd_some hf
  refine x_goi0 (ps := []) (x_runS (As := [.int v1]) (rest := []) (ps := []) ⟨hx, hb, hml, hown, hts⟩ (k_X12_isArray l D G fu v1 r_1 hr_1) (va_cwS 1 hts gX12_newArray_X12_isArray rfl rfl rfl (by decide +kernel) ⟨Nat.le_of_ble_eq_true rfl, Nat.le_of_ble_eq_true rfl⟩) hE hP hN rfl (by decide) rfl hl.1 (Nat.le_of_ble_eq_true rfl) dX12_newArray_1 ⟨Nat.zero_le _, Nat.zero_le _⟩) hP hN hS rfl (fun H locs hP hS => ?_)
  refine lv_if_eq (tgt := 13) hx hb dX12_newArray_4 (by decide) (fun c_4 => ?_) (fun c_4 => ?_)
  · have hf := it_pos c_4 hf
    refine lv_iconst (v := -1) hx hb dX12_newArray_13 (by decide) ?_
    have hf := Option.some.inj hf
    rewrite [← hQ, ← hf]
    exact x_iret hx hb hr hlocks hP hS dX12_newArray_14
  · have hf := it_neg c_4 hf
    refine lv_iload_n hx hb dX12_newArray_7 rfl (lv_at hl 2 rfl) ?_
    refine lv_bipush (v := 16) hx hb dX12_newArray_8 (by decide) ?_
    refine lv_icmp_le (tgt := 15) hx hb dX12_newArray_10 (by decide) (fun c_10 => ?_) (fun c_10 => ?_)
    · have hf := it_pos c_10 hf
      refine lv_iload_n hx hb dX12_newArray_15 rfl (lv_at hl 2 rfl) ?_
      refine lv_if_ge (tgt := 22) hx hb dX12_newArray_16 (by decide) (fun c_16 => ?_) (fun c_16 => ?_)
      · have hf := it_pos c_16 hf
        refine lv_aload_n hx hb dX12_newArray_22 rfl (lv_at hl 0 rfl) ?_
        refine x_get hx hb hts u_X12_newArray_X12 hown hE hP 0 rfl rfl 38 (by decide) (hts (.fieldLink RX12 96 "DecreasingDiagramsModel" "sizes" "[I") (List.mem_of_getElem? (i := 1) rfl)) rfl dX12_newArray_23 ?_
        refine lv_iload_n hx hb dX12_newArray_26 rfl (lv_at hl 1 rfl) ?_
        refine lv_iload_n hx hb dX12_newArray_27 rfl (lv_at hl 2 rfl) ?_
        obtain ⟨hi, hf⟩ := ck_some hf
        obtain ⟨sizes_28, e_sizes_28, hf⟩ := lt_some hf
        refine x_iast (I' := [[(h, .inr (11, [.ref a_pairs, .ref a_above, .int objects, .int steps, .ref a_sources, .ref a_targets, .ref a_labels, .ref a_lengths, .ref a_letters, .ref a_distances, .ref a_longest, .int firstStep, .int secondStep, .ref a_lengthsTo, .ref a_lengthsFrom, .ref a_path, .int pathLength, .ref a_output, .int outputLength, .ref a_found, .int foundSteps, .ref a_keptLabels, .ref a_keptPairs, .ref a_input, .int inputLength, .int rules, .ref a_sides, .ref a_sideLengths, .int newObjects, .int newSteps, .ref a_newLengths, .ref a_newLetters, .ref a_newSources, .ref a_newTargets, .ref a_newLabels, .ref a_word, .int wordSize, .ref a_failed, .ref a_sizes, .ref a_arrays, .int hasSnapshot, .int savedObjects, .int savedSteps, .int savedRules, .ref a_savedLengths, .ref a_savedSources, .ref a_savedTargets, .ref a_savedLabels, .ref a_savedSideLengths, .ref a_savedLetters, .ref a_savedSides, .ref a_savedPairs]))], [gO (G 5) a_arrays r_arrays 3], gJ (G 1) r_arrays 3 16 arrays, [(a_sizes, .inl (G 0, 3, .inl sizes_28))]]) hx hb hE hP hN hS 3 rfl hi e_sizes_28 rfl dX12_newArray_28 (fun H locs hP hS => ?_)
        refine lv_iconst (v := 0) hx hb dX12_newArray_29 (by decide) ?_
        obtain ⟨v3_30, e_v3_30, hf⟩ := lt_some hf
        refine x_istore_n (v := v3_30) (lv' := [(3, .int v3_30), (0, .ref h), (1, .int v1), (2, .int v2)]) hx hb dX12_newArray_30 e_v3_30 rfl hl (by decide) rfl (fun ls hl => ?_)
        exact L31 sizes_28   fu v3_30 arrays H locs ls hP hS (lv_sub hl [1, 2, 3, 0] rfl) hf
      · have hf := it_neg c_16 hf
        refine lv_bipush (v := -14) hx hb dX12_newArray_19 (by decide) ?_
        have hf := Option.some.inj hf
        rewrite [← hQ, ← hf]
        exact x_iret hx hb hr hlocks hP hS dX12_newArray_21
    · have hf := it_neg c_10 hf
      refine lv_iconst (v := -1) hx hb dX12_newArray_13 (by decide) ?_
      have hf := Option.some.inj hf
      rewrite [← hQ, ← hf]
      exact x_iret hx hb hr hlocks hP hS dX12_newArray_14

set_option maxRecDepth 20000 in
theorem u_X12_normalForm_X12 : ∀ w ∈ wsX120, w ∈ wsX12_normalForm := xx_pl _ [22, 23, 24, 25, 26, 27, 28, 29, 30, 31, 32, 33, 34, 35, 36, 37, 38, 39, 40, 41, 42, 43, 44, 45, 46, 47, 48, 49, 50, 51, 52, 53, 54, 55, 56, 57, 58, 59, 60, 61, 62, 63, 64, 65, 66, 67, 68, 69, 70, 71, 72, 73] (by decide +kernel)
def f_X12_normalForm_J60 (rec_19 : (Int32 → Int32 → Option (Int32 × (Nat → Nat → Int32)))) (v2 : Int32) (v3 : Int32) : Option (Int32 × (Nat → Nat → Int32)) :=
  lt (v3 + 1) (fun v3_60 => rec_19 v2 v3_60)
def f_X12_normalForm_L19 (fu : Nat) (objects : Int32) (steps : Int32) (distances : (Nat → Nat → Int32)) (sources : (Nat → Int32)) (v1 : Int32) (rec_19 : Int32 → Int32 → Option (Int32 × (Nat → Nat → Int32))) (v2 : Int32) (v3 : Int32) : Option (Int32 × (Nat → Nat → Int32)) :=
  if objects ≤ v3 then (some (v2, distances)) else (ck v1 16 (ck v3 16 (if 1000 ≤ (distances v1.toNatClampNeg v3.toNatClampNeg) then (f_X12_normalForm_J60 rec_19 v2 v3) else ((f_X12_isNormal fu steps sources v3).bind (fun r_43 => if r_43 = 0 then (f_X12_normalForm_J60 rec_19 v2 v3) else (if v2 = (-2) then (lt v3 (fun v2_59 => f_X12_normalForm_J60 rec_19 v2_59 v3)) else (some ((-7), distances))))))))
def f_X12_normalForm (fu : Nat) (objects : Int32) (steps : Int32) (distances : (Nat → Nat → Int32)) (sources : (Nat → Int32)) (targets : (Nat → Int32)) (v1 : Int32) : Option (Int32 × (Nat → Nat → Int32)) :=
  (f_X12_isObject objects v1).bind (fun r_2 => if ¬ r_2 = 0 then ((f_X12_findDistances fu objects steps distances sources targets).bind (fun r_11 => lt ((-2) : Int32) (fun v2_16 => lt (0 : Int32) (fun v3_18 => lp (τ := Int32 → Int32 → Option (Int32 × (Nat → Nat → Int32))) (fun _ _ => none) (f_X12_normalForm_L19 fu objects steps r_11 sources v1) fu v2_16 v3_18)))) else (some ((-1), distances)))
set_option maxHeartbeats 4000000 in
set_option maxRecDepth 100000 in
theorem k_X12_normalForm (l : Launch) (D : va_G) (G : Nat → ClassId) (fu : Nat) (h : Nat) (a_pairs : Nat) (a_above : Nat) (a_sources : Nat) (a_targets : Nat) (a_labels : Nat) (a_lengths : Nat) (a_letters : Nat) (a_distances : Nat) (a_longest : Nat) (a_lengthsTo : Nat) (a_lengthsFrom : Nat) (a_path : Nat) (a_output : Nat) (a_found : Nat) (a_keptLabels : Nat) (a_keptPairs : Nat) (a_input : Nat) (a_sides : Nat) (a_sideLengths : Nat) (a_newLengths : Nat) (a_newLetters : Nat) (a_newSources : Nat) (a_newTargets : Nat) (a_newLabels : Nat) (a_word : Nat) (a_failed : Nat) (a_sizes : Nat) (a_arrays : Nat) (a_savedLengths : Nat) (a_savedSources : Nat) (a_savedTargets : Nat) (a_savedLabels : Nat) (a_savedSideLengths : Nat) (a_savedLetters : Nat) (a_savedSides : Nat) (a_savedPairs : Nat) (r_distances : Nat → Nat) (objects : Int32) (steps : Int32) (firstStep : Int32) (secondStep : Int32) (pathLength : Int32) (outputLength : Int32) (foundSteps : Int32) (inputLength : Int32) (rules : Int32) (newObjects : Int32) (newSteps : Int32) (wordSize : Int32) (hasSnapshot : Int32) (savedObjects : Int32) (savedSteps : Int32) (savedRules : Int32) (distances : (Nat → Nat → Int32)) (sources : (Nat → Int32)) (targets : (Nat → Int32))  (v1 : Int32) (out : Int32 × (Nat → Nat → Int32)) (hf : f_X12_normalForm fu objects steps distances sources targets v1 = some out) : xMet l yX12_normalForm wsX12_normalForm (rM 2 43) D G [.ref h, .int v1] [[(h, .inr (11, [.ref a_pairs, .ref a_above, .int objects, .int steps, .ref a_sources, .ref a_targets, .ref a_labels, .ref a_lengths, .ref a_letters, .ref a_distances, .ref a_longest, .int firstStep, .int secondStep, .ref a_lengthsTo, .ref a_lengthsFrom, .ref a_path, .int pathLength, .ref a_output, .int outputLength, .ref a_found, .int foundSteps, .ref a_keptLabels, .ref a_keptPairs, .ref a_input, .int inputLength, .int rules, .ref a_sides, .ref a_sideLengths, .int newObjects, .int newSteps, .ref a_newLengths, .ref a_newLetters, .ref a_newSources, .ref a_newTargets, .ref a_newLabels, .ref a_word, .int wordSize, .ref a_failed, .ref a_sizes, .ref a_arrays, .int hasSnapshot, .int savedObjects, .int savedSteps, .int savedRules, .ref a_savedLengths, .ref a_savedSources, .ref a_savedTargets, .ref a_savedLabels, .ref a_savedSideLengths, .ref a_savedLetters, .ref a_savedSides, .ref a_savedPairs]))], [gO (G 4) a_distances r_distances 16], gI (G 0) r_distances 16 16 distances, [(a_sources, .inl (G 0, 32, .inl sources))], [(a_targets, .inl (G 0, 32, .inl targets))]] (xQi D [[(h, .inr (11, [.ref a_pairs, .ref a_above, .int objects, .int steps, .ref a_sources, .ref a_targets, .ref a_labels, .ref a_lengths, .ref a_letters, .ref a_distances, .ref a_longest, .int firstStep, .int secondStep, .ref a_lengthsTo, .ref a_lengthsFrom, .ref a_path, .int pathLength, .ref a_output, .int outputLength, .ref a_found, .int foundSteps, .ref a_keptLabels, .ref a_keptPairs, .ref a_input, .int inputLength, .int rules, .ref a_sides, .ref a_sideLengths, .int newObjects, .int newSteps, .ref a_newLengths, .ref a_newLetters, .ref a_newSources, .ref a_newTargets, .ref a_newLabels, .ref a_word, .int wordSize, .ref a_failed, .ref a_sizes, .ref a_arrays, .int hasSnapshot, .int savedObjects, .int savedSteps, .int savedRules, .ref a_savedLengths, .ref a_savedSources, .ref a_savedTargets, .ref a_savedLabels, .ref a_savedSideLengths, .ref a_savedLetters, .ref a_savedSides, .ref a_savedPairs]))], [gO (G 4) a_distances r_distances 16], gI (G 0) r_distances 16 16 out.2, [(a_sources, .inl (G 0, 32, .inl sources))], [(a_targets, .inl (G 0, 32, .inl targets))]] out.1) := by
  refine x_ent (cc := cX12_normalForm) (maxL := 4) (by decide) rfl (Nat.le_of_ble_eq_true rfl) ?_
  intro p e s m blw meth c aa ls args Q H locs hQ hx hb hr hml hown hts hlocks hE hN hl hP hS
  have hown : s.vm.findClass RX12 = some m.cls := hown
  have hl : lv_has ls 4 [(0, .ref h), (1, .int v1)] := hl
  have L19 : ∀ (distances : (Nat → Nat → Int32)), ∀ (n_19 : Nat) (v2 : Int32) (v3 : Int32) (H : Heap) (locs : List Loc) (ls : Array Slot), xW D aa [[(h, .inr (11, [.ref a_pairs, .ref a_above, .int objects, .int steps, .ref a_sources, .ref a_targets, .ref a_labels, .ref a_lengths, .ref a_letters, .ref a_distances, .ref a_longest, .int firstStep, .int secondStep, .ref a_lengthsTo, .ref a_lengthsFrom, .ref a_path, .int pathLength, .ref a_output, .int outputLength, .ref a_found, .int foundSteps, .ref a_keptLabels, .ref a_keptPairs, .ref a_input, .int inputLength, .int rules, .ref a_sides, .ref a_sideLengths, .int newObjects, .int newSteps, .ref a_newLengths, .ref a_newLetters, .ref a_newSources, .ref a_newTargets, .ref a_newLabels, .ref a_word, .int wordSize, .ref a_failed, .ref a_sizes, .ref a_arrays, .int hasSnapshot, .int savedObjects, .int savedSteps, .int savedRules, .ref a_savedLengths, .ref a_savedSources, .ref a_savedTargets, .ref a_savedLabels, .ref a_savedSideLengths, .ref a_savedLetters, .ref a_savedSides, .ref a_savedPairs]))], [gO (G 4) a_distances r_distances 16], gI (G 0) r_distances 16 16 distances, [(a_sources, .inl (G 0, 32, .inl sources))], [(a_targets, .inl (G 0, 32, .inl targets))]] H → va_S (xA aa) s.heap H locs → lv_has ls 4 [(0, .ref h), (1, .int v1), (2, .int v2), (3, .int v3)] → lp (τ := Int32 → Int32 → Option (Int32 × (Nat → Nat → Int32))) (fun _ _ => none) (f_X12_normalForm_L19 fu objects steps distances sources v1) n_19 v2 v3 = some out → W p l e (rM 2 43) s m args blw meth c H locs 0 0 Q (F0 m 19 ls []) := by
    intro distances   n_19
    induction n_19 with
    | zero =>
      intro v2 v3 H locs ls hP hS hl hf
      exact no_some hf
    | succ n_19 ih_19 =>
      intro v2 v3 H locs ls hP hS hl hf
      have hf : f_X12_normalForm_L19 fu objects steps distances sources v1 (lp (τ := Int32 → Int32 → Option (Int32 × (Nat → Nat → Int32))) (fun _ _ => none) (f_X12_normalForm_L19 fu objects steps distances sources v1) n_19) v2 v3 = some out := hf
      have J60 : ∀ (v2 : Int32) (v3 : Int32) (H : Heap) (locs : List Loc) (ls : Array Slot), xW D aa [[(h, .inr (11, [.ref a_pairs, .ref a_above, .int objects, .int steps, .ref a_sources, .ref a_targets, .ref a_labels, .ref a_lengths, .ref a_letters, .ref a_distances, .ref a_longest, .int firstStep, .int secondStep, .ref a_lengthsTo, .ref a_lengthsFrom, .ref a_path, .int pathLength, .ref a_output, .int outputLength, .ref a_found, .int foundSteps, .ref a_keptLabels, .ref a_keptPairs, .ref a_input, .int inputLength, .int rules, .ref a_sides, .ref a_sideLengths, .int newObjects, .int newSteps, .ref a_newLengths, .ref a_newLetters, .ref a_newSources, .ref a_newTargets, .ref a_newLabels, .ref a_word, .int wordSize, .ref a_failed, .ref a_sizes, .ref a_arrays, .int hasSnapshot, .int savedObjects, .int savedSteps, .int savedRules, .ref a_savedLengths, .ref a_savedSources, .ref a_savedTargets, .ref a_savedLabels, .ref a_savedSideLengths, .ref a_savedLetters, .ref a_savedSides, .ref a_savedPairs]))], [gO (G 4) a_distances r_distances 16], gI (G 0) r_distances 16 16 distances, [(a_sources, .inl (G 0, 32, .inl sources))], [(a_targets, .inl (G 0, 32, .inl targets))]] H → va_S (xA aa) s.heap H locs → lv_has ls 4 [(0, .ref h), (1, .int v1), (2, .int v2), (3, .int v3)] → f_X12_normalForm_J60 (lp (τ := Int32 → Int32 → Option (Int32 × (Nat → Nat → Int32))) (fun _ _ => none) (f_X12_normalForm_L19 fu objects steps distances sources v1) n_19) v2 v3 = some out → W p l e (rM 2 43) s m args blw meth c H locs 0 0 Q (F0 m 60 ls []) := by
        intro v2 v3  H locs ls  hP hS hl hf
        obtain ⟨v3_60, e_v3_60, hf⟩ := lt_some hf
        refine lv_iinc (v := v3_60) (lv' := [(3, .int v3_60), (0, .ref h), (1, .int v1), (2, .int v2)]) hx hb dX12_normalForm_60 hl (k := 3) rfl (by rw [e_v3_60]; rfl) (by decide) rfl (fun ls hl => ?_)
        refine lv_goto (tgt := 19) hx hb dX12_normalForm_63 (by decide) ?_
        exact ih_19 v2 v3_60 H locs ls hP hS (lv_sub hl [1, 2, 3, 0] rfl) hf
      refine lv_iload_n hx hb dX12_normalForm_19 rfl (lv_at hl 3 rfl) ?_
      refine lv_aload_n hx hb dX12_normalForm_20 rfl (lv_at hl 0 rfl) ?_
      refine x_get hx hb hts u_X12_normalForm_X12 hown hE hP 0 rfl rfl 2 (by decide) (hts (.fieldLink RX12 132 "DecreasingDiagramsModel" "objects" "I") (List.mem_of_getElem? (i := 1) rfl)) rfl dX12_normalForm_21 ?_
      refine lv_icmp_ge (tgt := 66) hx hb dX12_normalForm_24 (by decide) (fun c_24 => ?_) (fun c_24 => ?_)
      · have hf := it_pos c_24 hf
        refine lv_iload_n hx hb dX12_normalForm_66 rfl (lv_at hl 2 rfl) ?_
        have hf := Option.some.inj hf
        rewrite [← hQ, ← hf]
        exact x_iret hx hb hr hlocks hP hS dX12_normalForm_67
      · have hf := it_neg c_24 hf
        refine lv_aload_n hx hb dX12_normalForm_27 rfl (lv_at hl 0 rfl) ?_
        refine x_get hx hb hts u_X12_normalForm_X12 hown hE hP 0 rfl rfl 9 (by decide) (hts (.fieldLink RX12 35 "DecreasingDiagramsModel" "distances" "[[I") (List.mem_of_getElem? (i := 2) rfl)) rfl dX12_normalForm_28 ?_
        refine lv_iload_n hx hb dX12_normalForm_31 rfl (lv_at hl 1 rfl) ?_
        obtain ⟨hq_32, hf⟩ := ck_some hf
        refine x_aald hx hb hE hP 1 4 rfl rfl hq_32 dX12_normalForm_32 ?_
        refine lv_iload_n hx hb dX12_normalForm_33 rfl (lv_at hl 3 rfl) ?_
        obtain ⟨hi, hf⟩ := ck_some hf
        refine x_iald2 hx hb hE hP 2 rfl hq_32 hi dX12_normalForm_34 ?_
        refine lv_sipush (v := 1000) hx hb dX12_normalForm_35 (by decide) ?_
        refine lv_icmp_ge (tgt := 60) hx hb dX12_normalForm_38 (by decide) (fun c_38 => ?_) (fun c_38 => ?_)
        · have hf := it_pos c_38 hf
          exact J60 v2 v3  H locs ls  hP hS (lv_sub hl [0, 1, 2, 3] rfl) hf
        · have hf := it_neg c_38 hf
          refine lv_aload_n hx hb dX12_normalForm_41 rfl (lv_at hl 0 rfl) ?_
          refine lv_iload_n hx hb dX12_normalForm_42 rfl (lv_at hl 3 rfl) ?_
          obtain ⟨r_43, hr_43, hf⟩ := bd_some hf
          refine x_goi0 (ps := [0, 3]) (x_runV (As := [.int v3]) (rest := []) (ps := [0, 3]) ⟨hx, hb, hml, hown, hts⟩ (k_X12_isNormal l D G fu h a_pairs a_above a_sources a_targets a_labels a_lengths a_letters a_distances a_longest a_lengthsTo a_lengthsFrom a_path a_output a_found a_keptLabels a_keptPairs a_input a_sides a_sideLengths a_newLengths a_newLetters a_newSources a_newTargets a_newLabels a_word a_failed a_sizes a_arrays a_savedLengths a_savedSources a_savedTargets a_savedLabels a_savedSideLengths a_savedLetters a_savedSides a_savedPairs objects steps firstStep secondStep pathLength outputLength foundSteps inputLength rules newObjects newSteps wordSize hasSnapshot savedObjects savedSteps savedRules sources v3 r_43 hr_43) (cwV 1 hts gX12_normalForm_X12_isNormal rfl rfl rfl (by decide +kernel) ⟨Nat.le_of_ble_eq_true rfl, Nat.le_of_ble_eq_true rfl⟩) hE hP hN rfl (by decide) 0 rfl rfl rfl hl.1 (Nat.le_of_ble_eq_true rfl) dX12_normalForm_43 ⟨Nat.zero_le _, Nat.zero_le _⟩) hP hN hS rfl (fun H locs hP hS => ?_)
          refine lv_if_eq (tgt := 60) hx hb dX12_normalForm_46 (by decide) (fun c_46 => ?_) (fun c_46 => ?_)
          · have hf := it_pos c_46 hf
            exact J60 v2 v3  H locs ls  hP hS (lv_sub hl [0, 1, 2, 3] rfl) hf
          · have hf := it_neg c_46 hf
            refine lv_iload_n hx hb dX12_normalForm_49 rfl (lv_at hl 2 rfl) ?_
            refine lv_bipush (v := -2) hx hb dX12_normalForm_50 (by decide) ?_
            refine lv_icmp_eq (tgt := 58) hx hb dX12_normalForm_52 (by decide) (fun c_52 => ?_) (fun c_52 => ?_)
            · have hf := it_pos c_52 hf
              refine lv_iload_n hx hb dX12_normalForm_58 rfl (lv_at hl 3 rfl) ?_
              obtain ⟨v2_59, e_v2_59, hf⟩ := lt_some hf
              refine x_istore_n (v := v2_59) (lv' := [(2, .int v2_59), (0, .ref h), (1, .int v1), (3, .int v3)]) hx hb dX12_normalForm_59 e_v2_59 rfl hl (by decide) rfl (fun ls hl => ?_)
              exact J60 v2_59 v3  H locs ls  hP hS (lv_sub hl [1, 2, 0, 3] rfl) hf
            · have hf := it_neg c_52 hf
              refine lv_bipush (v := -7) hx hb dX12_normalForm_55 (by decide) ?_
              have hf := Option.some.inj hf
              rewrite [← hQ, ← hf]
              exact x_iret hx hb hr hlocks hP hS dX12_normalForm_57
  refine lv_aload_n hx hb dX12_normalForm_0 rfl (lv_at hl 0 rfl) ?_
  refine lv_iload_n hx hb dX12_normalForm_1 rfl (lv_at hl 1 rfl) ?_
  obtain ⟨r_2, hr_2, hf⟩ := bd_some hf
  refine x_goi0 (ps := [0]) (x_runV (As := [.int v1]) (rest := []) (ps := [0]) ⟨hx, hb, hml, hown, hts⟩ (k_X12_isObject l D G fu h a_pairs a_above a_sources a_targets a_labels a_lengths a_letters a_distances a_longest a_lengthsTo a_lengthsFrom a_path a_output a_found a_keptLabels a_keptPairs a_input a_sides a_sideLengths a_newLengths a_newLetters a_newSources a_newTargets a_newLabels a_word a_failed a_sizes a_arrays a_savedLengths a_savedSources a_savedTargets a_savedLabels a_savedSideLengths a_savedLetters a_savedSides a_savedPairs objects steps firstStep secondStep pathLength outputLength foundSteps inputLength rules newObjects newSteps wordSize hasSnapshot savedObjects savedSteps savedRules v1 r_2 hr_2) (cwV 1 hts gX12_normalForm_X12_isObject rfl rfl rfl (by decide +kernel) ⟨Nat.le_of_ble_eq_true rfl, Nat.le_of_ble_eq_true rfl⟩) hE hP hN rfl (by decide) 0 rfl rfl rfl hl.1 (Nat.le_of_ble_eq_true rfl) dX12_normalForm_2 ⟨Nat.zero_le _, Nat.zero_le _⟩) hP hN hS rfl (fun H locs hP hS => ?_)
  refine lv_if_ne (tgt := 10) hx hb dX12_normalForm_5 (by decide) (fun c_5 => ?_) (fun c_5 => ?_)
  · have hf := it_pos c_5 hf
    refine lv_aload_n hx hb dX12_normalForm_10 rfl (lv_at hl 0 rfl) ?_
    obtain ⟨r_11, hr_11, hf⟩ := bd_some hf
    refine x_gov (ps := [0, 1, 2, 3, 4]) (qs := []) (n := 5) (I' := [[(h, .inr (11, [.ref a_pairs, .ref a_above, .int objects, .int steps, .ref a_sources, .ref a_targets, .ref a_labels, .ref a_lengths, .ref a_letters, .ref a_distances, .ref a_longest, .int firstStep, .int secondStep, .ref a_lengthsTo, .ref a_lengthsFrom, .ref a_path, .int pathLength, .ref a_output, .int outputLength, .ref a_found, .int foundSteps, .ref a_keptLabels, .ref a_keptPairs, .ref a_input, .int inputLength, .int rules, .ref a_sides, .ref a_sideLengths, .int newObjects, .int newSteps, .ref a_newLengths, .ref a_newLetters, .ref a_newSources, .ref a_newTargets, .ref a_newLabels, .ref a_word, .int wordSize, .ref a_failed, .ref a_sizes, .ref a_arrays, .int hasSnapshot, .int savedObjects, .int savedSteps, .int savedRules, .ref a_savedLengths, .ref a_savedSources, .ref a_savedTargets, .ref a_savedLabels, .ref a_savedSideLengths, .ref a_savedLetters, .ref a_savedSides, .ref a_savedPairs]))], [gO (G 4) a_distances r_distances 16], gI (G 0) r_distances 16 16 r_11, [(a_sources, .inl (G 0, 32, .inl sources))], [(a_targets, .inl (G 0, 32, .inl targets))]]) (x_runV (As := []) (rest := []) (ps := [0, 1, 2, 3, 4]) ⟨hx, hb, hml, hown, hts⟩ (k_X12_findDistances l D G fu h a_pairs a_above a_sources a_targets a_labels a_lengths a_letters a_distances a_longest a_lengthsTo a_lengthsFrom a_path a_output a_found a_keptLabels a_keptPairs a_input a_sides a_sideLengths a_newLengths a_newLetters a_newSources a_newTargets a_newLabels a_word a_failed a_sizes a_arrays a_savedLengths a_savedSources a_savedTargets a_savedLabels a_savedSideLengths a_savedLetters a_savedSides a_savedPairs r_distances objects steps firstStep secondStep pathLength outputLength foundSteps inputLength rules newObjects newSteps wordSize hasSnapshot savedObjects savedSteps savedRules distances sources targets r_11 hr_11) (cwV 0 hts gX12_normalForm_X12_findDistances rfl rfl rfl (by decide +kernel) ⟨Nat.le_of_ble_eq_true rfl, Nat.le_of_ble_eq_true rfl⟩) hE hP hN rfl (by decide) 0 rfl rfl rfl hl.1 (Nat.le_of_ble_eq_true rfl) dX12_normalForm_11 ⟨Nat.zero_le _, Nat.zero_le _⟩) hP hN hS rfl rfl rfl rfl rfl (by decide) (fun H locs hP hS => ?_)
    refine lv_bipush (v := -2) hx hb dX12_normalForm_14 (by decide) ?_
    obtain ⟨v2_16, e_v2_16, hf⟩ := lt_some hf
    refine x_istore_n (v := v2_16) (lv' := [(2, .int v2_16), (0, .ref h), (1, .int v1)]) hx hb dX12_normalForm_16 e_v2_16 rfl hl (by decide) rfl (fun ls hl => ?_)
    refine lv_iconst (v := 0) hx hb dX12_normalForm_17 (by decide) ?_
    obtain ⟨v3_18, e_v3_18, hf⟩ := lt_some hf
    refine x_istore_n (v := v3_18) (lv' := [(3, .int v3_18), (2, .int v2_16), (0, .ref h), (1, .int v1)]) hx hb dX12_normalForm_18 e_v3_18 rfl hl (by decide) rfl (fun ls hl => ?_)
    exact L19 r_11   fu v2_16 v3_18 H locs ls hP hS (lv_sub hl [2, 3, 1, 0] rfl) hf
  · have hf := it_neg (fun h => h c_5) hf
    refine lv_iconst (v := -1) hx hb dX12_normalForm_8 (by decide) ?_
    have hf := Option.some.inj hf
    rewrite [← hQ, ← hf]
    exact x_iret hx hb hr hlocks hP hS dX12_normalForm_9

set_option maxRecDepth 20000 in
theorem u_X12_objectCount_X12 : ∀ w ∈ wsX120, w ∈ wsX12_objectCount := xx_pl _ [2, 3, 4, 5, 6, 7, 8, 9, 10, 11, 12, 13, 14, 15, 16, 17, 18, 19, 20, 21, 22, 23, 24, 25, 26, 27, 28, 29, 30, 31, 32, 33, 34, 35, 36, 37, 38, 39, 40, 41, 42, 43, 44, 45, 46, 47, 48, 49, 50, 51, 52, 53] (by decide +kernel)
def f_X12_objectCount (objects : Int32) : Option (Int32) :=
  some objects
set_option maxHeartbeats 4000000 in
set_option maxRecDepth 100000 in
theorem k_X12_objectCount (l : Launch) (D : va_G) (G : Nat → ClassId) (fu : Nat) (h : Nat) (a_pairs : Nat) (a_above : Nat) (a_sources : Nat) (a_targets : Nat) (a_labels : Nat) (a_lengths : Nat) (a_letters : Nat) (a_distances : Nat) (a_longest : Nat) (a_lengthsTo : Nat) (a_lengthsFrom : Nat) (a_path : Nat) (a_output : Nat) (a_found : Nat) (a_keptLabels : Nat) (a_keptPairs : Nat) (a_input : Nat) (a_sides : Nat) (a_sideLengths : Nat) (a_newLengths : Nat) (a_newLetters : Nat) (a_newSources : Nat) (a_newTargets : Nat) (a_newLabels : Nat) (a_word : Nat) (a_failed : Nat) (a_sizes : Nat) (a_arrays : Nat) (a_savedLengths : Nat) (a_savedSources : Nat) (a_savedTargets : Nat) (a_savedLabels : Nat) (a_savedSideLengths : Nat) (a_savedLetters : Nat) (a_savedSides : Nat) (a_savedPairs : Nat) (objects : Int32) (steps : Int32) (firstStep : Int32) (secondStep : Int32) (pathLength : Int32) (outputLength : Int32) (foundSteps : Int32) (inputLength : Int32) (rules : Int32) (newObjects : Int32) (newSteps : Int32) (wordSize : Int32) (hasSnapshot : Int32) (savedObjects : Int32) (savedSteps : Int32) (savedRules : Int32)   (out : Int32) (hf : f_X12_objectCount objects = some out) : xMet l yX12_objectCount wsX12_objectCount (rM 0 0) D G [.ref h] [[(h, .inr (11, [.ref a_pairs, .ref a_above, .int objects, .int steps, .ref a_sources, .ref a_targets, .ref a_labels, .ref a_lengths, .ref a_letters, .ref a_distances, .ref a_longest, .int firstStep, .int secondStep, .ref a_lengthsTo, .ref a_lengthsFrom, .ref a_path, .int pathLength, .ref a_output, .int outputLength, .ref a_found, .int foundSteps, .ref a_keptLabels, .ref a_keptPairs, .ref a_input, .int inputLength, .int rules, .ref a_sides, .ref a_sideLengths, .int newObjects, .int newSteps, .ref a_newLengths, .ref a_newLetters, .ref a_newSources, .ref a_newTargets, .ref a_newLabels, .ref a_word, .int wordSize, .ref a_failed, .ref a_sizes, .ref a_arrays, .int hasSnapshot, .int savedObjects, .int savedSteps, .int savedRules, .ref a_savedLengths, .ref a_savedSources, .ref a_savedTargets, .ref a_savedLabels, .ref a_savedSideLengths, .ref a_savedLetters, .ref a_savedSides, .ref a_savedPairs]))]] (xQi D [[(h, .inr (11, [.ref a_pairs, .ref a_above, .int objects, .int steps, .ref a_sources, .ref a_targets, .ref a_labels, .ref a_lengths, .ref a_letters, .ref a_distances, .ref a_longest, .int firstStep, .int secondStep, .ref a_lengthsTo, .ref a_lengthsFrom, .ref a_path, .int pathLength, .ref a_output, .int outputLength, .ref a_found, .int foundSteps, .ref a_keptLabels, .ref a_keptPairs, .ref a_input, .int inputLength, .int rules, .ref a_sides, .ref a_sideLengths, .int newObjects, .int newSteps, .ref a_newLengths, .ref a_newLetters, .ref a_newSources, .ref a_newTargets, .ref a_newLabels, .ref a_word, .int wordSize, .ref a_failed, .ref a_sizes, .ref a_arrays, .int hasSnapshot, .int savedObjects, .int savedSteps, .int savedRules, .ref a_savedLengths, .ref a_savedSources, .ref a_savedTargets, .ref a_savedLabels, .ref a_savedSideLengths, .ref a_savedLetters, .ref a_savedSides, .ref a_savedPairs]))]] out) := by
  refine x_ent (cc := cX12_objectCount) (maxL := 1) (by decide) rfl (Nat.le_of_ble_eq_true rfl) ?_
  intro p e s m blw meth c aa ls args Q H locs hQ hx hb hr hml hown hts hlocks hE hN hl hP hS
  have hown : s.vm.findClass RX12 = some m.cls := hown
  have hl : lv_has ls 1 [(0, .ref h)] := hl
  refine lv_aload_n hx hb dX12_objectCount_0 rfl (lv_at hl 0 rfl) ?_
  refine x_get hx hb hts u_X12_objectCount_X12 hown hE hP 0 rfl rfl 2 (by decide) (hts (.fieldLink RX12 132 "DecreasingDiagramsModel" "objects" "I") (List.mem_of_getElem? (i := 1) rfl)) rfl dX12_objectCount_1 ?_
  have hf := Option.some.inj hf
  rewrite [← hQ, ← hf]
  exact x_iret hx hb hr hlocks hP hS dX12_objectCount_4

set_option maxRecDepth 20000 in
theorem u_X12_output_X12 : ∀ w ∈ wsX120, w ∈ wsX12_output := xx_pl _ [7, 8, 9, 10, 11, 12, 13, 14, 15, 16, 17, 18, 19, 20, 21, 22, 23, 24, 25, 26, 27, 28, 29, 30, 31, 32, 33, 34, 35, 36, 37, 38, 39, 40, 41, 42, 43, 44, 45, 46, 47, 48, 49, 50, 51, 52, 53, 54, 55, 56, 57, 58] (by decide +kernel)
def f_X12_output (outputLength : Int32) (output : (Nat → Int32)) (v1 : Int32) : Option (Int32) :=
  (f_X12_isBetween v1 0 (outputLength - 1)).bind (fun r_8 => if r_8 = 0 then (some (-2)) else (ck v1 400 (some (output v1.toNatClampNeg))))
set_option maxHeartbeats 4000000 in
set_option maxRecDepth 100000 in
theorem k_X12_output (l : Launch) (D : va_G) (G : Nat → ClassId) (fu : Nat) (h : Nat) (a_pairs : Nat) (a_above : Nat) (a_sources : Nat) (a_targets : Nat) (a_labels : Nat) (a_lengths : Nat) (a_letters : Nat) (a_distances : Nat) (a_longest : Nat) (a_lengthsTo : Nat) (a_lengthsFrom : Nat) (a_path : Nat) (a_output : Nat) (a_found : Nat) (a_keptLabels : Nat) (a_keptPairs : Nat) (a_input : Nat) (a_sides : Nat) (a_sideLengths : Nat) (a_newLengths : Nat) (a_newLetters : Nat) (a_newSources : Nat) (a_newTargets : Nat) (a_newLabels : Nat) (a_word : Nat) (a_failed : Nat) (a_sizes : Nat) (a_arrays : Nat) (a_savedLengths : Nat) (a_savedSources : Nat) (a_savedTargets : Nat) (a_savedLabels : Nat) (a_savedSideLengths : Nat) (a_savedLetters : Nat) (a_savedSides : Nat) (a_savedPairs : Nat) (objects : Int32) (steps : Int32) (firstStep : Int32) (secondStep : Int32) (pathLength : Int32) (outputLength : Int32) (foundSteps : Int32) (inputLength : Int32) (rules : Int32) (newObjects : Int32) (newSteps : Int32) (wordSize : Int32) (hasSnapshot : Int32) (savedObjects : Int32) (savedSteps : Int32) (savedRules : Int32) (output : (Nat → Int32))  (v1 : Int32) (out : Int32) (hf : f_X12_output outputLength output v1 = some out) : xMet l yX12_output wsX12_output (rM 1 22) D G [.ref h, .int v1] [[(h, .inr (11, [.ref a_pairs, .ref a_above, .int objects, .int steps, .ref a_sources, .ref a_targets, .ref a_labels, .ref a_lengths, .ref a_letters, .ref a_distances, .ref a_longest, .int firstStep, .int secondStep, .ref a_lengthsTo, .ref a_lengthsFrom, .ref a_path, .int pathLength, .ref a_output, .int outputLength, .ref a_found, .int foundSteps, .ref a_keptLabels, .ref a_keptPairs, .ref a_input, .int inputLength, .int rules, .ref a_sides, .ref a_sideLengths, .int newObjects, .int newSteps, .ref a_newLengths, .ref a_newLetters, .ref a_newSources, .ref a_newTargets, .ref a_newLabels, .ref a_word, .int wordSize, .ref a_failed, .ref a_sizes, .ref a_arrays, .int hasSnapshot, .int savedObjects, .int savedSteps, .int savedRules, .ref a_savedLengths, .ref a_savedSources, .ref a_savedTargets, .ref a_savedLabels, .ref a_savedSideLengths, .ref a_savedLetters, .ref a_savedSides, .ref a_savedPairs]))], [(a_output, .inl (G 0, 400, .inl output))]] (xQi D [[(h, .inr (11, [.ref a_pairs, .ref a_above, .int objects, .int steps, .ref a_sources, .ref a_targets, .ref a_labels, .ref a_lengths, .ref a_letters, .ref a_distances, .ref a_longest, .int firstStep, .int secondStep, .ref a_lengthsTo, .ref a_lengthsFrom, .ref a_path, .int pathLength, .ref a_output, .int outputLength, .ref a_found, .int foundSteps, .ref a_keptLabels, .ref a_keptPairs, .ref a_input, .int inputLength, .int rules, .ref a_sides, .ref a_sideLengths, .int newObjects, .int newSteps, .ref a_newLengths, .ref a_newLetters, .ref a_newSources, .ref a_newTargets, .ref a_newLabels, .ref a_word, .int wordSize, .ref a_failed, .ref a_sizes, .ref a_arrays, .int hasSnapshot, .int savedObjects, .int savedSteps, .int savedRules, .ref a_savedLengths, .ref a_savedSources, .ref a_savedTargets, .ref a_savedLabels, .ref a_savedSideLengths, .ref a_savedLetters, .ref a_savedSides, .ref a_savedPairs]))], [(a_output, .inl (G 0, 400, .inl output))]] out) := by
  refine x_ent (cc := cX12_output) (maxL := 2) (by decide) rfl (Nat.le_of_ble_eq_true rfl) ?_
  intro p e s m blw meth c aa ls args Q H locs hQ hx hb hr hml hown hts hlocks hE hN hl hP hS
  have hown : s.vm.findClass RX12 = some m.cls := hown
  have hl : lv_has ls 2 [(0, .ref h), (1, .int v1)] := hl
  refine lv_iload_n hx hb dX12_output_0 rfl (lv_at hl 1 rfl) ?_
  refine lv_iconst (v := 0) hx hb dX12_output_1 (by decide) ?_
  refine lv_aload_n hx hb dX12_output_2 rfl (lv_at hl 0 rfl) ?_
  refine x_get hx hb hts u_X12_output_X12 hown hE hP 0 rfl rfl 18 (by decide) (hts (.fieldLink RX12 216 "DecreasingDiagramsModel" "outputLength" "I") (List.mem_of_getElem? (i := 1) rfl)) rfl dX12_output_3 ?_
  refine lv_iconst (v := 1) hx hb dX12_output_6 (by decide) ?_
  refine lv_isub hx hb dX12_output_7 ?_
  obtain ⟨r_8, hr_8, hf⟩ := bd_some hf
  refine x_goi0 (ps := []) (x_runS (As := [.int v1, .int 0, .int (outputLength - 1)]) (rest := []) (ps := []) ⟨hx, hb, hml, hown, hts⟩ (k_X12_isBetween l D G fu v1 0 (outputLength - 1) r_8 hr_8) (va_cwS 3 hts gX12_output_X12_isBetween rfl rfl rfl (by decide +kernel) ⟨Nat.le_of_ble_eq_true rfl, Nat.le_of_ble_eq_true rfl⟩) hE hP hN rfl (by decide) rfl hl.1 (Nat.le_of_ble_eq_true rfl) dX12_output_8 ⟨Nat.zero_le _, Nat.zero_le _⟩) hP hN hS rfl (fun H locs hP hS => ?_)
  refine lv_if_eq (tgt := 23) hx hb dX12_output_11 (by decide) (fun c_11 => ?_) (fun c_11 => ?_)
  · have hf := it_pos c_11 hf
    refine lv_bipush (v := -2) hx hb dX12_output_23 (by decide) ?_
    have hf := Option.some.inj hf
    rewrite [← hQ, ← hf]
    exact x_iret hx hb hr hlocks hP hS dX12_output_25
  · have hf := it_neg c_11 hf
    refine lv_aload_n hx hb dX12_output_14 rfl (lv_at hl 0 rfl) ?_
    refine x_get hx hb hts u_X12_output_X12 hown hE hP 0 rfl rfl 17 (by decide) (hts (.fieldLink RX12 50 "DecreasingDiagramsModel" "output" "[I") (List.mem_of_getElem? (i := 2) rfl)) rfl dX12_output_15 ?_
    refine lv_iload_n hx hb dX12_output_18 rfl (lv_at hl 1 rfl) ?_
    obtain ⟨hi, hf⟩ := ck_some hf
    refine x_iald hx hb hE hP 1 rfl hi dX12_output_19 ?_
    refine lv_goto (tgt := 25) hx hb dX12_output_20 (by decide) ?_
    have hf := Option.some.inj hf
    rewrite [← hQ, ← hf]
    exact x_iret hx hb hr hlocks hP hS dX12_output_25

def f_X12_peakCount_L2 (fu : Nat) (steps : Int32) (sources : (Nat → Int32)) (rec_2 : Int32 → Int32 → Int32 → Option (Int32 × Int32 × Int32)) (v1 : Int32) (firstStep : Int32) (secondStep : Int32) : Option (Int32 × Int32 × Int32) :=
  (f_X12_findPeak fu steps firstStep secondStep sources v1).bind (fun r_4 => if r_4.1 = 0 then (some (v1, r_4.2.1, r_4.2.2)) else (lt (v1 + 1) (fun v1_10 => rec_2 v1_10 r_4.2.1 r_4.2.2)))
def f_X12_peakCount (fu : Nat) (steps : Int32) (firstStep : Int32) (secondStep : Int32) (sources : (Nat → Int32)) : Option (Int32 × Int32 × Int32) :=
  lt (0 : Int32) (fun v1_1 => lp (τ := Int32 → Int32 → Int32 → Option (Int32 × Int32 × Int32)) (fun _ _ _ => none) (f_X12_peakCount_L2 fu steps sources) fu v1_1 firstStep secondStep)
set_option maxHeartbeats 4000000 in
set_option maxRecDepth 100000 in
theorem k_X12_peakCount (l : Launch) (D : va_G) (G : Nat → ClassId) (fu : Nat) (h : Nat) (a_pairs : Nat) (a_above : Nat) (a_sources : Nat) (a_targets : Nat) (a_labels : Nat) (a_lengths : Nat) (a_letters : Nat) (a_distances : Nat) (a_longest : Nat) (a_lengthsTo : Nat) (a_lengthsFrom : Nat) (a_path : Nat) (a_output : Nat) (a_found : Nat) (a_keptLabels : Nat) (a_keptPairs : Nat) (a_input : Nat) (a_sides : Nat) (a_sideLengths : Nat) (a_newLengths : Nat) (a_newLetters : Nat) (a_newSources : Nat) (a_newTargets : Nat) (a_newLabels : Nat) (a_word : Nat) (a_failed : Nat) (a_sizes : Nat) (a_arrays : Nat) (a_savedLengths : Nat) (a_savedSources : Nat) (a_savedTargets : Nat) (a_savedLabels : Nat) (a_savedSideLengths : Nat) (a_savedLetters : Nat) (a_savedSides : Nat) (a_savedPairs : Nat) (objects : Int32) (steps : Int32) (firstStep : Int32) (secondStep : Int32) (pathLength : Int32) (outputLength : Int32) (foundSteps : Int32) (inputLength : Int32) (rules : Int32) (newObjects : Int32) (newSteps : Int32) (wordSize : Int32) (hasSnapshot : Int32) (savedObjects : Int32) (savedSteps : Int32) (savedRules : Int32) (sources : (Nat → Int32))   (out : Int32 × Int32 × Int32) (hf : f_X12_peakCount fu steps firstStep secondStep sources = some out) : xMet l yX12_peakCount wsX12_peakCount (rM 1 24) D G [.ref h] [[(h, .inr (11, [.ref a_pairs, .ref a_above, .int objects, .int steps, .ref a_sources, .ref a_targets, .ref a_labels, .ref a_lengths, .ref a_letters, .ref a_distances, .ref a_longest, .int firstStep, .int secondStep, .ref a_lengthsTo, .ref a_lengthsFrom, .ref a_path, .int pathLength, .ref a_output, .int outputLength, .ref a_found, .int foundSteps, .ref a_keptLabels, .ref a_keptPairs, .ref a_input, .int inputLength, .int rules, .ref a_sides, .ref a_sideLengths, .int newObjects, .int newSteps, .ref a_newLengths, .ref a_newLetters, .ref a_newSources, .ref a_newTargets, .ref a_newLabels, .ref a_word, .int wordSize, .ref a_failed, .ref a_sizes, .ref a_arrays, .int hasSnapshot, .int savedObjects, .int savedSteps, .int savedRules, .ref a_savedLengths, .ref a_savedSources, .ref a_savedTargets, .ref a_savedLabels, .ref a_savedSideLengths, .ref a_savedLetters, .ref a_savedSides, .ref a_savedPairs]))], [(a_sources, .inl (G 0, 32, .inl sources))]] (xQi D [[(h, .inr (11, [.ref a_pairs, .ref a_above, .int objects, .int steps, .ref a_sources, .ref a_targets, .ref a_labels, .ref a_lengths, .ref a_letters, .ref a_distances, .ref a_longest, .int out.2.1, .int out.2.2, .ref a_lengthsTo, .ref a_lengthsFrom, .ref a_path, .int pathLength, .ref a_output, .int outputLength, .ref a_found, .int foundSteps, .ref a_keptLabels, .ref a_keptPairs, .ref a_input, .int inputLength, .int rules, .ref a_sides, .ref a_sideLengths, .int newObjects, .int newSteps, .ref a_newLengths, .ref a_newLetters, .ref a_newSources, .ref a_newTargets, .ref a_newLabels, .ref a_word, .int wordSize, .ref a_failed, .ref a_sizes, .ref a_arrays, .int hasSnapshot, .int savedObjects, .int savedSteps, .int savedRules, .ref a_savedLengths, .ref a_savedSources, .ref a_savedTargets, .ref a_savedLabels, .ref a_savedSideLengths, .ref a_savedLetters, .ref a_savedSides, .ref a_savedPairs]))], [(a_sources, .inl (G 0, 32, .inl sources))]] out.1) := by
  refine x_ent (cc := cX12_peakCount) (maxL := 2) (by decide) rfl (Nat.le_of_ble_eq_true rfl) ?_
  intro p e s m blw meth c aa ls args Q H locs hQ hx hb hr hml hown hts hlocks hE hN hl hP hS
  have hown : s.vm.findClass RX12 = some m.cls := hown
  have hl : lv_has ls 2 [(0, .ref h)] := hl
  have L2 : ∀ (n_2 : Nat) (v1 : Int32) (firstStep : Int32) (secondStep : Int32) (H : Heap) (locs : List Loc) (ls : Array Slot), xW D aa [[(h, .inr (11, [.ref a_pairs, .ref a_above, .int objects, .int steps, .ref a_sources, .ref a_targets, .ref a_labels, .ref a_lengths, .ref a_letters, .ref a_distances, .ref a_longest, .int firstStep, .int secondStep, .ref a_lengthsTo, .ref a_lengthsFrom, .ref a_path, .int pathLength, .ref a_output, .int outputLength, .ref a_found, .int foundSteps, .ref a_keptLabels, .ref a_keptPairs, .ref a_input, .int inputLength, .int rules, .ref a_sides, .ref a_sideLengths, .int newObjects, .int newSteps, .ref a_newLengths, .ref a_newLetters, .ref a_newSources, .ref a_newTargets, .ref a_newLabels, .ref a_word, .int wordSize, .ref a_failed, .ref a_sizes, .ref a_arrays, .int hasSnapshot, .int savedObjects, .int savedSteps, .int savedRules, .ref a_savedLengths, .ref a_savedSources, .ref a_savedTargets, .ref a_savedLabels, .ref a_savedSideLengths, .ref a_savedLetters, .ref a_savedSides, .ref a_savedPairs]))], [(a_sources, .inl (G 0, 32, .inl sources))]] H → va_S (xA aa) s.heap H locs → lv_has ls 2 [(0, .ref h), (1, .int v1)] → lp (τ := Int32 → Int32 → Int32 → Option (Int32 × Int32 × Int32)) (fun _ _ _ => none) (f_X12_peakCount_L2 fu steps sources) n_2 v1 firstStep secondStep = some out → W p l e (rM 1 24) s m args blw meth c H locs 0 0 Q (F0 m 2 ls []) := by
    intro    n_2
    induction n_2 with
    | zero =>
      intro v1 firstStep secondStep H locs ls hP hS hl hf
      exact no_some hf
    | succ n_2 ih_2 =>
      intro v1 firstStep secondStep H locs ls hP hS hl hf
      have hf : f_X12_peakCount_L2 fu steps sources (lp (τ := Int32 → Int32 → Int32 → Option (Int32 × Int32 × Int32)) (fun _ _ _ => none) (f_X12_peakCount_L2 fu steps sources) n_2) v1 firstStep secondStep = some out := hf
      refine lv_aload_n hx hb dX12_peakCount_2 rfl (lv_at hl 0 rfl) ?_
      refine lv_iload_n hx hb dX12_peakCount_3 rfl (lv_at hl 1 rfl) ?_
      obtain ⟨r_4, hr_4, hf⟩ := bd_some hf
      refine x_goi (ps := [0, 1]) (qs := []) (n := 2) (I' := [[(h, .inr (11, [.ref a_pairs, .ref a_above, .int objects, .int steps, .ref a_sources, .ref a_targets, .ref a_labels, .ref a_lengths, .ref a_letters, .ref a_distances, .ref a_longest, .int r_4.2.1, .int r_4.2.2, .ref a_lengthsTo, .ref a_lengthsFrom, .ref a_path, .int pathLength, .ref a_output, .int outputLength, .ref a_found, .int foundSteps, .ref a_keptLabels, .ref a_keptPairs, .ref a_input, .int inputLength, .int rules, .ref a_sides, .ref a_sideLengths, .int newObjects, .int newSteps, .ref a_newLengths, .ref a_newLetters, .ref a_newSources, .ref a_newTargets, .ref a_newLabels, .ref a_word, .int wordSize, .ref a_failed, .ref a_sizes, .ref a_arrays, .int hasSnapshot, .int savedObjects, .int savedSteps, .int savedRules, .ref a_savedLengths, .ref a_savedSources, .ref a_savedTargets, .ref a_savedLabels, .ref a_savedSideLengths, .ref a_savedLetters, .ref a_savedSides, .ref a_savedPairs]))], [(a_sources, .inl (G 0, 32, .inl sources))]]) (x_runV (As := [.int v1]) (rest := []) (ps := [0, 1]) ⟨hx, hb, hml, hown, hts⟩ (k_X12_findPeak l D G fu h a_pairs a_above a_sources a_targets a_labels a_lengths a_letters a_distances a_longest a_lengthsTo a_lengthsFrom a_path a_output a_found a_keptLabels a_keptPairs a_input a_sides a_sideLengths a_newLengths a_newLetters a_newSources a_newTargets a_newLabels a_word a_failed a_sizes a_arrays a_savedLengths a_savedSources a_savedTargets a_savedLabels a_savedSideLengths a_savedLetters a_savedSides a_savedPairs objects steps firstStep secondStep pathLength outputLength foundSteps inputLength rules newObjects newSteps wordSize hasSnapshot savedObjects savedSteps savedRules sources v1 r_4 hr_4) (cwV 1 hts gX12_peakCount_X12_findPeak rfl rfl rfl (by decide +kernel) ⟨Nat.le_of_ble_eq_true rfl, Nat.le_of_ble_eq_true rfl⟩) hE hP hN rfl (by decide) 0 rfl rfl rfl hl.1 (Nat.le_of_ble_eq_true rfl) dX12_peakCount_4 ⟨Nat.zero_le _, Nat.zero_le _⟩) hP hN hS rfl rfl rfl rfl rfl (by decide) (fun H locs hP hS => ?_)
      refine lv_if_eq (tgt := 16) hx hb dX12_peakCount_7 (by decide) (fun c_7 => ?_) (fun c_7 => ?_)
      · have hf := it_pos c_7 hf
        refine lv_iload_n hx hb dX12_peakCount_16 rfl (lv_at hl 1 rfl) ?_
        have hf := Option.some.inj hf
        rewrite [← hQ, ← hf]
        exact x_iret hx hb hr hlocks hP hS dX12_peakCount_17
      · have hf := it_neg c_7 hf
        obtain ⟨v1_10, e_v1_10, hf⟩ := lt_some hf
        refine lv_iinc (v := v1_10) (lv' := [(1, .int v1_10), (0, .ref h)]) hx hb dX12_peakCount_10 hl (k := 1) rfl (by rw [e_v1_10]; rfl) (by decide) rfl (fun ls hl => ?_)
        refine lv_goto (tgt := 2) hx hb dX12_peakCount_13 (by decide) ?_
        exact ih_2 v1_10 r_4.2.1 r_4.2.2 H locs ls hP hS (lv_sub hl [1, 0] rfl) hf
  refine lv_iconst (v := 0) hx hb dX12_peakCount_0 (by decide) ?_
  obtain ⟨v1_1, e_v1_1, hf⟩ := lt_some hf
  refine x_istore_n (v := v1_1) (lv' := [(1, .int v1_1), (0, .ref h)]) hx hb dX12_peakCount_1 e_v1_1 rfl hl (by decide) rfl (fun ls hl => ?_)
  exact L2    fu v1_1 firstStep secondStep H locs ls hP hS (lv_sub hl [1, 0] rfl) hf

set_option maxRecDepth 20000 in
theorem u_X12_peakStep_X12 : ∀ w ∈ wsX120, w ∈ wsX12_peakStep := xx_pl _ [16, 17, 18, 19, 20, 21, 22, 23, 24, 25, 26, 27, 28, 29, 30, 31, 32, 33, 34, 35, 36, 37, 38, 39, 40, 41, 42, 43, 44, 45, 46, 47, 48, 49, 50, 51, 52, 53, 54, 55, 56, 57, 58, 59, 60, 61, 62, 63, 64, 65, 66, 67] (by decide +kernel)
def f_X12_peakStep (fu : Nat) (steps : Int32) (firstStep : Int32) (secondStep : Int32) (sources : (Nat → Int32)) (v1 : Int32) (v2 : Int32) : Option (Int32 × Int32 × Int32) :=
  (f_X12_findPeak fu steps firstStep secondStep sources v1).bind (fun r_2 => if r_2.1 = 0 then (some ((-1), r_2.2.1, r_2.2.2)) else ((f_X12_isSide v2).bind (fun r_9 => if ¬ r_9 = 0 then (if ¬ v2 = 0 then (some (r_2.2.2, r_2.2.1, r_2.2.2)) else (some (r_2.2.1, r_2.2.1, r_2.2.2))) else (some ((-1), r_2.2.1, r_2.2.2)))))
set_option maxHeartbeats 4000000 in
set_option maxRecDepth 100000 in
theorem k_X12_peakStep (l : Launch) (D : va_G) (G : Nat → ClassId) (fu : Nat) (h : Nat) (a_pairs : Nat) (a_above : Nat) (a_sources : Nat) (a_targets : Nat) (a_labels : Nat) (a_lengths : Nat) (a_letters : Nat) (a_distances : Nat) (a_longest : Nat) (a_lengthsTo : Nat) (a_lengthsFrom : Nat) (a_path : Nat) (a_output : Nat) (a_found : Nat) (a_keptLabels : Nat) (a_keptPairs : Nat) (a_input : Nat) (a_sides : Nat) (a_sideLengths : Nat) (a_newLengths : Nat) (a_newLetters : Nat) (a_newSources : Nat) (a_newTargets : Nat) (a_newLabels : Nat) (a_word : Nat) (a_failed : Nat) (a_sizes : Nat) (a_arrays : Nat) (a_savedLengths : Nat) (a_savedSources : Nat) (a_savedTargets : Nat) (a_savedLabels : Nat) (a_savedSideLengths : Nat) (a_savedLetters : Nat) (a_savedSides : Nat) (a_savedPairs : Nat) (objects : Int32) (steps : Int32) (firstStep : Int32) (secondStep : Int32) (pathLength : Int32) (outputLength : Int32) (foundSteps : Int32) (inputLength : Int32) (rules : Int32) (newObjects : Int32) (newSteps : Int32) (wordSize : Int32) (hasSnapshot : Int32) (savedObjects : Int32) (savedSteps : Int32) (savedRules : Int32) (sources : (Nat → Int32))  (v1 : Int32) (v2 : Int32) (out : Int32 × Int32 × Int32) (hf : f_X12_peakStep fu steps firstStep secondStep sources v1 v2 = some out) : xMet l yX12_peakStep wsX12_peakStep (rM 2 42) D G [.ref h, .int v1, .int v2] [[(h, .inr (11, [.ref a_pairs, .ref a_above, .int objects, .int steps, .ref a_sources, .ref a_targets, .ref a_labels, .ref a_lengths, .ref a_letters, .ref a_distances, .ref a_longest, .int firstStep, .int secondStep, .ref a_lengthsTo, .ref a_lengthsFrom, .ref a_path, .int pathLength, .ref a_output, .int outputLength, .ref a_found, .int foundSteps, .ref a_keptLabels, .ref a_keptPairs, .ref a_input, .int inputLength, .int rules, .ref a_sides, .ref a_sideLengths, .int newObjects, .int newSteps, .ref a_newLengths, .ref a_newLetters, .ref a_newSources, .ref a_newTargets, .ref a_newLabels, .ref a_word, .int wordSize, .ref a_failed, .ref a_sizes, .ref a_arrays, .int hasSnapshot, .int savedObjects, .int savedSteps, .int savedRules, .ref a_savedLengths, .ref a_savedSources, .ref a_savedTargets, .ref a_savedLabels, .ref a_savedSideLengths, .ref a_savedLetters, .ref a_savedSides, .ref a_savedPairs]))], [(a_sources, .inl (G 0, 32, .inl sources))]] (xQi D [[(h, .inr (11, [.ref a_pairs, .ref a_above, .int objects, .int steps, .ref a_sources, .ref a_targets, .ref a_labels, .ref a_lengths, .ref a_letters, .ref a_distances, .ref a_longest, .int out.2.1, .int out.2.2, .ref a_lengthsTo, .ref a_lengthsFrom, .ref a_path, .int pathLength, .ref a_output, .int outputLength, .ref a_found, .int foundSteps, .ref a_keptLabels, .ref a_keptPairs, .ref a_input, .int inputLength, .int rules, .ref a_sides, .ref a_sideLengths, .int newObjects, .int newSteps, .ref a_newLengths, .ref a_newLetters, .ref a_newSources, .ref a_newTargets, .ref a_newLabels, .ref a_word, .int wordSize, .ref a_failed, .ref a_sizes, .ref a_arrays, .int hasSnapshot, .int savedObjects, .int savedSteps, .int savedRules, .ref a_savedLengths, .ref a_savedSources, .ref a_savedTargets, .ref a_savedLabels, .ref a_savedSideLengths, .ref a_savedLetters, .ref a_savedSides, .ref a_savedPairs]))], [(a_sources, .inl (G 0, 32, .inl sources))]] out.1) := by
  refine x_ent (cc := cX12_peakStep) (maxL := 3) (by decide) rfl (Nat.le_of_ble_eq_true rfl) ?_
  intro p e s m blw meth c aa ls args Q H locs hQ hx hb hr hml hown hts hlocks hE hN hl hP hS
  have hown : s.vm.findClass RX12 = some m.cls := hown
  have hl : lv_has ls 3 [(0, .ref h), (1, .int v1), (2, .int v2)] := hl
  refine lv_aload_n hx hb dX12_peakStep_0 rfl (lv_at hl 0 rfl) ?_
  refine lv_iload_n hx hb dX12_peakStep_1 rfl (lv_at hl 1 rfl) ?_
  obtain ⟨r_2, hr_2, hf⟩ := bd_some hf
  refine x_goi (ps := [0, 1]) (qs := []) (n := 2) (I' := [[(h, .inr (11, [.ref a_pairs, .ref a_above, .int objects, .int steps, .ref a_sources, .ref a_targets, .ref a_labels, .ref a_lengths, .ref a_letters, .ref a_distances, .ref a_longest, .int r_2.2.1, .int r_2.2.2, .ref a_lengthsTo, .ref a_lengthsFrom, .ref a_path, .int pathLength, .ref a_output, .int outputLength, .ref a_found, .int foundSteps, .ref a_keptLabels, .ref a_keptPairs, .ref a_input, .int inputLength, .int rules, .ref a_sides, .ref a_sideLengths, .int newObjects, .int newSteps, .ref a_newLengths, .ref a_newLetters, .ref a_newSources, .ref a_newTargets, .ref a_newLabels, .ref a_word, .int wordSize, .ref a_failed, .ref a_sizes, .ref a_arrays, .int hasSnapshot, .int savedObjects, .int savedSteps, .int savedRules, .ref a_savedLengths, .ref a_savedSources, .ref a_savedTargets, .ref a_savedLabels, .ref a_savedSideLengths, .ref a_savedLetters, .ref a_savedSides, .ref a_savedPairs]))], [(a_sources, .inl (G 0, 32, .inl sources))]]) (x_runV (As := [.int v1]) (rest := []) (ps := [0, 1]) ⟨hx, hb, hml, hown, hts⟩ (k_X12_findPeak l D G fu h a_pairs a_above a_sources a_targets a_labels a_lengths a_letters a_distances a_longest a_lengthsTo a_lengthsFrom a_path a_output a_found a_keptLabels a_keptPairs a_input a_sides a_sideLengths a_newLengths a_newLetters a_newSources a_newTargets a_newLabels a_word a_failed a_sizes a_arrays a_savedLengths a_savedSources a_savedTargets a_savedLabels a_savedSideLengths a_savedLetters a_savedSides a_savedPairs objects steps firstStep secondStep pathLength outputLength foundSteps inputLength rules newObjects newSteps wordSize hasSnapshot savedObjects savedSteps savedRules sources v1 r_2 hr_2) (cwV 1 hts gX12_peakStep_X12_findPeak rfl rfl rfl (by decide +kernel) ⟨Nat.le_of_ble_eq_true rfl, Nat.le_of_ble_eq_true rfl⟩) hE hP hN rfl (by decide) 0 rfl rfl rfl hl.1 (Nat.le_of_ble_eq_true rfl) dX12_peakStep_2 ⟨Nat.zero_le _, Nat.zero_le _⟩) hP hN hS rfl rfl rfl rfl rfl (by decide) (fun H locs hP hS => ?_)
  refine lv_if_eq (tgt := 15) hx hb dX12_peakStep_5 (by decide) (fun c_5 => ?_) (fun c_5 => ?_)
  · have hf := it_pos c_5 hf
    refine lv_iconst (v := -1) hx hb dX12_peakStep_15 (by decide) ?_
    have hf := Option.some.inj hf
    rewrite [← hQ, ← hf]
    exact x_iret hx hb hr hlocks hP hS dX12_peakStep_16
  · have hf := it_neg c_5 hf
    refine lv_iload_n hx hb dX12_peakStep_8 rfl (lv_at hl 2 rfl) ?_
    obtain ⟨r_9, hr_9, hf⟩ := bd_some hf
    refine x_goi0 (ps := []) (x_runS (As := [.int v2]) (rest := []) (ps := []) ⟨hx, hb, hml, hown, hts⟩ (k_X12_isSide l D G fu v2 r_9 hr_9) (va_cwS 1 hts gX12_peakStep_X12_isSide rfl rfl rfl (by decide +kernel) ⟨Nat.le_of_ble_eq_true rfl, Nat.le_of_ble_eq_true rfl⟩) hE hP hN rfl (by decide) rfl hl.1 (Nat.le_of_ble_eq_true rfl) dX12_peakStep_9 ⟨Nat.zero_le _, Nat.zero_le _⟩) hP hN hS rfl (fun H locs hP hS => ?_)
    refine lv_if_ne (tgt := 17) hx hb dX12_peakStep_12 (by decide) (fun c_12 => ?_) (fun c_12 => ?_)
    · have hf := it_pos c_12 hf
      refine lv_iload_n hx hb dX12_peakStep_17 rfl (lv_at hl 2 rfl) ?_
      refine lv_if_ne (tgt := 28) hx hb dX12_peakStep_18 (by decide) (fun c_18 => ?_) (fun c_18 => ?_)
      · have hf := it_pos c_18 hf
        refine lv_aload_n hx hb dX12_peakStep_28 rfl (lv_at hl 0 rfl) ?_
        refine x_get hx hb hts u_X12_peakStep_X12 hown hE hP 0 rfl rfl 12 (by decide) (hts (.fieldLink RX12 175 "DecreasingDiagramsModel" "secondStep" "I") (List.mem_of_getElem? (i := 2) rfl)) rfl dX12_peakStep_29 ?_
        have hf := Option.some.inj hf
        rewrite [← hQ, ← hf]
        exact x_iret hx hb hr hlocks hP hS dX12_peakStep_32
      · have hf := it_neg (fun h => h c_18) hf
        refine lv_aload_n hx hb dX12_peakStep_21 rfl (lv_at hl 0 rfl) ?_
        refine x_get hx hb hts u_X12_peakStep_X12 hown hE hP 0 rfl rfl 11 (by decide) (hts (.fieldLink RX12 172 "DecreasingDiagramsModel" "firstStep" "I") (List.mem_of_getElem? (i := 1) rfl)) rfl dX12_peakStep_22 ?_
        refine lv_goto (tgt := 32) hx hb dX12_peakStep_25 (by decide) ?_
        have hf := Option.some.inj hf
        rewrite [← hQ, ← hf]
        exact x_iret hx hb hr hlocks hP hS dX12_peakStep_32
    · have hf := it_neg (fun h => h c_12) hf
      refine lv_iconst (v := -1) hx hb dX12_peakStep_15 (by decide) ?_
      have hf := Option.some.inj hf
      rewrite [← hQ, ← hf]
      exact x_iret hx hb hr hlocks hP hS dX12_peakStep_16

def f_X12_reachable (fu : Nat) (objects : Int32) (steps : Int32) (distances : (Nat → Nat → Int32)) (sources : (Nat → Int32)) (targets : (Nat → Int32)) (v1 : Int32) : Option (Int32 × (Nat → Nat → Int32)) :=
  (f_X12_isObject objects v1).bind (fun r_2 => if ¬ r_2 = 0 then ((f_X12_findDistances fu objects steps distances sources targets).bind (fun r_11 => (f_X12_reachedFrom fu objects r_11 v1).bind (fun r_16 => some (r_16, r_11)))) else (some ((-1), distances)))
set_option maxHeartbeats 4000000 in
set_option maxRecDepth 100000 in
theorem k_X12_reachable (l : Launch) (D : va_G) (G : Nat → ClassId) (fu : Nat) (h : Nat) (a_pairs : Nat) (a_above : Nat) (a_sources : Nat) (a_targets : Nat) (a_labels : Nat) (a_lengths : Nat) (a_letters : Nat) (a_distances : Nat) (a_longest : Nat) (a_lengthsTo : Nat) (a_lengthsFrom : Nat) (a_path : Nat) (a_output : Nat) (a_found : Nat) (a_keptLabels : Nat) (a_keptPairs : Nat) (a_input : Nat) (a_sides : Nat) (a_sideLengths : Nat) (a_newLengths : Nat) (a_newLetters : Nat) (a_newSources : Nat) (a_newTargets : Nat) (a_newLabels : Nat) (a_word : Nat) (a_failed : Nat) (a_sizes : Nat) (a_arrays : Nat) (a_savedLengths : Nat) (a_savedSources : Nat) (a_savedTargets : Nat) (a_savedLabels : Nat) (a_savedSideLengths : Nat) (a_savedLetters : Nat) (a_savedSides : Nat) (a_savedPairs : Nat) (r_distances : Nat → Nat) (objects : Int32) (steps : Int32) (firstStep : Int32) (secondStep : Int32) (pathLength : Int32) (outputLength : Int32) (foundSteps : Int32) (inputLength : Int32) (rules : Int32) (newObjects : Int32) (newSteps : Int32) (wordSize : Int32) (hasSnapshot : Int32) (savedObjects : Int32) (savedSteps : Int32) (savedRules : Int32) (distances : (Nat → Nat → Int32)) (sources : (Nat → Int32)) (targets : (Nat → Int32))  (v1 : Int32) (out : Int32 × (Nat → Nat → Int32)) (hf : f_X12_reachable fu objects steps distances sources targets v1 = some out) : xMet l yX12_reachable wsX12_reachable (rM 2 43) D G [.ref h, .int v1] [[(h, .inr (11, [.ref a_pairs, .ref a_above, .int objects, .int steps, .ref a_sources, .ref a_targets, .ref a_labels, .ref a_lengths, .ref a_letters, .ref a_distances, .ref a_longest, .int firstStep, .int secondStep, .ref a_lengthsTo, .ref a_lengthsFrom, .ref a_path, .int pathLength, .ref a_output, .int outputLength, .ref a_found, .int foundSteps, .ref a_keptLabels, .ref a_keptPairs, .ref a_input, .int inputLength, .int rules, .ref a_sides, .ref a_sideLengths, .int newObjects, .int newSteps, .ref a_newLengths, .ref a_newLetters, .ref a_newSources, .ref a_newTargets, .ref a_newLabels, .ref a_word, .int wordSize, .ref a_failed, .ref a_sizes, .ref a_arrays, .int hasSnapshot, .int savedObjects, .int savedSteps, .int savedRules, .ref a_savedLengths, .ref a_savedSources, .ref a_savedTargets, .ref a_savedLabels, .ref a_savedSideLengths, .ref a_savedLetters, .ref a_savedSides, .ref a_savedPairs]))], [gO (G 4) a_distances r_distances 16], gI (G 0) r_distances 16 16 distances, [(a_sources, .inl (G 0, 32, .inl sources))], [(a_targets, .inl (G 0, 32, .inl targets))]] (xQi D [[(h, .inr (11, [.ref a_pairs, .ref a_above, .int objects, .int steps, .ref a_sources, .ref a_targets, .ref a_labels, .ref a_lengths, .ref a_letters, .ref a_distances, .ref a_longest, .int firstStep, .int secondStep, .ref a_lengthsTo, .ref a_lengthsFrom, .ref a_path, .int pathLength, .ref a_output, .int outputLength, .ref a_found, .int foundSteps, .ref a_keptLabels, .ref a_keptPairs, .ref a_input, .int inputLength, .int rules, .ref a_sides, .ref a_sideLengths, .int newObjects, .int newSteps, .ref a_newLengths, .ref a_newLetters, .ref a_newSources, .ref a_newTargets, .ref a_newLabels, .ref a_word, .int wordSize, .ref a_failed, .ref a_sizes, .ref a_arrays, .int hasSnapshot, .int savedObjects, .int savedSteps, .int savedRules, .ref a_savedLengths, .ref a_savedSources, .ref a_savedTargets, .ref a_savedLabels, .ref a_savedSideLengths, .ref a_savedLetters, .ref a_savedSides, .ref a_savedPairs]))], [gO (G 4) a_distances r_distances 16], gI (G 0) r_distances 16 16 out.2, [(a_sources, .inl (G 0, 32, .inl sources))], [(a_targets, .inl (G 0, 32, .inl targets))]] out.1) := by
  refine x_ent (cc := cX12_reachable) (maxL := 2) (by decide) rfl (Nat.le_of_ble_eq_true rfl) ?_
  intro p e s m blw meth c aa ls args Q H locs hQ hx hb hr hml hown hts hlocks hE hN hl hP hS
  have hown : s.vm.findClass RX12 = some m.cls := hown
  have hl : lv_has ls 2 [(0, .ref h), (1, .int v1)] := hl
  refine lv_aload_n hx hb dX12_reachable_0 rfl (lv_at hl 0 rfl) ?_
  refine lv_iload_n hx hb dX12_reachable_1 rfl (lv_at hl 1 rfl) ?_
  obtain ⟨r_2, hr_2, hf⟩ := bd_some hf
  refine x_goi0 (ps := [0]) (x_runV (As := [.int v1]) (rest := []) (ps := [0]) ⟨hx, hb, hml, hown, hts⟩ (k_X12_isObject l D G fu h a_pairs a_above a_sources a_targets a_labels a_lengths a_letters a_distances a_longest a_lengthsTo a_lengthsFrom a_path a_output a_found a_keptLabels a_keptPairs a_input a_sides a_sideLengths a_newLengths a_newLetters a_newSources a_newTargets a_newLabels a_word a_failed a_sizes a_arrays a_savedLengths a_savedSources a_savedTargets a_savedLabels a_savedSideLengths a_savedLetters a_savedSides a_savedPairs objects steps firstStep secondStep pathLength outputLength foundSteps inputLength rules newObjects newSteps wordSize hasSnapshot savedObjects savedSteps savedRules v1 r_2 hr_2) (cwV 1 hts gX12_reachable_X12_isObject rfl rfl rfl (by decide +kernel) ⟨Nat.le_of_ble_eq_true rfl, Nat.le_of_ble_eq_true rfl⟩) hE hP hN rfl (by decide) 0 rfl rfl rfl hl.1 (Nat.le_of_ble_eq_true rfl) dX12_reachable_2 ⟨Nat.zero_le _, Nat.zero_le _⟩) hP hN hS rfl (fun H locs hP hS => ?_)
  refine lv_if_ne (tgt := 10) hx hb dX12_reachable_5 (by decide) (fun c_5 => ?_) (fun c_5 => ?_)
  · have hf := it_pos c_5 hf
    refine lv_aload_n hx hb dX12_reachable_10 rfl (lv_at hl 0 rfl) ?_
    obtain ⟨r_11, hr_11, hf⟩ := bd_some hf
    refine x_gov (ps := [0, 1, 2, 3, 4]) (qs := []) (n := 5) (I' := [[(h, .inr (11, [.ref a_pairs, .ref a_above, .int objects, .int steps, .ref a_sources, .ref a_targets, .ref a_labels, .ref a_lengths, .ref a_letters, .ref a_distances, .ref a_longest, .int firstStep, .int secondStep, .ref a_lengthsTo, .ref a_lengthsFrom, .ref a_path, .int pathLength, .ref a_output, .int outputLength, .ref a_found, .int foundSteps, .ref a_keptLabels, .ref a_keptPairs, .ref a_input, .int inputLength, .int rules, .ref a_sides, .ref a_sideLengths, .int newObjects, .int newSteps, .ref a_newLengths, .ref a_newLetters, .ref a_newSources, .ref a_newTargets, .ref a_newLabels, .ref a_word, .int wordSize, .ref a_failed, .ref a_sizes, .ref a_arrays, .int hasSnapshot, .int savedObjects, .int savedSteps, .int savedRules, .ref a_savedLengths, .ref a_savedSources, .ref a_savedTargets, .ref a_savedLabels, .ref a_savedSideLengths, .ref a_savedLetters, .ref a_savedSides, .ref a_savedPairs]))], [gO (G 4) a_distances r_distances 16], gI (G 0) r_distances 16 16 r_11, [(a_sources, .inl (G 0, 32, .inl sources))], [(a_targets, .inl (G 0, 32, .inl targets))]]) (x_runV (As := []) (rest := []) (ps := [0, 1, 2, 3, 4]) ⟨hx, hb, hml, hown, hts⟩ (k_X12_findDistances l D G fu h a_pairs a_above a_sources a_targets a_labels a_lengths a_letters a_distances a_longest a_lengthsTo a_lengthsFrom a_path a_output a_found a_keptLabels a_keptPairs a_input a_sides a_sideLengths a_newLengths a_newLetters a_newSources a_newTargets a_newLabels a_word a_failed a_sizes a_arrays a_savedLengths a_savedSources a_savedTargets a_savedLabels a_savedSideLengths a_savedLetters a_savedSides a_savedPairs r_distances objects steps firstStep secondStep pathLength outputLength foundSteps inputLength rules newObjects newSteps wordSize hasSnapshot savedObjects savedSteps savedRules distances sources targets r_11 hr_11) (cwV 0 hts gX12_reachable_X12_findDistances rfl rfl rfl (by decide +kernel) ⟨Nat.le_of_ble_eq_true rfl, Nat.le_of_ble_eq_true rfl⟩) hE hP hN rfl (by decide) 0 rfl rfl rfl hl.1 (Nat.le_of_ble_eq_true rfl) dX12_reachable_11 ⟨Nat.zero_le _, Nat.zero_le _⟩) hP hN hS rfl rfl rfl rfl rfl (by decide) (fun H locs hP hS => ?_)
    refine lv_aload_n hx hb dX12_reachable_14 rfl (lv_at hl 0 rfl) ?_
    refine lv_iload_n hx hb dX12_reachable_15 rfl (lv_at hl 1 rfl) ?_
    obtain ⟨r_16, hr_16, hf⟩ := bd_some hf
    refine x_goi0 (ps := [0, 1, 2]) (x_runV (As := [.int v1]) (rest := []) (ps := [0, 1, 2]) ⟨hx, hb, hml, hown, hts⟩ (k_X12_reachedFrom l D G fu h a_pairs a_above a_sources a_targets a_labels a_lengths a_letters a_distances a_longest a_lengthsTo a_lengthsFrom a_path a_output a_found a_keptLabels a_keptPairs a_input a_sides a_sideLengths a_newLengths a_newLetters a_newSources a_newTargets a_newLabels a_word a_failed a_sizes a_arrays a_savedLengths a_savedSources a_savedTargets a_savedLabels a_savedSideLengths a_savedLetters a_savedSides a_savedPairs r_distances objects steps firstStep secondStep pathLength outputLength foundSteps inputLength rules newObjects newSteps wordSize hasSnapshot savedObjects savedSteps savedRules r_11 v1 r_16 hr_16) (cwV 1 hts gX12_reachable_X12_reachedFrom rfl rfl rfl (by decide +kernel) ⟨Nat.le_of_ble_eq_true rfl, Nat.le_of_ble_eq_true rfl⟩) hE hP hN rfl (by decide) 0 rfl rfl rfl hl.1 (Nat.le_of_ble_eq_true rfl) dX12_reachable_16 ⟨Nat.zero_le _, Nat.zero_le _⟩) hP hN hS rfl (fun H locs hP hS => ?_)
    have hf := Option.some.inj hf
    rewrite [← hQ, ← hf]
    exact x_iret hx hb hr hlocks hP hS dX12_reachable_19
  · have hf := it_neg (fun h => h c_5) hf
    refine lv_iconst (v := -1) hx hb dX12_reachable_8 (by decide) ?_
    have hf := Option.some.inj hf
    rewrite [← hQ, ← hf]
    exact x_iret hx hb hr hlocks hP hS dX12_reachable_9

set_option maxRecDepth 20000 in
theorem u_X12_removeGreater_X12 : ∀ w ∈ wsX120, w ∈ wsX12_removeGreater := xx_pl _ [14, 15, 16, 17, 18, 19, 20, 21, 22, 23, 24, 25, 26, 27, 28, 29, 30, 31, 32, 33, 34, 35, 36, 37, 38, 39, 40, 41, 42, 43, 44, 45, 46, 47, 48, 49, 50, 51, 52, 53, 54, 55, 56, 57, 58, 59, 60, 61, 62, 63, 64, 65] (by decide +kernel)
def f_X12_removeGreater_J32 (fu : Nat) (v1 : Int32) (v2 : Int32) (t0 : Int32) (above : (Nat → Nat → Int32)) (pairs : (Nat → Nat → Int32)) : Option (Int32 × (Nat → Nat → Int32) × (Nat → Nat → Int32)) :=
  lt t0 (fun v3_32 => ck v1 8 (ck v2 8 (lt (up2 pairs v1.toNatClampNeg v2.toNatClampNeg (vp_nar .boolean 0)) (fun pairs_41 => (f_X12_closeOrder fu above pairs_41).bind (fun r_43 => some (v3_32, r_43, pairs_41))))))
def f_X12_removeGreater (fu : Nat) (above : (Nat → Nat → Int32)) (pairs : (Nat → Nat → Int32)) (v1 : Int32) (v2 : Int32) : Option (Int32 × (Nat → Nat → Int32) × (Nat → Nat → Int32)) :=
  (f_X12_isLabel v1).bind (fun r_1 => if r_1 = 0 then (some ((-1), above, pairs)) else ((f_X12_isLabel v2).bind (fun r_8 => if ¬ r_8 = 0 then (ck v1 8 (ck v2 8 (if (pairs v1.toNatClampNeg v2.toNatClampNeg) = 0 then (f_X12_removeGreater_J32 fu v1 v2 0 above pairs) else (f_X12_removeGreater_J32 fu v1 v2 1 above pairs)))) else (some ((-1), above, pairs)))))
set_option maxHeartbeats 4000000 in
set_option maxRecDepth 100000 in
theorem k_X12_removeGreater (l : Launch) (D : va_G) (G : Nat → ClassId) (fu : Nat) (h : Nat) (a_pairs : Nat) (a_above : Nat) (a_sources : Nat) (a_targets : Nat) (a_labels : Nat) (a_lengths : Nat) (a_letters : Nat) (a_distances : Nat) (a_longest : Nat) (a_lengthsTo : Nat) (a_lengthsFrom : Nat) (a_path : Nat) (a_output : Nat) (a_found : Nat) (a_keptLabels : Nat) (a_keptPairs : Nat) (a_input : Nat) (a_sides : Nat) (a_sideLengths : Nat) (a_newLengths : Nat) (a_newLetters : Nat) (a_newSources : Nat) (a_newTargets : Nat) (a_newLabels : Nat) (a_word : Nat) (a_failed : Nat) (a_sizes : Nat) (a_arrays : Nat) (a_savedLengths : Nat) (a_savedSources : Nat) (a_savedTargets : Nat) (a_savedLabels : Nat) (a_savedSideLengths : Nat) (a_savedLetters : Nat) (a_savedSides : Nat) (a_savedPairs : Nat) (r_above : Nat → Nat) (r_pairs : Nat → Nat) (objects : Int32) (steps : Int32) (firstStep : Int32) (secondStep : Int32) (pathLength : Int32) (outputLength : Int32) (foundSteps : Int32) (inputLength : Int32) (rules : Int32) (newObjects : Int32) (newSteps : Int32) (wordSize : Int32) (hasSnapshot : Int32) (savedObjects : Int32) (savedSteps : Int32) (savedRules : Int32) (above : (Nat → Nat → Int32)) (pairs : (Nat → Nat → Int32))  (v1 : Int32) (v2 : Int32) (out : Int32 × (Nat → Nat → Int32) × (Nat → Nat → Int32)) (hf : f_X12_removeGreater fu above pairs v1 v2 = some out) : xMet l yX12_removeGreater wsX12_removeGreater (rM 2 42) D G [.ref h, .int v1, .int v2] [[(h, .inr (11, [.ref a_pairs, .ref a_above, .int objects, .int steps, .ref a_sources, .ref a_targets, .ref a_labels, .ref a_lengths, .ref a_letters, .ref a_distances, .ref a_longest, .int firstStep, .int secondStep, .ref a_lengthsTo, .ref a_lengthsFrom, .ref a_path, .int pathLength, .ref a_output, .int outputLength, .ref a_found, .int foundSteps, .ref a_keptLabels, .ref a_keptPairs, .ref a_input, .int inputLength, .int rules, .ref a_sides, .ref a_sideLengths, .int newObjects, .int newSteps, .ref a_newLengths, .ref a_newLetters, .ref a_newSources, .ref a_newTargets, .ref a_newLabels, .ref a_word, .int wordSize, .ref a_failed, .ref a_sizes, .ref a_arrays, .int hasSnapshot, .int savedObjects, .int savedSteps, .int savedRules, .ref a_savedLengths, .ref a_savedSources, .ref a_savedTargets, .ref a_savedLabels, .ref a_savedSideLengths, .ref a_savedLetters, .ref a_savedSides, .ref a_savedPairs]))], [gO (G 6) a_above r_above 8], gI (G 2) r_above 8 8 above, [gO (G 6) a_pairs r_pairs 8], gI (G 2) r_pairs 8 8 pairs] (xQi D [[(h, .inr (11, [.ref a_pairs, .ref a_above, .int objects, .int steps, .ref a_sources, .ref a_targets, .ref a_labels, .ref a_lengths, .ref a_letters, .ref a_distances, .ref a_longest, .int firstStep, .int secondStep, .ref a_lengthsTo, .ref a_lengthsFrom, .ref a_path, .int pathLength, .ref a_output, .int outputLength, .ref a_found, .int foundSteps, .ref a_keptLabels, .ref a_keptPairs, .ref a_input, .int inputLength, .int rules, .ref a_sides, .ref a_sideLengths, .int newObjects, .int newSteps, .ref a_newLengths, .ref a_newLetters, .ref a_newSources, .ref a_newTargets, .ref a_newLabels, .ref a_word, .int wordSize, .ref a_failed, .ref a_sizes, .ref a_arrays, .int hasSnapshot, .int savedObjects, .int savedSteps, .int savedRules, .ref a_savedLengths, .ref a_savedSources, .ref a_savedTargets, .ref a_savedLabels, .ref a_savedSideLengths, .ref a_savedLetters, .ref a_savedSides, .ref a_savedPairs]))], [gO (G 6) a_above r_above 8], gI (G 2) r_above 8 8 out.2.1, [gO (G 6) a_pairs r_pairs 8], gI (G 2) r_pairs 8 8 out.2.2] out.1) := by
  refine x_ent (cc := cX12_removeGreater) (maxL := 4) (by decide) rfl (Nat.le_of_ble_eq_true rfl) ?_
  intro p e s m blw meth c aa ls args Q H locs hQ hx hb hr hml hown hts hlocks hE hN hl hP hS
  have hown : s.vm.findClass RX12 = some m.cls := hown
  have hl : lv_has ls 4 [(0, .ref h), (1, .int v1), (2, .int v2)] := hl
  have J32 : ∀ (t0 : Int32) (above : (Nat → Nat → Int32)) (pairs : (Nat → Nat → Int32)) (H : Heap) (locs : List Loc) (ls : Array Slot), xW D aa [[(h, .inr (11, [.ref a_pairs, .ref a_above, .int objects, .int steps, .ref a_sources, .ref a_targets, .ref a_labels, .ref a_lengths, .ref a_letters, .ref a_distances, .ref a_longest, .int firstStep, .int secondStep, .ref a_lengthsTo, .ref a_lengthsFrom, .ref a_path, .int pathLength, .ref a_output, .int outputLength, .ref a_found, .int foundSteps, .ref a_keptLabels, .ref a_keptPairs, .ref a_input, .int inputLength, .int rules, .ref a_sides, .ref a_sideLengths, .int newObjects, .int newSteps, .ref a_newLengths, .ref a_newLetters, .ref a_newSources, .ref a_newTargets, .ref a_newLabels, .ref a_word, .int wordSize, .ref a_failed, .ref a_sizes, .ref a_arrays, .int hasSnapshot, .int savedObjects, .int savedSteps, .int savedRules, .ref a_savedLengths, .ref a_savedSources, .ref a_savedTargets, .ref a_savedLabels, .ref a_savedSideLengths, .ref a_savedLetters, .ref a_savedSides, .ref a_savedPairs]))], [gO (G 6) a_above r_above 8], gI (G 2) r_above 8 8 above, [gO (G 6) a_pairs r_pairs 8], gI (G 2) r_pairs 8 8 pairs] H → va_S (xA aa) s.heap H locs → lv_has ls 4 [(0, .ref h), (1, .int v1), (2, .int v2)] → f_X12_removeGreater_J32 fu v1 v2 t0 above pairs = some out → W p l e (rM 2 42) s m args blw meth c H locs 0 0 Q (F0 m 32 ls [.int t0]) := by
    intro t0 above pairs  H locs ls  hP hS hl hf
    obtain ⟨v3_32, e_v3_32, hf⟩ := lt_some hf
    refine x_istore_n (v := v3_32) (lv' := [(3, .int v3_32), (0, .ref h), (1, .int v1), (2, .int v2)]) hx hb dX12_removeGreater_32 e_v3_32 rfl hl (by decide) rfl (fun ls hl => ?_)
    refine lv_aload_n hx hb dX12_removeGreater_33 rfl (lv_at hl 1 rfl) ?_
    refine x_get hx hb hts u_X12_removeGreater_X12 hown hE hP 0 rfl rfl 0 (by decide) (hts (.fieldLink RX12 11 "DecreasingDiagramsModel" "pairs" "[[Z") (List.mem_of_getElem? (i := 1) rfl)) rfl dX12_removeGreater_34 ?_
    refine lv_iload_n hx hb dX12_removeGreater_37 rfl (lv_at hl 2 rfl) ?_
    obtain ⟨hq_38, hf⟩ := ck_some hf
    refine x_aald hx hb hE hP 3 6 rfl rfl hq_38 dX12_removeGreater_38 ?_
    refine lv_iload_n hx hb dX12_removeGreater_39 rfl (lv_at hl 3 rfl) ?_
    refine lv_iconst (v := 0) hx hb dX12_removeGreater_40 (by decide) ?_
    obtain ⟨hi, hf⟩ := ck_some hf
    obtain ⟨pairs_41, e_pairs_41, hf⟩ := lt_some hf
    refine x_zast2 (I' := [[(h, .inr (11, [.ref a_pairs, .ref a_above, .int objects, .int steps, .ref a_sources, .ref a_targets, .ref a_labels, .ref a_lengths, .ref a_letters, .ref a_distances, .ref a_longest, .int firstStep, .int secondStep, .ref a_lengthsTo, .ref a_lengthsFrom, .ref a_path, .int pathLength, .ref a_output, .int outputLength, .ref a_found, .int foundSteps, .ref a_keptLabels, .ref a_keptPairs, .ref a_input, .int inputLength, .int rules, .ref a_sides, .ref a_sideLengths, .int newObjects, .int newSteps, .ref a_newLengths, .ref a_newLetters, .ref a_newSources, .ref a_newTargets, .ref a_newLabels, .ref a_word, .int wordSize, .ref a_failed, .ref a_sizes, .ref a_arrays, .int hasSnapshot, .int savedObjects, .int savedSteps, .int savedRules, .ref a_savedLengths, .ref a_savedSources, .ref a_savedTargets, .ref a_savedLabels, .ref a_savedSideLengths, .ref a_savedLetters, .ref a_savedSides, .ref a_savedPairs]))], [gO (G 6) a_above r_above 8], gI (G 2) r_above 8 8 above, [gO (G 6) a_pairs r_pairs 8], gI (G 2) r_pairs 8 8 pairs_41]) hx hb hE hP hN hS 4 rfl hq_38 hi e_pairs_41 rfl dX12_removeGreater_41 (fun H locs hP hS => ?_)
    refine lv_aload_n hx hb dX12_removeGreater_42 rfl (lv_at hl 1 rfl) ?_
    obtain ⟨r_43, hr_43, hf⟩ := bd_some hf
    refine x_gov (ps := [0, 1, 2, 3, 4]) (qs := []) (n := 5) (I' := [[(h, .inr (11, [.ref a_pairs, .ref a_above, .int objects, .int steps, .ref a_sources, .ref a_targets, .ref a_labels, .ref a_lengths, .ref a_letters, .ref a_distances, .ref a_longest, .int firstStep, .int secondStep, .ref a_lengthsTo, .ref a_lengthsFrom, .ref a_path, .int pathLength, .ref a_output, .int outputLength, .ref a_found, .int foundSteps, .ref a_keptLabels, .ref a_keptPairs, .ref a_input, .int inputLength, .int rules, .ref a_sides, .ref a_sideLengths, .int newObjects, .int newSteps, .ref a_newLengths, .ref a_newLetters, .ref a_newSources, .ref a_newTargets, .ref a_newLabels, .ref a_word, .int wordSize, .ref a_failed, .ref a_sizes, .ref a_arrays, .int hasSnapshot, .int savedObjects, .int savedSteps, .int savedRules, .ref a_savedLengths, .ref a_savedSources, .ref a_savedTargets, .ref a_savedLabels, .ref a_savedSideLengths, .ref a_savedLetters, .ref a_savedSides, .ref a_savedPairs]))], [gO (G 6) a_above r_above 8], gI (G 2) r_above 8 8 r_43, [gO (G 6) a_pairs r_pairs 8], gI (G 2) r_pairs 8 8 pairs_41]) (x_runV (As := []) (rest := []) (ps := [0, 1, 2, 3, 4]) ⟨hx, hb, hml, hown, hts⟩ (k_X12_closeOrder l D G fu h a_pairs a_above a_sources a_targets a_labels a_lengths a_letters a_distances a_longest a_lengthsTo a_lengthsFrom a_path a_output a_found a_keptLabels a_keptPairs a_input a_sides a_sideLengths a_newLengths a_newLetters a_newSources a_newTargets a_newLabels a_word a_failed a_sizes a_arrays a_savedLengths a_savedSources a_savedTargets a_savedLabels a_savedSideLengths a_savedLetters a_savedSides a_savedPairs r_above r_pairs objects steps firstStep secondStep pathLength outputLength foundSteps inputLength rules newObjects newSteps wordSize hasSnapshot savedObjects savedSteps savedRules above pairs_41 r_43 hr_43) (cwV 0 hts gX12_removeGreater_X12_closeOrder rfl rfl rfl (by decide +kernel) ⟨Nat.le_of_ble_eq_true rfl, Nat.le_of_ble_eq_true rfl⟩) hE hP hN rfl (by decide) 0 rfl rfl rfl hl.1 (Nat.le_of_ble_eq_true rfl) dX12_removeGreater_43 ⟨Nat.zero_le _, Nat.zero_le _⟩) hP hN hS rfl rfl rfl rfl rfl (by decide) (fun H locs hP hS => ?_)
    refine lv_iload_n hx hb dX12_removeGreater_46 rfl (lv_at hl 0 rfl) ?_
    have hf := Option.some.inj hf
    rewrite [← hQ, ← hf]
    exact x_iret hx hb hr hlocks hP hS dX12_removeGreater_47
  refine lv_iload_n hx hb dX12_removeGreater_0 rfl (lv_at hl 1 rfl) ?_
  obtain ⟨r_1, hr_1, hf⟩ := bd_some hf
  refine x_goi0 (ps := []) (x_runS (As := [.int v1]) (rest := []) (ps := []) ⟨hx, hb, hml, hown, hts⟩ (k_X12_isLabel l D G fu v1 r_1 hr_1) (va_cwS 1 hts gX12_removeGreater_X12_isLabel rfl rfl rfl (by decide +kernel) ⟨Nat.le_of_ble_eq_true rfl, Nat.le_of_ble_eq_true rfl⟩) hE hP hN rfl (by decide) rfl hl.1 (Nat.le_of_ble_eq_true rfl) dX12_removeGreater_1 ⟨Nat.zero_le _, Nat.zero_le _⟩) hP hN hS rfl (fun H locs hP hS => ?_)
  refine lv_if_eq (tgt := 14) hx hb dX12_removeGreater_4 (by decide) (fun c_4 => ?_) (fun c_4 => ?_)
  · have hf := it_pos c_4 hf
    refine lv_iconst (v := -1) hx hb dX12_removeGreater_14 (by decide) ?_
    have hf := Option.some.inj hf
    rewrite [← hQ, ← hf]
    exact x_iret hx hb hr hlocks hP hS dX12_removeGreater_15
  · have hf := it_neg c_4 hf
    refine lv_iload_n hx hb dX12_removeGreater_7 rfl (lv_at hl 2 rfl) ?_
    obtain ⟨r_8, hr_8, hf⟩ := bd_some hf
    refine x_goi0 (ps := []) (x_runS (As := [.int v2]) (rest := []) (ps := []) ⟨hx, hb, hml, hown, hts⟩ (k_X12_isLabel l D G fu v2 r_8 hr_8) (va_cwS 1 hts gX12_removeGreater_X12_isLabel rfl rfl rfl (by decide +kernel) ⟨Nat.le_of_ble_eq_true rfl, Nat.le_of_ble_eq_true rfl⟩) hE hP hN rfl (by decide) rfl hl.1 (Nat.le_of_ble_eq_true rfl) dX12_removeGreater_8 ⟨Nat.zero_le _, Nat.zero_le _⟩) hP hN hS rfl (fun H locs hP hS => ?_)
    refine lv_if_ne (tgt := 16) hx hb dX12_removeGreater_11 (by decide) (fun c_11 => ?_) (fun c_11 => ?_)
    · have hf := it_pos c_11 hf
      refine lv_aload_n hx hb dX12_removeGreater_16 rfl (lv_at hl 0 rfl) ?_
      refine x_get hx hb hts u_X12_removeGreater_X12 hown hE hP 0 rfl rfl 0 (by decide) (hts (.fieldLink RX12 11 "DecreasingDiagramsModel" "pairs" "[[Z") (List.mem_of_getElem? (i := 1) rfl)) rfl dX12_removeGreater_17 ?_
      refine lv_iload_n hx hb dX12_removeGreater_20 rfl (lv_at hl 1 rfl) ?_
      obtain ⟨hq_21, hf⟩ := ck_some hf
      refine x_aald hx hb hE hP 3 6 rfl rfl hq_21 dX12_removeGreater_21 ?_
      refine lv_iload_n hx hb dX12_removeGreater_22 rfl (lv_at hl 2 rfl) ?_
      obtain ⟨hi, hf⟩ := ck_some hf
      refine x_zald2 hx hb hE hP 4 rfl hq_21 hi dX12_removeGreater_23 ?_
      refine lv_if_eq (tgt := 31) hx hb dX12_removeGreater_24 (by decide) (fun c_24 => ?_) (fun c_24 => ?_)
      · have hf := it_pos c_24 hf
        refine lv_iconst (v := 0) hx hb dX12_removeGreater_31 (by decide) ?_
        exact J32 0 above pairs  H locs ls  hP hS (lv_sub hl [0, 1, 2] rfl) hf
      · have hf := it_neg c_24 hf
        refine lv_iconst (v := 1) hx hb dX12_removeGreater_27 (by decide) ?_
        refine lv_goto (tgt := 32) hx hb dX12_removeGreater_28 (by decide) ?_
        exact J32 1 above pairs  H locs ls  hP hS (lv_sub hl [0, 1, 2] rfl) hf
    · have hf := it_neg (fun h => h c_11) hf
      refine lv_iconst (v := -1) hx hb dX12_removeGreater_14 (by decide) ?_
      have hf := Option.some.inj hf
      rewrite [← hQ, ← hf]
      exact x_iret hx hb hr hlocks hP hS dX12_removeGreater_15

set_option maxRecDepth 20000 in
theorem u_X12_removeStep_X12 : ∀ w ∈ wsX120, w ∈ wsX12_removeStep := xx_pl _ [13, 14, 15, 16, 17, 18, 19, 20, 21, 22, 23, 24, 25, 26, 27, 28, 29, 30, 31, 32, 33, 34, 35, 36, 37, 38, 39, 40, 41, 42, 43, 44, 45, 46, 47, 48, 49, 50, 51, 52, 53, 54, 55, 56, 57, 58, 59, 60, 61, 62, 63, 64] (by decide +kernel)
def f_X12_removeStep_L22 (steps : Int32) (rec_22 : Int32 → (Nat → Int32) → (Nat → Int32) → (Nat → Int32) → Option (Int32 × (Nat → Int32) × (Nat → Int32) × Int32 × (Nat → Int32))) (v2 : Int32) (labels : (Nat → Int32)) (sources : (Nat → Int32)) (targets : (Nat → Int32)) : Option (Int32 × (Nat → Int32) × (Nat → Int32) × Int32 × (Nat → Int32)) :=
  if steps ≤ v2 then (some (steps, labels, sources, steps, targets)) else (ck (v2 + 1) 32 (ck v2 32 (lt (upd sources v2.toNatClampNeg (sources (v2 + 1).toNatClampNeg)) (fun sources_43 => ck (v2 + 1) 32 (ck v2 32 (lt (upd targets v2.toNatClampNeg (targets (v2 + 1).toNatClampNeg)) (fun targets_57 => ck (v2 + 1) 32 (ck v2 32 (lt (upd labels v2.toNatClampNeg (labels (v2 + 1).toNatClampNeg)) (fun labels_71 => lt (v2 + 1) (fun v2_72 => rec_22 v2_72 labels_71 sources_43 targets_57)))))))))))
def f_X12_removeStep (fu : Nat) (steps : Int32) (labels : (Nat → Int32)) (sources : (Nat → Int32)) (targets : (Nat → Int32)) (v1 : Int32) : Option (Int32 × (Nat → Int32) × (Nat → Int32) × Int32 × (Nat → Int32)) :=
  (f_X12_isStep steps v1).bind (fun r_2 => if ¬ r_2 = 0 then (lt (steps - 1) (fun steps_17 => lt v1 (fun v2_21 => lp (τ := Int32 → (Nat → Int32) → (Nat → Int32) → (Nat → Int32) → Option (Int32 × (Nat → Int32) × (Nat → Int32) × Int32 × (Nat → Int32))) (fun _ _ _ _ => none) (f_X12_removeStep_L22 steps_17) fu v2_21 labels sources targets))) else (some ((-1), labels, sources, steps, targets)))
set_option maxHeartbeats 4000000 in
set_option maxRecDepth 100000 in
theorem k_X12_removeStep (l : Launch) (D : va_G) (G : Nat → ClassId) (fu : Nat) (h : Nat) (a_pairs : Nat) (a_above : Nat) (a_sources : Nat) (a_targets : Nat) (a_labels : Nat) (a_lengths : Nat) (a_letters : Nat) (a_distances : Nat) (a_longest : Nat) (a_lengthsTo : Nat) (a_lengthsFrom : Nat) (a_path : Nat) (a_output : Nat) (a_found : Nat) (a_keptLabels : Nat) (a_keptPairs : Nat) (a_input : Nat) (a_sides : Nat) (a_sideLengths : Nat) (a_newLengths : Nat) (a_newLetters : Nat) (a_newSources : Nat) (a_newTargets : Nat) (a_newLabels : Nat) (a_word : Nat) (a_failed : Nat) (a_sizes : Nat) (a_arrays : Nat) (a_savedLengths : Nat) (a_savedSources : Nat) (a_savedTargets : Nat) (a_savedLabels : Nat) (a_savedSideLengths : Nat) (a_savedLetters : Nat) (a_savedSides : Nat) (a_savedPairs : Nat) (objects : Int32) (steps : Int32) (firstStep : Int32) (secondStep : Int32) (pathLength : Int32) (outputLength : Int32) (foundSteps : Int32) (inputLength : Int32) (rules : Int32) (newObjects : Int32) (newSteps : Int32) (wordSize : Int32) (hasSnapshot : Int32) (savedObjects : Int32) (savedSteps : Int32) (savedRules : Int32) (labels : (Nat → Int32)) (sources : (Nat → Int32)) (targets : (Nat → Int32))  (v1 : Int32) (out : Int32 × (Nat → Int32) × (Nat → Int32) × Int32 × (Nat → Int32)) (hf : f_X12_removeStep fu steps labels sources targets v1 = some out) : xMet l yX12_removeStep wsX12_removeStep (rM 2 43) D G [.ref h, .int v1] [[(h, .inr (11, [.ref a_pairs, .ref a_above, .int objects, .int steps, .ref a_sources, .ref a_targets, .ref a_labels, .ref a_lengths, .ref a_letters, .ref a_distances, .ref a_longest, .int firstStep, .int secondStep, .ref a_lengthsTo, .ref a_lengthsFrom, .ref a_path, .int pathLength, .ref a_output, .int outputLength, .ref a_found, .int foundSteps, .ref a_keptLabels, .ref a_keptPairs, .ref a_input, .int inputLength, .int rules, .ref a_sides, .ref a_sideLengths, .int newObjects, .int newSteps, .ref a_newLengths, .ref a_newLetters, .ref a_newSources, .ref a_newTargets, .ref a_newLabels, .ref a_word, .int wordSize, .ref a_failed, .ref a_sizes, .ref a_arrays, .int hasSnapshot, .int savedObjects, .int savedSteps, .int savedRules, .ref a_savedLengths, .ref a_savedSources, .ref a_savedTargets, .ref a_savedLabels, .ref a_savedSideLengths, .ref a_savedLetters, .ref a_savedSides, .ref a_savedPairs]))], [(a_labels, .inl (G 0, 32, .inl labels))], [(a_sources, .inl (G 0, 32, .inl sources))], [(a_targets, .inl (G 0, 32, .inl targets))]] (xQi D [[(h, .inr (11, [.ref a_pairs, .ref a_above, .int objects, .int out.2.2.2.1, .ref a_sources, .ref a_targets, .ref a_labels, .ref a_lengths, .ref a_letters, .ref a_distances, .ref a_longest, .int firstStep, .int secondStep, .ref a_lengthsTo, .ref a_lengthsFrom, .ref a_path, .int pathLength, .ref a_output, .int outputLength, .ref a_found, .int foundSteps, .ref a_keptLabels, .ref a_keptPairs, .ref a_input, .int inputLength, .int rules, .ref a_sides, .ref a_sideLengths, .int newObjects, .int newSteps, .ref a_newLengths, .ref a_newLetters, .ref a_newSources, .ref a_newTargets, .ref a_newLabels, .ref a_word, .int wordSize, .ref a_failed, .ref a_sizes, .ref a_arrays, .int hasSnapshot, .int savedObjects, .int savedSteps, .int savedRules, .ref a_savedLengths, .ref a_savedSources, .ref a_savedTargets, .ref a_savedLabels, .ref a_savedSideLengths, .ref a_savedLetters, .ref a_savedSides, .ref a_savedPairs]))], [(a_labels, .inl (G 0, 32, .inl out.2.1))], [(a_sources, .inl (G 0, 32, .inl out.2.2.1))], [(a_targets, .inl (G 0, 32, .inl out.2.2.2.2))]] out.1) := by
  refine x_ent (cc := cX12_removeStep) (maxL := 3) (by decide) rfl (Nat.le_of_ble_eq_true rfl) ?_
  intro p e s m blw meth c aa ls args Q H locs hQ hx hb hr hml hown hts hlocks hE hN hl hP hS
  have hown : s.vm.findClass RX12 = some m.cls := hown
  have hl : lv_has ls 3 [(0, .ref h), (1, .int v1)] := hl
  have L22 : ∀ (steps : Int32), ∀ (n_22 : Nat) (v2 : Int32) (labels : (Nat → Int32)) (sources : (Nat → Int32)) (targets : (Nat → Int32)) (H : Heap) (locs : List Loc) (ls : Array Slot), xW D aa [[(h, .inr (11, [.ref a_pairs, .ref a_above, .int objects, .int steps, .ref a_sources, .ref a_targets, .ref a_labels, .ref a_lengths, .ref a_letters, .ref a_distances, .ref a_longest, .int firstStep, .int secondStep, .ref a_lengthsTo, .ref a_lengthsFrom, .ref a_path, .int pathLength, .ref a_output, .int outputLength, .ref a_found, .int foundSteps, .ref a_keptLabels, .ref a_keptPairs, .ref a_input, .int inputLength, .int rules, .ref a_sides, .ref a_sideLengths, .int newObjects, .int newSteps, .ref a_newLengths, .ref a_newLetters, .ref a_newSources, .ref a_newTargets, .ref a_newLabels, .ref a_word, .int wordSize, .ref a_failed, .ref a_sizes, .ref a_arrays, .int hasSnapshot, .int savedObjects, .int savedSteps, .int savedRules, .ref a_savedLengths, .ref a_savedSources, .ref a_savedTargets, .ref a_savedLabels, .ref a_savedSideLengths, .ref a_savedLetters, .ref a_savedSides, .ref a_savedPairs]))], [(a_labels, .inl (G 0, 32, .inl labels))], [(a_sources, .inl (G 0, 32, .inl sources))], [(a_targets, .inl (G 0, 32, .inl targets))]] H → va_S (xA aa) s.heap H locs → lv_has ls 3 [(0, .ref h), (2, .int v2)] → lp (τ := Int32 → (Nat → Int32) → (Nat → Int32) → (Nat → Int32) → Option (Int32 × (Nat → Int32) × (Nat → Int32) × Int32 × (Nat → Int32))) (fun _ _ _ _ => none) (f_X12_removeStep_L22 steps) n_22 v2 labels sources targets = some out → W p l e (rM 2 43) s m args blw meth c H locs 0 0 Q (F0 m 22 ls []) := by
    intro steps   n_22
    induction n_22 with
    | zero =>
      intro v2 labels sources targets H locs ls hP hS hl hf
      exact no_some hf
    | succ n_22 ih_22 =>
      intro v2 labels sources targets H locs ls hP hS hl hf
      have hf : f_X12_removeStep_L22 steps (lp (τ := Int32 → (Nat → Int32) → (Nat → Int32) → (Nat → Int32) → Option (Int32 × (Nat → Int32) × (Nat → Int32) × Int32 × (Nat → Int32))) (fun _ _ _ _ => none) (f_X12_removeStep_L22 steps) n_22) v2 labels sources targets = some out := hf
      refine lv_iload_n hx hb dX12_removeStep_22 rfl (lv_at hl 1 rfl) ?_
      refine lv_aload_n hx hb dX12_removeStep_23 rfl (lv_at hl 0 rfl) ?_
      refine x_get hx hb hts u_X12_removeStep_X12 hown hE hP 0 rfl rfl 3 (by decide) (hts (.fieldLink RX12 135 "DecreasingDiagramsModel" "steps" "I") (List.mem_of_getElem? (i := 1) rfl)) rfl dX12_removeStep_24 ?_
      refine lv_icmp_ge (tgt := 78) hx hb dX12_removeStep_27 (by decide) (fun c_27 => ?_) (fun c_27 => ?_)
      · have hf := it_pos c_27 hf
        refine lv_aload_n hx hb dX12_removeStep_78 rfl (lv_at hl 0 rfl) ?_
        refine x_get hx hb hts u_X12_removeStep_X12 hown hE hP 0 rfl rfl 3 (by decide) (hts (.fieldLink RX12 135 "DecreasingDiagramsModel" "steps" "I") (List.mem_of_getElem? (i := 1) rfl)) rfl dX12_removeStep_79 ?_
        have hf := Option.some.inj hf
        rewrite [← hQ, ← hf]
        exact x_iret hx hb hr hlocks hP hS dX12_removeStep_82
      · have hf := it_neg c_27 hf
        refine lv_aload_n hx hb dX12_removeStep_30 rfl (lv_at hl 0 rfl) ?_
        refine x_get hx hb hts u_X12_removeStep_X12 hown hE hP 0 rfl rfl 4 (by decide) (hts (.fieldLink RX12 17 "DecreasingDiagramsModel" "sources" "[I") (List.mem_of_getElem? (i := 2) rfl)) rfl dX12_removeStep_31 ?_
        refine lv_iload_n hx hb dX12_removeStep_34 rfl (lv_at hl 1 rfl) ?_
        refine lv_aload_n hx hb dX12_removeStep_35 rfl (lv_at hl 0 rfl) ?_
        refine x_get hx hb hts u_X12_removeStep_X12 hown hE hP 0 rfl rfl 4 (by decide) (hts (.fieldLink RX12 17 "DecreasingDiagramsModel" "sources" "[I") (List.mem_of_getElem? (i := 2) rfl)) rfl dX12_removeStep_36 ?_
        refine lv_iload_n hx hb dX12_removeStep_39 rfl (lv_at hl 1 rfl) ?_
        refine lv_iconst (v := 1) hx hb dX12_removeStep_40 (by decide) ?_
        refine lv_iadd hx hb dX12_removeStep_41 ?_
        obtain ⟨hi, hf⟩ := ck_some hf
        refine x_iald hx hb hE hP 2 rfl hi dX12_removeStep_42 ?_
        obtain ⟨hi, hf⟩ := ck_some hf
        obtain ⟨sources_43, e_sources_43, hf⟩ := lt_some hf
        refine x_iast (I' := [[(h, .inr (11, [.ref a_pairs, .ref a_above, .int objects, .int steps, .ref a_sources, .ref a_targets, .ref a_labels, .ref a_lengths, .ref a_letters, .ref a_distances, .ref a_longest, .int firstStep, .int secondStep, .ref a_lengthsTo, .ref a_lengthsFrom, .ref a_path, .int pathLength, .ref a_output, .int outputLength, .ref a_found, .int foundSteps, .ref a_keptLabels, .ref a_keptPairs, .ref a_input, .int inputLength, .int rules, .ref a_sides, .ref a_sideLengths, .int newObjects, .int newSteps, .ref a_newLengths, .ref a_newLetters, .ref a_newSources, .ref a_newTargets, .ref a_newLabels, .ref a_word, .int wordSize, .ref a_failed, .ref a_sizes, .ref a_arrays, .int hasSnapshot, .int savedObjects, .int savedSteps, .int savedRules, .ref a_savedLengths, .ref a_savedSources, .ref a_savedTargets, .ref a_savedLabels, .ref a_savedSideLengths, .ref a_savedLetters, .ref a_savedSides, .ref a_savedPairs]))], [(a_labels, .inl (G 0, 32, .inl labels))], [(a_sources, .inl (G 0, 32, .inl sources_43))], [(a_targets, .inl (G 0, 32, .inl targets))]]) hx hb hE hP hN hS 2 rfl hi e_sources_43 rfl dX12_removeStep_43 (fun H locs hP hS => ?_)
        refine lv_aload_n hx hb dX12_removeStep_44 rfl (lv_at hl 0 rfl) ?_
        refine x_get hx hb hts u_X12_removeStep_X12 hown hE hP 0 rfl rfl 5 (by decide) (hts (.fieldLink RX12 21 "DecreasingDiagramsModel" "targets" "[I") (List.mem_of_getElem? (i := 3) rfl)) rfl dX12_removeStep_45 ?_
        refine lv_iload_n hx hb dX12_removeStep_48 rfl (lv_at hl 1 rfl) ?_
        refine lv_aload_n hx hb dX12_removeStep_49 rfl (lv_at hl 0 rfl) ?_
        refine x_get hx hb hts u_X12_removeStep_X12 hown hE hP 0 rfl rfl 5 (by decide) (hts (.fieldLink RX12 21 "DecreasingDiagramsModel" "targets" "[I") (List.mem_of_getElem? (i := 3) rfl)) rfl dX12_removeStep_50 ?_
        refine lv_iload_n hx hb dX12_removeStep_53 rfl (lv_at hl 1 rfl) ?_
        refine lv_iconst (v := 1) hx hb dX12_removeStep_54 (by decide) ?_
        refine lv_iadd hx hb dX12_removeStep_55 ?_
        obtain ⟨hi, hf⟩ := ck_some hf
        refine x_iald hx hb hE hP 3 rfl hi dX12_removeStep_56 ?_
        obtain ⟨hi, hf⟩ := ck_some hf
        obtain ⟨targets_57, e_targets_57, hf⟩ := lt_some hf
        refine x_iast (I' := [[(h, .inr (11, [.ref a_pairs, .ref a_above, .int objects, .int steps, .ref a_sources, .ref a_targets, .ref a_labels, .ref a_lengths, .ref a_letters, .ref a_distances, .ref a_longest, .int firstStep, .int secondStep, .ref a_lengthsTo, .ref a_lengthsFrom, .ref a_path, .int pathLength, .ref a_output, .int outputLength, .ref a_found, .int foundSteps, .ref a_keptLabels, .ref a_keptPairs, .ref a_input, .int inputLength, .int rules, .ref a_sides, .ref a_sideLengths, .int newObjects, .int newSteps, .ref a_newLengths, .ref a_newLetters, .ref a_newSources, .ref a_newTargets, .ref a_newLabels, .ref a_word, .int wordSize, .ref a_failed, .ref a_sizes, .ref a_arrays, .int hasSnapshot, .int savedObjects, .int savedSteps, .int savedRules, .ref a_savedLengths, .ref a_savedSources, .ref a_savedTargets, .ref a_savedLabels, .ref a_savedSideLengths, .ref a_savedLetters, .ref a_savedSides, .ref a_savedPairs]))], [(a_labels, .inl (G 0, 32, .inl labels))], [(a_sources, .inl (G 0, 32, .inl sources_43))], [(a_targets, .inl (G 0, 32, .inl targets_57))]]) hx hb hE hP hN hS 3 rfl hi e_targets_57 rfl dX12_removeStep_57 (fun H locs hP hS => ?_)
        refine lv_aload_n hx hb dX12_removeStep_58 rfl (lv_at hl 0 rfl) ?_
        refine x_get hx hb hts u_X12_removeStep_X12 hown hE hP 0 rfl rfl 6 (by decide) (hts (.fieldLink RX12 24 "DecreasingDiagramsModel" "labels" "[I") (List.mem_of_getElem? (i := 4) rfl)) rfl dX12_removeStep_59 ?_
        refine lv_iload_n hx hb dX12_removeStep_62 rfl (lv_at hl 1 rfl) ?_
        refine lv_aload_n hx hb dX12_removeStep_63 rfl (lv_at hl 0 rfl) ?_
        refine x_get hx hb hts u_X12_removeStep_X12 hown hE hP 0 rfl rfl 6 (by decide) (hts (.fieldLink RX12 24 "DecreasingDiagramsModel" "labels" "[I") (List.mem_of_getElem? (i := 4) rfl)) rfl dX12_removeStep_64 ?_
        refine lv_iload_n hx hb dX12_removeStep_67 rfl (lv_at hl 1 rfl) ?_
        refine lv_iconst (v := 1) hx hb dX12_removeStep_68 (by decide) ?_
        refine lv_iadd hx hb dX12_removeStep_69 ?_
        obtain ⟨hi, hf⟩ := ck_some hf
        refine x_iald hx hb hE hP 1 rfl hi dX12_removeStep_70 ?_
        obtain ⟨hi, hf⟩ := ck_some hf
        obtain ⟨labels_71, e_labels_71, hf⟩ := lt_some hf
        refine x_iast (I' := [[(h, .inr (11, [.ref a_pairs, .ref a_above, .int objects, .int steps, .ref a_sources, .ref a_targets, .ref a_labels, .ref a_lengths, .ref a_letters, .ref a_distances, .ref a_longest, .int firstStep, .int secondStep, .ref a_lengthsTo, .ref a_lengthsFrom, .ref a_path, .int pathLength, .ref a_output, .int outputLength, .ref a_found, .int foundSteps, .ref a_keptLabels, .ref a_keptPairs, .ref a_input, .int inputLength, .int rules, .ref a_sides, .ref a_sideLengths, .int newObjects, .int newSteps, .ref a_newLengths, .ref a_newLetters, .ref a_newSources, .ref a_newTargets, .ref a_newLabels, .ref a_word, .int wordSize, .ref a_failed, .ref a_sizes, .ref a_arrays, .int hasSnapshot, .int savedObjects, .int savedSteps, .int savedRules, .ref a_savedLengths, .ref a_savedSources, .ref a_savedTargets, .ref a_savedLabels, .ref a_savedSideLengths, .ref a_savedLetters, .ref a_savedSides, .ref a_savedPairs]))], [(a_labels, .inl (G 0, 32, .inl labels_71))], [(a_sources, .inl (G 0, 32, .inl sources_43))], [(a_targets, .inl (G 0, 32, .inl targets_57))]]) hx hb hE hP hN hS 1 rfl hi e_labels_71 rfl dX12_removeStep_71 (fun H locs hP hS => ?_)
        obtain ⟨v2_72, e_v2_72, hf⟩ := lt_some hf
        refine lv_iinc (v := v2_72) (lv' := [(2, .int v2_72), (0, .ref h)]) hx hb dX12_removeStep_72 hl (k := 1) rfl (by rw [e_v2_72]; rfl) (by decide) rfl (fun ls hl => ?_)
        refine lv_goto (tgt := 22) hx hb dX12_removeStep_75 (by decide) ?_
        exact ih_22 v2_72 labels_71 sources_43 targets_57 H locs ls hP hS (lv_sub hl [1, 0] rfl) hf
  refine lv_aload_n hx hb dX12_removeStep_0 rfl (lv_at hl 0 rfl) ?_
  refine lv_iload_n hx hb dX12_removeStep_1 rfl (lv_at hl 1 rfl) ?_
  obtain ⟨r_2, hr_2, hf⟩ := bd_some hf
  refine x_goi0 (ps := [0]) (x_runV (As := [.int v1]) (rest := []) (ps := [0]) ⟨hx, hb, hml, hown, hts⟩ (k_X12_isStep l D G fu h a_pairs a_above a_sources a_targets a_labels a_lengths a_letters a_distances a_longest a_lengthsTo a_lengthsFrom a_path a_output a_found a_keptLabels a_keptPairs a_input a_sides a_sideLengths a_newLengths a_newLetters a_newSources a_newTargets a_newLabels a_word a_failed a_sizes a_arrays a_savedLengths a_savedSources a_savedTargets a_savedLabels a_savedSideLengths a_savedLetters a_savedSides a_savedPairs objects steps firstStep secondStep pathLength outputLength foundSteps inputLength rules newObjects newSteps wordSize hasSnapshot savedObjects savedSteps savedRules v1 r_2 hr_2) (cwV 1 hts gX12_removeStep_X12_isStep rfl rfl rfl (by decide +kernel) ⟨Nat.le_of_ble_eq_true rfl, Nat.le_of_ble_eq_true rfl⟩) hE hP hN rfl (by decide) 0 rfl rfl rfl hl.1 (Nat.le_of_ble_eq_true rfl) dX12_removeStep_2 ⟨Nat.zero_le _, Nat.zero_le _⟩) hP hN hS rfl (fun H locs hP hS => ?_)
  refine lv_if_ne (tgt := 10) hx hb dX12_removeStep_5 (by decide) (fun c_5 => ?_) (fun c_5 => ?_)
  · have hf := it_pos c_5 hf
    refine lv_aload_n hx hb dX12_removeStep_10 rfl (lv_at hl 0 rfl) ?_
    refine lv_dup hx hb dX12_removeStep_11 rfl ?_
    refine x_get hx hb hts u_X12_removeStep_X12 hown hE hP 0 rfl rfl 3 (by decide) (hts (.fieldLink RX12 135 "DecreasingDiagramsModel" "steps" "I") (List.mem_of_getElem? (i := 1) rfl)) rfl dX12_removeStep_12 ?_
    refine lv_iconst (v := 1) hx hb dX12_removeStep_15 (by decide) ?_
    refine lv_isub hx hb dX12_removeStep_16 ?_
    obtain ⟨steps_17, e_steps_17, hf⟩ := lt_some hf
    refine x_put (w := .int steps_17) (ty := .int) (I' := [[(h, .inr (11, [.ref a_pairs, .ref a_above, .int objects, .int steps_17, .ref a_sources, .ref a_targets, .ref a_labels, .ref a_lengths, .ref a_letters, .ref a_distances, .ref a_longest, .int firstStep, .int secondStep, .ref a_lengthsTo, .ref a_lengthsFrom, .ref a_path, .int pathLength, .ref a_output, .int outputLength, .ref a_found, .int foundSteps, .ref a_keptLabels, .ref a_keptPairs, .ref a_input, .int inputLength, .int rules, .ref a_sides, .ref a_sideLengths, .int newObjects, .int newSteps, .ref a_newLengths, .ref a_newLetters, .ref a_newSources, .ref a_newTargets, .ref a_newLabels, .ref a_word, .int wordSize, .ref a_failed, .ref a_sizes, .ref a_arrays, .int hasSnapshot, .int savedObjects, .int savedSteps, .int savedRules, .ref a_savedLengths, .ref a_savedSources, .ref a_savedTargets, .ref a_savedLabels, .ref a_savedSideLengths, .ref a_savedLetters, .ref a_savedSides, .ref a_savedPairs]))], [(a_labels, .inl (G 0, 32, .inl labels))], [(a_sources, .inl (G 0, 32, .inl sources))], [(a_targets, .inl (G 0, 32, .inl targets))]]) hx hb hts u_X12_removeStep_X12 tyX12 tyX12_ok nmX12 hown hE hP hN hS 0 rfl rfl 3 (by decide) (hts (.fieldLink RX12 135 "DecreasingDiagramsModel" "steps" "I") (List.mem_of_getElem? (i := 1) rfl)) rfl (congrArg Value.int e_steps_17) (by decide +kernel) rfl rfl (Nat.le_of_ble_eq_true rfl) rfl dX12_removeStep_17 (fun H locs hP hS => ?_)
    refine lv_iload_n hx hb dX12_removeStep_20 rfl (lv_at hl 1 rfl) ?_
    obtain ⟨v2_21, e_v2_21, hf⟩ := lt_some hf
    refine x_istore_n (v := v2_21) (lv' := [(2, .int v2_21), (0, .ref h), (1, .int v1)]) hx hb dX12_removeStep_21 e_v2_21 rfl hl (by decide) rfl (fun ls hl => ?_)
    exact L22 steps_17   fu v2_21 labels sources targets H locs ls hP hS (lv_sub hl [1, 0] rfl) hf
  · have hf := it_neg (fun h => h c_5) hf
    refine lv_iconst (v := -1) hx hb dX12_removeStep_8 (by decide) ?_
    have hf := Option.some.inj hf
    rewrite [← hQ, ← hf]
    exact x_iret hx hb hr hlocks hP hS dX12_removeStep_9
