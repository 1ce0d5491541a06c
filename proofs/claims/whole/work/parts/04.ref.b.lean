set_option maxRecDepth 20000 in
theorem u_X12_reachedFrom_X12 : ∀ w ∈ wsX120, w ∈ wsX12_reachedFrom := xx_pl _ [3, 4, 5, 6, 7, 8, 9, 10, 11, 12, 13, 14, 15, 16, 17, 18, 19, 20, 21, 22, 23, 24, 25, 26, 27, 28, 29, 30, 31, 32, 33, 34, 35, 36, 37, 38, 39, 40, 41, 42, 43, 44, 45, 46, 47, 48, 49, 50, 51, 52, 53, 54] (by decide +kernel)
def f_X12_reachedFrom_J34 (rec_4 : (Int32 → Int32 → Option (Int32))) (t0 : Int32) (t1 : Int32) (v3 : Int32) : Option (Int32) :=
  lt (t0 ||| t1) (fun v2_35 => lt (v3 + 1) (fun v3_36 => rec_4 v2_35 v3_36))
def f_X12_reachedFrom_L4 (objects : Int32) (distances : (Nat → Nat → Int32)) (v1 : Int32) (rec_4 : Int32 → Int32 → Option (Int32)) (v2 : Int32) (v3 : Int32) : Option (Int32) :=
  if objects ≤ v3 then (some v2) else (ck v1 16 (ck v3 16 (if 1000 ≤ (distances v1.toNatClampNeg v3.toNatClampNeg) then (f_X12_reachedFrom_J34 rec_4 v2 0 v3) else (f_X12_reachedFrom_J34 rec_4 v2 (1 <<< (v3 &&& 31)) v3))))
def f_X12_reachedFrom (fu : Nat) (objects : Int32) (distances : (Nat → Nat → Int32)) (v1 : Int32) : Option (Int32) :=
  lt (0 : Int32) (fun v2_1 => lt (0 : Int32) (fun v3_3 => lp (τ := Int32 → Int32 → Option (Int32)) (fun _ _ => none) (f_X12_reachedFrom_L4 objects distances v1) fu v2_1 v3_3))
set_option maxHeartbeats 4000000 in
set_option maxRecDepth 100000 in
theorem k_X12_reachedFrom (l : Launch) (D : va_G) (G : Nat → ClassId) (fu : Nat) (h : Nat) (a_pairs : Nat) (a_above : Nat) (a_sources : Nat) (a_targets : Nat) (a_labels : Nat) (a_lengths : Nat) (a_letters : Nat) (a_distances : Nat) (a_longest : Nat) (a_lengthsTo : Nat) (a_lengthsFrom : Nat) (a_path : Nat) (a_output : Nat) (a_found : Nat) (a_keptLabels : Nat) (a_keptPairs : Nat) (a_input : Nat) (a_sides : Nat) (a_sideLengths : Nat) (a_newLengths : Nat) (a_newLetters : Nat) (a_newSources : Nat) (a_newTargets : Nat) (a_newLabels : Nat) (a_word : Nat) (a_failed : Nat) (a_sizes : Nat) (a_arrays : Nat) (a_savedLengths : Nat) (a_savedSources : Nat) (a_savedTargets : Nat) (a_savedLabels : Nat) (a_savedSideLengths : Nat) (a_savedLetters : Nat) (a_savedSides : Nat) (a_savedPairs : Nat) (r_distances : Nat → Nat) (objects : Int32) (steps : Int32) (firstStep : Int32) (secondStep : Int32) (pathLength : Int32) (outputLength : Int32) (foundSteps : Int32) (inputLength : Int32) (rules : Int32) (newObjects : Int32) (newSteps : Int32) (wordSize : Int32) (hasSnapshot : Int32) (savedObjects : Int32) (savedSteps : Int32) (savedRules : Int32) (distances : (Nat → Nat → Int32))  (v1 : Int32) (out : Int32) (hf : f_X12_reachedFrom fu objects distances v1 = some out) : xMet l yX12_reachedFrom wsX12_reachedFrom (rM 0 0) D G [.ref h, .int v1] [[(h, .inr (11, [.ref a_pairs, .ref a_above, .int objects, .int steps, .ref a_sources, .ref a_targets, .ref a_labels, .ref a_lengths, .ref a_letters, .ref a_distances, .ref a_longest, .int firstStep, .int secondStep, .ref a_lengthsTo, .ref a_lengthsFrom, .ref a_path, .int pathLength, .ref a_output, .int outputLength, .ref a_found, .int foundSteps, .ref a_keptLabels, .ref a_keptPairs, .ref a_input, .int inputLength, .int rules, .ref a_sides, .ref a_sideLengths, .int newObjects, .int newSteps, .ref a_newLengths, .ref a_newLetters, .ref a_newSources, .ref a_newTargets, .ref a_newLabels, .ref a_word, .int wordSize, .ref a_failed, .ref a_sizes, .ref a_arrays, .int hasSnapshot, .int savedObjects, .int savedSteps, .int savedRules, .ref a_savedLengths, .ref a_savedSources, .ref a_savedTargets, .ref a_savedLabels, .ref a_savedSideLengths, .ref a_savedLetters, .ref a_savedSides, .ref a_savedPairs]))], [gO (G 4) a_distances r_distances 16], gI (G 0) r_distances 16 16 distances] (xQi D [[(h, .inr (11, [.ref a_pairs, .ref a_above, .int objects, .int steps, .ref a_sources, .ref a_targets, .ref a_labels, .ref a_lengths, .ref a_letters, .ref a_distances, .ref a_longest, .int firstStep, .int secondStep, .ref a_lengthsTo, .ref a_lengthsFrom, .ref a_path, .int pathLength, .ref a_output, .int outputLength, .ref a_found, .int foundSteps, .ref a_keptLabels, .ref a_keptPairs, .ref a_input, .int inputLength, .int rules, .ref a_sides, .ref a_sideLengths, .int newObjects, .int newSteps, .ref a_newLengths, .ref a_newLetters, .ref a_newSources, .ref a_newTargets, .ref a_newLabels, .ref a_word, .int wordSize, .ref a_failed, .ref a_sizes, .ref a_arrays, .int hasSnapshot, .int savedObjects, .int savedSteps, .int savedRules, .ref a_savedLengths, .ref a_savedSources, .ref a_savedTargets, .ref a_savedLabels, .ref a_savedSideLengths, .ref a_savedLetters, .ref a_savedSides, .ref a_savedPairs]))], [gO (G 4) a_distances r_distances 16], gI (G 0) r_distances 16 16 distances] out) := by
  refine x_ent (cc := cX12_reachedFrom) (maxL := 4) (by decide) rfl (Nat.le_of_ble_eq_true rfl) ?_
  intro p e s m blw meth c aa ls args Q H locs hQ hx hb hr hml hown hts hlocks hE hN hl hP hS
  have hown : s.vm.findClass RX12 = some m.cls := hown
  have hl : lv_has ls 4 [(0, .ref h), (1, .int v1)] := hl
  have L4 : ∀ (n_4 : Nat) (v2 : Int32) (v3 : Int32) (H : Heap) (locs : List Loc) (ls : Array Slot), xW D aa [[(h, .inr (11, [.ref a_pairs, .ref a_above, .int objects, .int steps, .ref a_sources, .ref a_targets, .ref a_labels, .ref a_lengths, .ref a_letters, .ref a_distances, .ref a_longest, .int firstStep, .int secondStep, .ref a_lengthsTo, .ref a_lengthsFrom, .ref a_path, .int pathLength, .ref a_output, .int outputLength, .ref a_found, .int foundSteps, .ref a_keptLabels, .ref a_keptPairs, .ref a_input, .int inputLength, .int rules, .ref a_sides, .ref a_sideLengths, .int newObjects, .int newSteps, .ref a_newLengths, .ref a_newLetters, .ref a_newSources, .ref a_newTargets, .ref a_newLabels, .ref a_word, .int wordSize, .ref a_failed, .ref a_sizes, .ref a_arrays, .int hasSnapshot, .int savedObjects, .int savedSteps, .int savedRules, .ref a_savedLengths, .ref a_savedSources, .ref a_savedTargets, .ref a_savedLabels, .ref a_savedSideLengths, .ref a_savedLetters, .ref a_savedSides, .ref a_savedPairs]))], [gO (G 4) a_distances r_distances 16], gI (G 0) r_distances 16 16 distances] H → va_S (xA aa) s.heap H locs → lv_has ls 4 [(0, .ref h), (1, .int v1), (2, .int v2), (3, .int v3)] → lp (τ := Int32 → Int32 → Option (Int32)) (fun _ _ => none) (f_X12_reachedFrom_L4 objects distances v1) n_4 v2 v3 = some out → W p l e (rM 0 0) s m args blw meth c H locs 0 0 Q (F0 m 4 ls []) := by
    intro    n_4
    induction n_4 with
    | zero =>
      intro v2 v3 H locs ls hP hS hl hf
      exact no_some hf
    | succ n_4 ih_4 =>
      intro v2 v3 H locs ls hP hS hl hf
      have hf : f_X12_reachedFrom_L4 objects distances v1 (lp (τ := Int32 → Int32 → Option (Int32)) (fun _ _ => none) (f_X12_reachedFrom_L4 objects distances v1) n_4) v2 v3 = some out := hf
      have J34 : ∀ (t0 : Int32) (t1 : Int32) (v3 : Int32) (H : Heap) (locs : List Loc) (ls : Array Slot), xW D aa [[(h, .inr (11, [.ref a_pairs, .ref a_above, .int objects, .int steps, .ref a_sources, .ref a_targets, .ref a_labels, .ref a_lengths, .ref a_letters, .ref a_distances, .ref a_longest, .int firstStep, .int secondStep, .ref a_lengthsTo, .ref a_lengthsFrom, .ref a_path, .int pathLength, .ref a_output, .int outputLength, .ref a_found, .int foundSteps, .ref a_keptLabels, .ref a_keptPairs, .ref a_input, .int inputLength, .int rules, .ref a_sides, .ref a_sideLengths, .int newObjects, .int newSteps, .ref a_newLengths, .ref a_newLetters, .ref a_newSources, .ref a_newTargets, .ref a_newLabels, .ref a_word, .int wordSize, .ref a_failed, .ref a_sizes, .ref a_arrays, .int hasSnapshot, .int savedObjects, .int savedSteps, .int savedRules, .ref a_savedLengths, .ref a_savedSources, .ref a_savedTargets, .ref a_savedLabels, .ref a_savedSideLengths, .ref a_savedLetters, .ref a_savedSides, .ref a_savedPairs]))], [gO (G 4) a_distances r_distances 16], gI (G 0) r_distances 16 16 distances] H → va_S (xA aa) s.heap H locs → lv_has ls 4 [(0, .ref h), (1, .int v1), (3, .int v3)] → f_X12_reachedFrom_J34 (lp (τ := Int32 → Int32 → Option (Int32)) (fun _ _ => none) (f_X12_reachedFrom_L4 objects distances v1) n_4) t0 t1 v3 = some out → W p l e (rM 0 0) s m args blw meth c H locs 0 0 Q (F0 m 34 ls [.int t1, .int t0]) := by
        intro t0 t1 v3  H locs ls  hP hS hl hf
        refine lv_ior hx hb dX12_reachedFrom_34 ?_
        obtain ⟨v2_35, e_v2_35, hf⟩ := lt_some hf
        refine x_istore_n (v := v2_35) (lv' := [(2, .int v2_35), (0, .ref h), (1, .int v1), (3, .int v3)]) hx hb dX12_reachedFrom_35 e_v2_35 rfl hl (by decide) rfl (fun ls hl => ?_)
        obtain ⟨v3_36, e_v3_36, hf⟩ := lt_some hf
        refine lv_iinc (v := v3_36) (lv' := [(3, .int v3_36), (2, .int v2_35), (0, .ref h), (1, .int v1)]) hx hb dX12_reachedFrom_36 hl (k := 3) rfl (by rw [e_v3_36]; rfl) (by decide) rfl (fun ls hl => ?_)
        refine lv_goto (tgt := 4) hx hb dX12_reachedFrom_39 (by decide) ?_
        exact ih_4 v2_35 v3_36 H locs ls hP hS (lv_sub hl [2, 3, 1, 0] rfl) hf
      refine lv_iload_n hx hb dX12_reachedFrom_4 rfl (lv_at hl 3 rfl) ?_
      refine lv_aload_n hx hb dX12_reachedFrom_5 rfl (lv_at hl 0 rfl) ?_
      refine x_get hx hb hts u_X12_reachedFrom_X12 hown hE hP 0 rfl rfl 2 (by decide) (hts (.fieldLink RX12 132 "DecreasingDiagramsModel" "objects" "I") (List.mem_of_getElem? (i := 1) rfl)) rfl dX12_reachedFrom_6 ?_
      refine lv_icmp_ge (tgt := 42) hx hb dX12_reachedFrom_9 (by decide) (fun c_9 => ?_) (fun c_9 => ?_)
      · have hf := it_pos c_9 hf
        refine lv_iload_n hx hb dX12_reachedFrom_42 rfl (lv_at hl 2 rfl) ?_
        have hf := Option.some.inj hf
        rewrite [← hQ, ← hf]
        exact x_iret hx hb hr hlocks hP hS dX12_reachedFrom_43
      · have hf := it_neg c_9 hf
        refine lv_iload_n hx hb dX12_reachedFrom_12 rfl (lv_at hl 2 rfl) ?_
        refine lv_aload_n hx hb dX12_reachedFrom_13 rfl (lv_at hl 0 rfl) ?_
        refine x_get hx hb hts u_X12_reachedFrom_X12 hown hE hP 0 rfl rfl 9 (by decide) (hts (.fieldLink RX12 35 "DecreasingDiagramsModel" "distances" "[[I") (List.mem_of_getElem? (i := 2) rfl)) rfl dX12_reachedFrom_14 ?_
        refine lv_iload_n hx hb dX12_reachedFrom_17 rfl (lv_at hl 1 rfl) ?_
        obtain ⟨hq_18, hf⟩ := ck_some hf
        refine x_aald hx hb hE hP 1 4 rfl rfl hq_18 dX12_reachedFrom_18 ?_
        refine lv_iload_n hx hb dX12_reachedFrom_19 rfl (lv_at hl 3 rfl) ?_
        obtain ⟨hi, hf⟩ := ck_some hf
        refine x_iald2 hx hb hE hP 2 rfl hq_18 hi dX12_reachedFrom_20 ?_
        refine lv_sipush (v := 1000) hx hb dX12_reachedFrom_21 (by decide) ?_
        refine lv_icmp_ge (tgt := 33) hx hb dX12_reachedFrom_24 (by decide) (fun c_24 => ?_) (fun c_24 => ?_)
        · have hf := it_pos c_24 hf
          refine lv_iconst (v := 0) hx hb dX12_reachedFrom_33 (by decide) ?_
          exact J34 v2 0 v3  H locs ls  hP hS (lv_sub hl [0, 1, 3] rfl) hf
        · have hf := it_neg c_24 hf
          refine lv_iconst (v := 1) hx hb dX12_reachedFrom_27 (by decide) ?_
          refine lv_iload_n hx hb dX12_reachedFrom_28 rfl (lv_at hl 3 rfl) ?_
          refine lv_ishl hx hb dX12_reachedFrom_29 ?_
          refine lv_goto (tgt := 34) hx hb dX12_reachedFrom_30 (by decide) ?_
          exact J34 v2 (1 <<< (v3 &&& 31)) v3  H locs ls  hP hS (lv_sub hl [0, 1, 3] rfl) hf
  refine lv_iconst (v := 0) hx hb dX12_reachedFrom_0 (by decide) ?_
  obtain ⟨v2_1, e_v2_1, hf⟩ := lt_some hf
  refine x_istore_n (v := v2_1) (lv' := [(2, .int v2_1), (0, .ref h), (1, .int v1)]) hx hb dX12_reachedFrom_1 e_v2_1 rfl hl (by decide) rfl (fun ls hl => ?_)
  refine lv_iconst (v := 0) hx hb dX12_reachedFrom_2 (by decide) ?_
  obtain ⟨v3_3, e_v3_3, hf⟩ := lt_some hf
  refine x_istore_n (v := v3_3) (lv' := [(3, .int v3_3), (2, .int v2_1), (0, .ref h), (1, .int v1)]) hx hb dX12_reachedFrom_3 e_v3_3 rfl hl (by decide) rfl (fun ls hl => ?_)
  exact L4    fu v2_1 v3_3 H locs ls hP hS (lv_sub hl [2, 3, 1, 0] rfl) hf

def f_X12_areJoinable (fu : Nat) (objects : Int32) (distances : (Nat → Nat → Int32)) (v1 : Int32) (v2 : Int32) : Option (Int32) :=
  (f_X12_reachedFrom fu objects distances v1).bind (fun r_2 => (f_X12_reachedFrom fu objects distances v2).bind (fun r_7 => if (r_2 &&& r_7) = 0 then (some 0) else (some 1)))
set_option maxHeartbeats 4000000 in
set_option maxRecDepth 100000 in
theorem k_X12_areJoinable (l : Launch) (D : va_G) (G : Nat → ClassId) (fu : Nat) (h : Nat) (a_pairs : Nat) (a_above : Nat) (a_sources : Nat) (a_targets : Nat) (a_labels : Nat) (a_lengths : Nat) (a_letters : Nat) (a_distances : Nat) (a_longest : Nat) (a_lengthsTo : Nat) (a_lengthsFrom : Nat) (a_path : Nat) (a_output : Nat) (a_found : Nat) (a_keptLabels : Nat) (a_keptPairs : Nat) (a_input : Nat) (a_sides : Nat) (a_sideLengths : Nat) (a_newLengths : Nat) (a_newLetters : Nat) (a_newSources : Nat) (a_newTargets : Nat) (a_newLabels : Nat) (a_word : Nat) (a_failed : Nat) (a_sizes : Nat) (a_arrays : Nat) (a_savedLengths : Nat) (a_savedSources : Nat) (a_savedTargets : Nat) (a_savedLabels : Nat) (a_savedSideLengths : Nat) (a_savedLetters : Nat) (a_savedSides : Nat) (a_savedPairs : Nat) (r_distances : Nat → Nat) (objects : Int32) (steps : Int32) (firstStep : Int32) (secondStep : Int32) (pathLength : Int32) (outputLength : Int32) (foundSteps : Int32) (inputLength : Int32) (rules : Int32) (newObjects : Int32) (newSteps : Int32) (wordSize : Int32) (hasSnapshot : Int32) (savedObjects : Int32) (savedSteps : Int32) (savedRules : Int32) (distances : (Nat → Nat → Int32))  (v1 : Int32) (v2 : Int32) (out : Int32) (hf : f_X12_areJoinable fu objects distances v1 v2 = some out) : xMet l yX12_areJoinable wsX12_areJoinable (rM 1 23) D G [.ref h, .int v1, .int v2] [[(h, .inr (11, [.ref a_pairs, .ref a_above, .int objects, .int steps, .ref a_sources, .ref a_targets, .ref a_labels, .ref a_lengths, .ref a_letters, .ref a_distances, .ref a_longest, .int firstStep, .int secondStep, .ref a_lengthsTo, .ref a_lengthsFrom, .ref a_path, .int pathLength, .ref a_output, .int outputLength, .ref a_found, .int foundSteps, .ref a_keptLabels, .ref a_keptPairs, .ref a_input, .int inputLength, .int rules, .ref a_sides, .ref a_sideLengths, .int newObjects, .int newSteps, .ref a_newLengths, .ref a_newLetters, .ref a_newSources, .ref a_newTargets, .ref a_newLabels, .ref a_word, .int wordSize, .ref a_failed, .ref a_sizes, .ref a_arrays, .int hasSnapshot, .int savedObjects, .int savedSteps, .int savedRules, .ref a_savedLengths, .ref a_savedSources, .ref a_savedTargets, .ref a_savedLabels, .ref a_savedSideLengths, .ref a_savedLetters, .ref a_savedSides, .ref a_savedPairs]))], [gO (G 4) a_distances r_distances 16], gI (G 0) r_distances 16 16 distances] (xQi D [[(h, .inr (11, [.ref a_pairs, .ref a_above, .int objects, .int steps, .ref a_sources, .ref a_targets, .ref a_labels, .ref a_lengths, .ref a_letters, .ref a_distances, .ref a_longest, .int firstStep, .int secondStep, .ref a_lengthsTo, .ref a_lengthsFrom, .ref a_path, .int pathLength, .ref a_output, .int outputLength, .ref a_found, .int foundSteps, .ref a_keptLabels, .ref a_keptPairs, .ref a_input, .int inputLength, .int rules, .ref a_sides, .ref a_sideLengths, .int newObjects, .int newSteps, .ref a_newLengths, .ref a_newLetters, .ref a_newSources, .ref a_newTargets, .ref a_newLabels, .ref a_word, .int wordSize, .ref a_failed, .ref a_sizes, .ref a_arrays, .int hasSnapshot, .int savedObjects, .int savedSteps, .int savedRules, .ref a_savedLengths, .ref a_savedSources, .ref a_savedTargets, .ref a_savedLabels, .ref a_savedSideLengths, .ref a_savedLetters, .ref a_savedSides, .ref a_savedPairs]))], [gO (G 4) a_distances r_distances 16], gI (G 0) r_distances 16 16 distances] out) := by
  refine x_ent (cc := cX12_areJoinable) (maxL := 3) (by decide) rfl (Nat.le_of_ble_eq_true rfl) ?_
  intro p e s m blw meth c aa ls args Q H locs hQ hx hb hr hml hown hts hlocks hE hN hl hP hS
  have hown : s.vm.findClass RX12 = some m.cls := hown
  have hl : lv_has ls 3 [(0, .ref h), (1, .int v1), (2, .int v2)] := hl
  refine lv_aload_n hx hb dX12_areJoinable_0 rfl (lv_at hl 0 rfl) ?_
  refine lv_iload_n hx hb dX12_areJoinable_1 rfl (lv_at hl 1 rfl) ?_
  obtain ⟨r_2, hr_2, hf⟩ := bd_some hf
  refine x_goi0 (ps := [0, 1, 2]) (x_runV (As := [.int v1]) (rest := []) (ps := [0, 1, 2]) ⟨hx, hb, hml, hown, hts⟩ (k_X12_reachedFrom l D G fu h a_pairs a_above a_sources a_targets a_labels a_lengths a_letters a_distances a_longest a_lengthsTo a_lengthsFrom a_path a_output a_found a_keptLabels a_keptPairs a_input a_sides a_sideLengths a_newLengths a_newLetters a_newSources a_newTargets a_newLabels a_word a_failed a_sizes a_arrays a_savedLengths a_savedSources a_savedTargets a_savedLabels a_savedSideLengths a_savedLetters a_savedSides a_savedPairs r_distances objects steps firstStep secondStep pathLength outputLength foundSteps inputLength rules newObjects newSteps wordSize hasSnapshot savedObjects savedSteps savedRules distances v1 r_2 hr_2) (cwV 1 hts gX12_areJoinable_X12_reachedFrom rfl rfl rfl (by decide +kernel) ⟨Nat.le_of_ble_eq_true rfl, Nat.le_of_ble_eq_true rfl⟩) hE hP hN rfl (by decide) 0 rfl rfl rfl hl.1 (Nat.le_of_ble_eq_true rfl) dX12_areJoinable_2 ⟨Nat.zero_le _, Nat.zero_le _⟩) hP hN hS rfl (fun H locs hP hS => ?_)
  refine lv_aload_n hx hb dX12_areJoinable_5 rfl (lv_at hl 0 rfl) ?_
  refine lv_iload_n hx hb dX12_areJoinable_6 rfl (lv_at hl 2 rfl) ?_
  obtain ⟨r_7, hr_7, hf⟩ := bd_some hf
  refine x_goi0 (ps := [0, 1, 2]) (x_runV (As := [.int v2]) (rest := [.int r_2]) (ps := [0, 1, 2]) ⟨hx, hb, hml, hown, hts⟩ (k_X12_reachedFrom l D G fu h a_pairs a_above a_sources a_targets a_labels a_lengths a_letters a_distances a_longest a_lengthsTo a_lengthsFrom a_path a_output a_found a_keptLabels a_keptPairs a_input a_sides a_sideLengths a_newLengths a_newLetters a_newSources a_newTargets a_newLabels a_word a_failed a_sizes a_arrays a_savedLengths a_savedSources a_savedTargets a_savedLabels a_savedSideLengths a_savedLetters a_savedSides a_savedPairs r_distances objects steps firstStep secondStep pathLength outputLength foundSteps inputLength rules newObjects newSteps wordSize hasSnapshot savedObjects savedSteps savedRules distances v2 r_7 hr_7) (cwV 1 hts gX12_areJoinable_X12_reachedFrom rfl rfl rfl (by decide +kernel) ⟨Nat.le_of_ble_eq_true rfl, Nat.le_of_ble_eq_true rfl⟩) hE hP hN rfl (by decide) 0 rfl rfl rfl hl.1 (Nat.le_of_ble_eq_true rfl) dX12_areJoinable_7 ⟨Nat.zero_le _, Nat.zero_le _⟩) hP hN hS rfl (fun H locs hP hS => ?_)
  refine lv_iand hx hb dX12_areJoinable_10 ?_
  refine lv_if_eq (tgt := 18) hx hb dX12_areJoinable_11 (by decide) (fun c_11 => ?_) (fun c_11 => ?_)
  · have hf := it_pos c_11 hf
    refine lv_iconst (v := 0) hx hb dX12_areJoinable_18 (by decide) ?_
    have hf := Option.some.inj hf
    rewrite [← hQ, ← hf]
    exact x_zret (r := 0) hx hb hr hlocks rfl hP hS dX12_areJoinable_19
  · have hf := it_neg c_11 hf
    refine lv_iconst (v := 1) hx hb dX12_areJoinable_14 (by decide) ?_
    refine lv_goto (tgt := 19) hx hb dX12_areJoinable_15 (by decide) ?_
    have hf := Option.some.inj hf
    rewrite [← hQ, ← hf]
    exact x_zret (r := 1) hx hb hr hlocks rfl hP hS dX12_areJoinable_19

set_option maxRecDepth 20000 in
theorem u_X12_clearRules_X12 : ∀ w ∈ wsX120, w ∈ wsX12_clearRules := xx_pl _ [2, 3, 4, 5, 6, 7, 8, 9, 10, 11, 12, 13, 14, 15, 16, 17, 18, 19, 20, 21, 22, 23, 24, 25, 26, 27, 28, 29, 30, 31, 32, 33, 34, 35, 36, 37, 38, 39, 40, 41, 42, 43, 44, 45, 46, 47, 48, 49, 50, 51, 52, 53] (by decide +kernel)
def f_X12_clearRules (rules : Int32) : Option (Int32 × Int32) :=
  lt rules (fun v1_4 => lt (0 : Int32) (fun rules_7 => some (v1_4, rules_7)))
set_option maxHeartbeats 4000000 in
set_option maxRecDepth 100000 in
theorem k_X12_clearRules (l : Launch) (D : va_G) (G : Nat → ClassId) (fu : Nat) (h : Nat) (a_pairs : Nat) (a_above : Nat) (a_sources : Nat) (a_targets : Nat) (a_labels : Nat) (a_lengths : Nat) (a_letters : Nat) (a_distances : Nat) (a_longest : Nat) (a_lengthsTo : Nat) (a_lengthsFrom : Nat) (a_path : Nat) (a_output : Nat) (a_found : Nat) (a_keptLabels : Nat) (a_keptPairs : Nat) (a_input : Nat) (a_sides : Nat) (a_sideLengths : Nat) (a_newLengths : Nat) (a_newLetters : Nat) (a_newSources : Nat) (a_newTargets : Nat) (a_newLabels : Nat) (a_word : Nat) (a_failed : Nat) (a_sizes : Nat) (a_arrays : Nat) (a_savedLengths : Nat) (a_savedSources : Nat) (a_savedTargets : Nat) (a_savedLabels : Nat) (a_savedSideLengths : Nat) (a_savedLetters : Nat) (a_savedSides : Nat) (a_savedPairs : Nat) (objects : Int32) (steps : Int32) (firstStep : Int32) (secondStep : Int32) (pathLength : Int32) (outputLength : Int32) (foundSteps : Int32) (inputLength : Int32) (rules : Int32) (newObjects : Int32) (newSteps : Int32) (wordSize : Int32) (hasSnapshot : Int32) (savedObjects : Int32) (savedSteps : Int32) (savedRules : Int32)   (out : Int32 × Int32) (hf : f_X12_clearRules rules = some out) : xMet l yX12_clearRules wsX12_clearRules (rM 0 0) D G [.ref h] [[(h, .inr (11, [.ref a_pairs, .ref a_above, .int objects, .int steps, .ref a_sources, .ref a_targets, .ref a_labels, .ref a_lengths, .ref a_letters, .ref a_distances, .ref a_longest, .int firstStep, .int secondStep, .ref a_lengthsTo, .ref a_lengthsFrom, .ref a_path, .int pathLength, .ref a_output, .int outputLength, .ref a_found, .int foundSteps, .ref a_keptLabels, .ref a_keptPairs, .ref a_input, .int inputLength, .int rules, .ref a_sides, .ref a_sideLengths, .int newObjects, .int newSteps, .ref a_newLengths, .ref a_newLetters, .ref a_newSources, .ref a_newTargets, .ref a_newLabels, .ref a_word, .int wordSize, .ref a_failed, .ref a_sizes, .ref a_arrays, .int hasSnapshot, .int savedObjects, .int savedSteps, .int savedRules, .ref a_savedLengths, .ref a_savedSources, .ref a_savedTargets, .ref a_savedLabels, .ref a_savedSideLengths, .ref a_savedLetters, .ref a_savedSides, .ref a_savedPairs]))]] (xQi D [[(h, .inr (11, [.ref a_pairs, .ref a_above, .int objects, .int steps, .ref a_sources, .ref a_targets, .ref a_labels, .ref a_lengths, .ref a_letters, .ref a_distances, .ref a_longest, .int firstStep, .int secondStep, .ref a_lengthsTo, .ref a_lengthsFrom, .ref a_path, .int pathLength, .ref a_output, .int outputLength, .ref a_found, .int foundSteps, .ref a_keptLabels, .ref a_keptPairs, .ref a_input, .int inputLength, .int out.2, .ref a_sides, .ref a_sideLengths, .int newObjects, .int newSteps, .ref a_newLengths, .ref a_newLetters, .ref a_newSources, .ref a_newTargets, .ref a_newLabels, .ref a_word, .int wordSize, .ref a_failed, .ref a_sizes, .ref a_arrays, .int hasSnapshot, .int savedObjects, .int savedSteps, .int savedRules, .ref a_savedLengths, .ref a_savedSources, .ref a_savedTargets, .ref a_savedLabels, .ref a_savedSideLengths, .ref a_savedLetters, .ref a_savedSides, .ref a_savedPairs]))]] out.1) := by
  refine x_ent (cc := cX12_clearRules) (maxL := 2) (by decide) rfl (Nat.le_of_ble_eq_true rfl) ?_
  intro p e s m blw meth c aa ls args Q H locs hQ hx hb hr hml hown hts hlocks hE hN hl hP hS
  have hown : s.vm.findClass RX12 = some m.cls := hown
  have hl : lv_has ls 2 [(0, .ref h)] := hl
  refine lv_aload_n hx hb dX12_clearRules_0 rfl (lv_at hl 0 rfl) ?_
  refine x_get hx hb hts u_X12_clearRules_X12 hown hE hP 0 rfl rfl 25 (by decide) (hts (.fieldLink RX12 255 "DecreasingDiagramsModel" "rules" "I") (List.mem_of_getElem? (i := 1) rfl)) rfl dX12_clearRules_1 ?_
  obtain ⟨v1_4, e_v1_4, hf⟩ := lt_some hf
  refine x_istore_n (v := v1_4) (lv' := [(1, .int v1_4), (0, .ref h)]) hx hb dX12_clearRules_4 e_v1_4 rfl hl (by decide) rfl (fun ls hl => ?_)
  refine lv_aload_n hx hb dX12_clearRules_5 rfl (lv_at hl 1 rfl) ?_
  refine lv_iconst (v := 0) hx hb dX12_clearRules_6 (by decide) ?_
  obtain ⟨rules_7, e_rules_7, hf⟩ := lt_some hf
  refine x_put (w := .int rules_7) (ty := .int) (I' := [[(h, .inr (11, [.ref a_pairs, .ref a_above, .int objects, .int steps, .ref a_sources, .ref a_targets, .ref a_labels, .ref a_lengths, .ref a_letters, .ref a_distances, .ref a_longest, .int firstStep, .int secondStep, .ref a_lengthsTo, .ref a_lengthsFrom, .ref a_path, .int pathLength, .ref a_output, .int outputLength, .ref a_found, .int foundSteps, .ref a_keptLabels, .ref a_keptPairs, .ref a_input, .int inputLength, .int rules_7, .ref a_sides, .ref a_sideLengths, .int newObjects, .int newSteps, .ref a_newLengths, .ref a_newLetters, .ref a_newSources, .ref a_newTargets, .ref a_newLabels, .ref a_word, .int wordSize, .ref a_failed, .ref a_sizes, .ref a_arrays, .int hasSnapshot, .int savedObjects, .int savedSteps, .int savedRules, .ref a_savedLengths, .ref a_savedSources, .ref a_savedTargets, .ref a_savedLabels, .ref a_savedSideLengths, .ref a_savedLetters, .ref a_savedSides, .ref a_savedPairs]))]]) hx hb hts u_X12_clearRules_X12 tyX12 tyX12_ok nmX12 hown hE hP hN hS 0 rfl rfl 25 (by decide) (hts (.fieldLink RX12 255 "DecreasingDiagramsModel" "rules" "I") (List.mem_of_getElem? (i := 1) rfl)) rfl (congrArg Value.int e_rules_7) (by decide +kernel) rfl rfl (Nat.le_of_ble_eq_true rfl) rfl dX12_clearRules_7 (fun H locs hP hS => ?_)
  refine lv_iload_n hx hb dX12_clearRules_10 rfl (lv_at hl 0 rfl) ?_
  have hf := Option.some.inj hf
  rewrite [← hQ, ← hf]
  exact x_iret hx hb hr hlocks hP hS dX12_clearRules_11

set_option maxRecDepth 20000 in
theorem u_X12_clearSystem_X12 : ∀ w ∈ wsX120, w ∈ wsX12_clearSystem := xx_pl _ [3, 4, 5, 6, 7, 8, 9, 10, 11, 12, 13, 14, 15, 16, 17, 18, 19, 20, 21, 22, 23, 24, 25, 26, 27, 28, 29, 30, 31, 32, 33, 34, 35, 36, 37, 38, 39, 40, 41, 42, 43, 44, 45, 46, 47, 48, 49, 50, 51, 52, 53, 54] (by decide +kernel)
def f_X12_clearSystem (objects : Int32) : Option (Int32 × Int32 × Int32) :=
  lt objects (fun v1_4 => lt (0 : Int32) (fun objects_7 => lt (0 : Int32) (fun steps_12 => some (v1_4, objects_7, steps_12))))
set_option maxHeartbeats 4000000 in
set_option maxRecDepth 100000 in
theorem k_X12_clearSystem (l : Launch) (D : va_G) (G : Nat → ClassId) (fu : Nat) (h : Nat) (a_pairs : Nat) (a_above : Nat) (a_sources : Nat) (a_targets : Nat) (a_labels : Nat) (a_lengths : Nat) (a_letters : Nat) (a_distances : Nat) (a_longest : Nat) (a_lengthsTo : Nat) (a_lengthsFrom : Nat) (a_path : Nat) (a_output : Nat) (a_found : Nat) (a_keptLabels : Nat) (a_keptPairs : Nat) (a_input : Nat) (a_sides : Nat) (a_sideLengths : Nat) (a_newLengths : Nat) (a_newLetters : Nat) (a_newSources : Nat) (a_newTargets : Nat) (a_newLabels : Nat) (a_word : Nat) (a_failed : Nat) (a_sizes : Nat) (a_arrays : Nat) (a_savedLengths : Nat) (a_savedSources : Nat) (a_savedTargets : Nat) (a_savedLabels : Nat) (a_savedSideLengths : Nat) (a_savedLetters : Nat) (a_savedSides : Nat) (a_savedPairs : Nat) (objects : Int32) (steps : Int32) (firstStep : Int32) (secondStep : Int32) (pathLength : Int32) (outputLength : Int32) (foundSteps : Int32) (inputLength : Int32) (rules : Int32) (newObjects : Int32) (newSteps : Int32) (wordSize : Int32) (hasSnapshot : Int32) (savedObjects : Int32) (savedSteps : Int32) (savedRules : Int32)   (out : Int32 × Int32 × Int32) (hf : f_X12_clearSystem objects = some out) : xMet l yX12_clearSystem wsX12_clearSystem (rM 0 0) D G [.ref h] [[(h, .inr (11, [.ref a_pairs, .ref a_above, .int objects, .int steps, .ref a_sources, .ref a_targets, .ref a_labels, .ref a_lengths, .ref a_letters, .ref a_distances, .ref a_longest, .int firstStep, .int secondStep, .ref a_lengthsTo, .ref a_lengthsFrom, .ref a_path, .int pathLength, .ref a_output, .int outputLength, .ref a_found, .int foundSteps, .ref a_keptLabels, .ref a_keptPairs, .ref a_input, .int inputLength, .int rules, .ref a_sides, .ref a_sideLengths, .int newObjects, .int newSteps, .ref a_newLengths, .ref a_newLetters, .ref a_newSources, .ref a_newTargets, .ref a_newLabels, .ref a_word, .int wordSize, .ref a_failed, .ref a_sizes, .ref a_arrays, .int hasSnapshot, .int savedObjects, .int savedSteps, .int savedRules, .ref a_savedLengths, .ref a_savedSources, .ref a_savedTargets, .ref a_savedLabels, .ref a_savedSideLengths, .ref a_savedLetters, .ref a_savedSides, .ref a_savedPairs]))]] (xQi D [[(h, .inr (11, [.ref a_pairs, .ref a_above, .int out.2.1, .int out.2.2, .ref a_sources, .ref a_targets, .ref a_labels, .ref a_lengths, .ref a_letters, .ref a_distances, .ref a_longest, .int firstStep, .int secondStep, .ref a_lengthsTo, .ref a_lengthsFrom, .ref a_path, .int pathLength, .ref a_output, .int outputLength, .ref a_found, .int foundSteps, .ref a_keptLabels, .ref a_keptPairs, .ref a_input, .int inputLength, .int rules, .ref a_sides, .ref a_sideLengths, .int newObjects, .int newSteps, .ref a_newLengths, .ref a_newLetters, .ref a_newSources, .ref a_newTargets, .ref a_newLabels, .ref a_word, .int wordSize, .ref a_failed, .ref a_sizes, .ref a_arrays, .int hasSnapshot, .int savedObjects, .int savedSteps, .int savedRules, .ref a_savedLengths, .ref a_savedSources, .ref a_savedTargets, .ref a_savedLabels, .ref a_savedSideLengths, .ref a_savedLetters, .ref a_savedSides, .ref a_savedPairs]))]] out.1) := by
  refine x_ent (cc := cX12_clearSystem) (maxL := 2) (by decide) rfl (Nat.le_of_ble_eq_true rfl) ?_
  intro p e s m blw meth c aa ls args Q H locs hQ hx hb hr hml hown hts hlocks hE hN hl hP hS
  have hown : s.vm.findClass RX12 = some m.cls := hown
  have hl : lv_has ls 2 [(0, .ref h)] := hl
  refine lv_aload_n hx hb dX12_clearSystem_0 rfl (lv_at hl 0 rfl) ?_
  refine x_get hx hb hts u_X12_clearSystem_X12 hown hE hP 0 rfl rfl 2 (by decide) (hts (.fieldLink RX12 132 "DecreasingDiagramsModel" "objects" "I") (List.mem_of_getElem? (i := 1) rfl)) rfl dX12_clearSystem_1 ?_
  obtain ⟨v1_4, e_v1_4, hf⟩ := lt_some hf
  refine x_istore_n (v := v1_4) (lv' := [(1, .int v1_4), (0, .ref h)]) hx hb dX12_clearSystem_4 e_v1_4 rfl hl (by decide) rfl (fun ls hl => ?_)
  refine lv_aload_n hx hb dX12_clearSystem_5 rfl (lv_at hl 1 rfl) ?_
  refine lv_iconst (v := 0) hx hb dX12_clearSystem_6 (by decide) ?_
  obtain ⟨objects_7, e_objects_7, hf⟩ := lt_some hf
  refine x_put (w := .int objects_7) (ty := .int) (I' := [[(h, .inr (11, [.ref a_pairs, .ref a_above, .int objects_7, .int steps, .ref a_sources, .ref a_targets, .ref a_labels, .ref a_lengths, .ref a_letters, .ref a_distances, .ref a_longest, .int firstStep, .int secondStep, .ref a_lengthsTo, .ref a_lengthsFrom, .ref a_path, .int pathLength, .ref a_output, .int outputLength, .ref a_found, .int foundSteps, .ref a_keptLabels, .ref a_keptPairs, .ref a_input, .int inputLength, .int rules, .ref a_sides, .ref a_sideLengths, .int newObjects, .int newSteps, .ref a_newLengths, .ref a_newLetters, .ref a_newSources, .ref a_newTargets, .ref a_newLabels, .ref a_word, .int wordSize, .ref a_failed, .ref a_sizes, .ref a_arrays, .int hasSnapshot, .int savedObjects, .int savedSteps, .int savedRules, .ref a_savedLengths, .ref a_savedSources, .ref a_savedTargets, .ref a_savedLabels, .ref a_savedSideLengths, .ref a_savedLetters, .ref a_savedSides, .ref a_savedPairs]))]]) hx hb hts u_X12_clearSystem_X12 tyX12 tyX12_ok nmX12 hown hE hP hN hS 0 rfl rfl 2 (by decide) (hts (.fieldLink RX12 132 "DecreasingDiagramsModel" "objects" "I") (List.mem_of_getElem? (i := 1) rfl)) rfl (congrArg Value.int e_objects_7) (by decide +kernel) rfl rfl (Nat.le_of_ble_eq_true rfl) rfl dX12_clearSystem_7 (fun H locs hP hS => ?_)
  refine lv_aload_n hx hb dX12_clearSystem_10 rfl (lv_at hl 1 rfl) ?_
  refine lv_iconst (v := 0) hx hb dX12_clearSystem_11 (by decide) ?_
  obtain ⟨steps_12, e_steps_12, hf⟩ := lt_some hf
  refine x_put (w := .int steps_12) (ty := .int) (I' := [[(h, .inr (11, [.ref a_pairs, .ref a_above, .int objects_7, .int steps_12, .ref a_sources, .ref a_targets, .ref a_labels, .ref a_lengths, .ref a_letters, .ref a_distances, .ref a_longest, .int firstStep, .int secondStep, .ref a_lengthsTo, .ref a_lengthsFrom, .ref a_path, .int pathLength, .ref a_output, .int outputLength, .ref a_found, .int foundSteps, .ref a_keptLabels, .ref a_keptPairs, .ref a_input, .int inputLength, .int rules, .ref a_sides, .ref a_sideLengths, .int newObjects, .int newSteps, .ref a_newLengths, .ref a_newLetters, .ref a_newSources, .ref a_newTargets, .ref a_newLabels, .ref a_word, .int wordSize, .ref a_failed, .ref a_sizes, .ref a_arrays, .int hasSnapshot, .int savedObjects, .int savedSteps, .int savedRules, .ref a_savedLengths, .ref a_savedSources, .ref a_savedTargets, .ref a_savedLabels, .ref a_savedSideLengths, .ref a_savedLetters, .ref a_savedSides, .ref a_savedPairs]))]]) hx hb hts u_X12_clearSystem_X12 tyX12 tyX12_ok nmX12 hown hE hP hN hS 0 rfl rfl 3 (by decide) (hts (.fieldLink RX12 135 "DecreasingDiagramsModel" "steps" "I") (List.mem_of_getElem? (i := 2) rfl)) rfl (congrArg Value.int e_steps_12) (by decide +kernel) rfl rfl (Nat.le_of_ble_eq_true rfl) rfl dX12_clearSystem_12 (fun H locs hP hS => ?_)
  refine lv_iload_n hx hb dX12_clearSystem_15 rfl (lv_at hl 0 rfl) ?_
  have hf := Option.some.inj hf
  rewrite [← hQ, ← hf]
  exact x_iret hx hb hr hlocks hP hS dX12_clearSystem_16

def f_X12_isArray (v0 : Int32) : Option (Int32) :=
  (f_X12_isBetween v0 0 2).bind (fun r_3 => ckb r_3 (some r_3))
set_option maxHeartbeats 4000000 in
set_option maxRecDepth 100000 in
theorem k_X12_isArray (l : Launch) (D : va_G) (G : Nat → ClassId) (fu : Nat)    (v0 : Int32) (out : Int32) (hf : f_X12_isArray v0 = some out) : xMet l yX12_isArray wsX12_isArray (rM 1 22) D G [.int v0] [] (xQi D [] out) := by
  refine x_ent (cc := cX12_isArray) (maxL := 1) (by decide) rfl (Nat.le_of_ble_eq_true rfl) ?_
  intro p e s m blw meth c aa ls args Q H locs hQ hx hb hr hml hown hts hlocks hE hN hl hP hS
  have hown : s.vm.findClass RX12 = some m.cls := hown
  have hl : lv_has ls 1 [(0, .int v0)] := hl
  refine lv_iload_n hx hb dX12_isArray_0 rfl (lv_at hl 0 rfl) ?_
  refine lv_iconst (v := 0) hx hb dX12_isArray_1 (by decide) ?_
  refine lv_iconst (v := 2) hx hb dX12_isArray_2 (by decide) ?_
  obtain ⟨r_3, hr_3, hf⟩ := bd_some hf
  refine x_goi0 (ps := []) (x_runS (As := [.int v0, .int 0, .int 2]) (rest := []) (ps := []) ⟨hx, hb, hml, hown, hts⟩ (k_X12_isBetween l D G fu v0 0 2 r_3 hr_3) (va_cwS 3 hts gX12_isArray_X12_isBetween rfl rfl rfl (by decide +kernel) ⟨Nat.le_of_ble_eq_true rfl, Nat.le_of_ble_eq_true rfl⟩) hE hP hN rfl (by decide) rfl hl.1 (Nat.le_of_ble_eq_true rfl) dX12_isArray_3 ⟨Nat.zero_le _, Nat.zero_le _⟩) hP hN hS rfl (fun H locs hP hS => ?_)
  obtain ⟨hz, hf⟩ := ckb_some hf
  have hf := Option.some.inj hf
  rewrite [← hQ, ← hf]
  exact x_zret (r := r_3) hx hb hr hlocks hz hP hS dX12_isArray_6

set_option maxRecDepth 20000 in
theorem u_X12_findDistances_X12 : ∀ w ∈ wsX120, w ∈ wsX12_findDistances := xx_pl _ [6, 7, 8, 9, 10, 11, 12, 13, 14, 15, 16, 17, 18, 19, 20, 21, 22, 23, 24, 25, 26, 27, 28, 29, 30, 31, 32, 33, 34, 35, 36, 37, 38, 39, 40, 41, 42, 43, 44, 45, 46, 47, 48, 49, 50, 51, 52, 53, 54, 55, 56, 57] (by decide +kernel)
def f_X12_findDistances_J197 (rec_104 : (Int32 → (Nat → Nat → Int32) → Option ((Nat → Nat → Int32)))) (v1 : Int32) (distances : (Nat → Nat → Int32)) : Option ((Nat → Nat → Int32)) :=
  lt (v1 + 1) (fun v1_197 => rec_104 v1_197 distances)
def f_X12_findDistances_J191 (rec_114 : (Int32 → (Nat → Nat → Int32) → Option ((Nat → Nat → Int32)))) (v2 : Int32) (distances : (Nat → Nat → Int32)) : Option ((Nat → Nat → Int32)) :=
  lt (v2 + 1) (fun v2_191 => rec_114 v2_191 distances)
def f_X12_findDistances_J184 (t0_row : Int32) (rec_124 : (Int32 → (Nat → Nat → Int32) → Option ((Nat → Nat → Int32)))) (t1 : Int32) (t2 : Int32) (v3 : Int32) (distances : (Nat → Nat → Int32)) : Option ((Nat → Nat → Int32)) :=
  ck t1 16 (lt (up2 distances t0_row.toNatClampNeg t1.toNatClampNeg t2) (fun distances_184 => lt (v3 + 1) (fun v3_185 => rec_124 v3_185 distances_184)))
def f_X12_findDistances_L124 (objects : Int32) (v1 : Int32) (v2 : Int32) (rec_114 : (Int32 → (Nat → Nat → Int32) → Option ((Nat → Nat → Int32)))) (rec_124 : Int32 → (Nat → Nat → Int32) → Option ((Nat → Nat → Int32))) (v3 : Int32) (distances : (Nat → Nat → Int32)) : Option ((Nat → Nat → Int32)) :=
  if objects ≤ v3 then (f_X12_findDistances_J191 rec_114 v2 distances) else (ck v2 16 (ck v1 16 (ck v1 16 (ck v3 16 (lt ((distances v2.toNatClampNeg v1.toNatClampNeg) + (distances v1.toNatClampNeg v3.toNatClampNeg)) (fun v4_149 => ck v2 16 (ck v2 16 (ck v3 16 (if (distances v2.toNatClampNeg v3.toNatClampNeg) ≤ v4_149 then (ck v2 16 (ck v3 16 (f_X12_findDistances_J184 v2 rec_124 v3 (distances v2.toNatClampNeg v3.toNatClampNeg) v3 distances))) else (f_X12_findDistances_J184 v2 rec_124 v3 v4_149 v3 distances))))))))))
def f_X12_findDistances_L114 (fu : Nat) (objects : Int32) (v1 : Int32) (rec_104 : (Int32 → (Nat → Nat → Int32) → Option ((Nat → Nat → Int32)))) (rec_114 : Int32 → (Nat → Nat → Int32) → Option ((Nat → Nat → Int32))) (v2 : Int32) (distances : (Nat → Nat → Int32)) : Option ((Nat → Nat → Int32)) :=
  if objects ≤ v2 then (f_X12_findDistances_J197 rec_104 v1 distances) else (lt (0 : Int32) (fun v3_123 => lp (τ := Int32 → (Nat → Nat → Int32) → Option ((Nat → Nat → Int32))) (fun _ _ => none) (f_X12_findDistances_L124 objects v1 v2 rec_114) fu v3_123 distances))
def f_X12_findDistances_L104 (fu : Nat) (objects : Int32) (rec_104 : Int32 → (Nat → Nat → Int32) → Option ((Nat → Nat → Int32))) (v1 : Int32) (distances : (Nat → Nat → Int32)) : Option ((Nat → Nat → Int32)) :=
  if objects ≤ v1 then (some distances) else (lt (0 : Int32) (fun v2_113 => lp (τ := Int32 → (Nat → Nat → Int32) → Option ((Nat → Nat → Int32))) (fun _ _ => none) (f_X12_findDistances_L114 fu objects v1 rec_104) fu v2_113 distances))
def f_X12_findDistances_J102 (fu : Nat) (objects : Int32) (distances : (Nat → Nat → Int32)) : Option ((Nat → Nat → Int32)) :=
  lt (0 : Int32) (fun v1_103 => lp (τ := Int32 → (Nat → Nat → Int32) → Option ((Nat → Nat → Int32))) (fun _ _ => none) (f_X12_findDistances_L104 fu objects) fu v1_103 distances)
def f_X12_findDistances_J96 (rec_54 : (Int32 → (Nat → Nat → Int32) → Option ((Nat → Nat → Int32)))) (v1 : Int32) (distances : (Nat → Nat → Int32)) : Option ((Nat → Nat → Int32)) :=
  lt (v1 + 1) (fun v1_96 => rec_54 v1_96 distances)
def f_X12_findDistances_L54 (fu : Nat) (objects : Int32) (steps : Int32) (sources : (Nat → Int32)) (targets : (Nat → Int32)) (rec_54 : Int32 → (Nat → Nat → Int32) → Option ((Nat → Nat → Int32))) (v1 : Int32) (distances : (Nat → Nat → Int32)) : Option ((Nat → Nat → Int32)) :=
  if steps ≤ v1 then (f_X12_findDistances_J102 fu objects distances) else (ck v1 32 (ck v1 32 (if (sources v1.toNatClampNeg) = (targets v1.toNatClampNeg) then (f_X12_findDistances_J96 rec_54 v1 distances) else (ck v1 32 (ck (sources v1.toNatClampNeg) 16 (ck v1 32 (ck (targets v1.toNatClampNeg) 16 (lt (up2 distances (sources v1.toNatClampNeg).toNatClampNeg (targets v1.toNatClampNeg).toNatClampNeg 1) (fun distances_95 => f_X12_findDistances_J96 rec_54 v1 distances_95)))))))))
def f_X12_findDistances_J52 (fu : Nat) (objects : Int32) (steps : Int32) (sources : (Nat → Int32)) (targets : (Nat → Int32)) (distances : (Nat → Nat → Int32)) : Option ((Nat → Nat → Int32)) :=
  lt (0 : Int32) (fun v1_53 => lp (τ := Int32 → (Nat → Nat → Int32) → Option ((Nat → Nat → Int32))) (fun _ _ => none) (f_X12_findDistances_L54 fu objects steps sources targets) fu v1_53 distances)
def f_X12_findDistances_J46 (rec_2 : (Int32 → (Nat → Nat → Int32) → Option ((Nat → Nat → Int32)))) (v1 : Int32) (distances : (Nat → Nat → Int32)) : Option ((Nat → Nat → Int32)) :=
  lt (v1 + 1) (fun v1_46 => rec_2 v1_46 distances)
def f_X12_findDistances_J39 (t0_row : Int32) (rec_12 : (Int32 → (Nat → Nat → Int32) → Option ((Nat → Nat → Int32)))) (t1 : Int32) (t2 : Int32) (v2 : Int32) (distances : (Nat → Nat → Int32)) : Option ((Nat → Nat → Int32)) :=
  ck t1 16 (lt (up2 distances t0_row.toNatClampNeg t1.toNatClampNeg t2) (fun distances_39 => lt (v2 + 1) (fun v2_40 => rec_12 v2_40 distances_39)))
def f_X12_findDistances_L12 (objects : Int32) (v1 : Int32) (rec_2 : (Int32 → (Nat → Nat → Int32) → Option ((Nat → Nat → Int32)))) (rec_12 : Int32 → (Nat → Nat → Int32) → Option ((Nat → Nat → Int32))) (v2 : Int32) (distances : (Nat → Nat → Int32)) : Option ((Nat → Nat → Int32)) :=
  if objects ≤ v2 then (f_X12_findDistances_J46 rec_2 v1 distances) else (ck v1 16 (if ¬ v1 = v2 then (f_X12_findDistances_J39 v1 rec_12 v2 1000 v2 distances) else (f_X12_findDistances_J39 v1 rec_12 v2 0 v2 distances)))
def f_X12_findDistances_L2 (fu : Nat) (objects : Int32) (steps : Int32) (sources : (Nat → Int32)) (targets : (Nat → Int32)) (rec_2 : Int32 → (Nat → Nat → Int32) → Option ((Nat → Nat → Int32))) (v1 : Int32) (distances : (Nat → Nat → Int32)) : Option ((Nat → Nat → Int32)) :=
  if objects ≤ v1 then (f_X12_findDistances_J52 fu objects steps sources targets distances) else (lt (0 : Int32) (fun v2_11 => lp (τ := Int32 → (Nat → Nat → Int32) → Option ((Nat → Nat → Int32))) (fun _ _ => none) (f_X12_findDistances_L12 objects v1 rec_2) fu v2_11 distances))
def f_X12_findDistances (fu : Nat) (objects : Int32) (steps : Int32) (distances : (Nat → Nat → Int32)) (sources : (Nat → Int32)) (targets : (Nat → Int32)) : Option ((Nat → Nat → Int32)) :=
  lt (0 : Int32) (fun v1_1 => lp (τ := Int32 → (Nat → Nat → Int32) → Option ((Nat → Nat → Int32))) (fun _ _ => none) (f_X12_findDistances_L2 fu objects steps sources targets) fu v1_1 distances)
set_option maxHeartbeats 4000000 in
set_option maxRecDepth 100000 in
theorem k_X12_findDistances (l : Launch) (D : va_G) (G : Nat → ClassId) (fu : Nat) (h : Nat) (a_pairs : Nat) (a_above : Nat) (a_sources : Nat) (a_targets : Nat) (a_labels : Nat) (a_lengths : Nat) (a_letters : Nat) (a_distances : Nat) (a_longest : Nat) (a_lengthsTo : Nat) (a_lengthsFrom : Nat) (a_path : Nat) (a_output : Nat) (a_found : Nat) (a_keptLabels : Nat) (a_keptPairs : Nat) (a_input : Nat) (a_sides : Nat) (a_sideLengths : Nat) (a_newLengths : Nat) (a_newLetters : Nat) (a_newSources : Nat) (a_newTargets : Nat) (a_newLabels : Nat) (a_word : Nat) (a_failed : Nat) (a_sizes : Nat) (a_arrays : Nat) (a_savedLengths : Nat) (a_savedSources : Nat) (a_savedTargets : Nat) (a_savedLabels : Nat) (a_savedSideLengths : Nat) (a_savedLetters : Nat) (a_savedSides : Nat) (a_savedPairs : Nat) (r_distances : Nat → Nat) (objects : Int32) (steps : Int32) (firstStep : Int32) (secondStep : Int32) (pathLength : Int32) (outputLength : Int32) (foundSteps : Int32) (inputLength : Int32) (rules : Int32) (newObjects : Int32) (newSteps : Int32) (wordSize : Int32) (hasSnapshot : Int32) (savedObjects : Int32) (savedSteps : Int32) (savedRules : Int32) (distances : (Nat → Nat → Int32)) (sources : (Nat → Int32)) (targets : (Nat → Int32))   (out : (Nat → Nat → Int32)) (hf : f_X12_findDistances fu objects steps distances sources targets = some out) : xMet l yX12_findDistances wsX12_findDistances (rM 0 0) D G [.ref h] [[(h, .inr (11, [.ref a_pairs, .ref a_above, .int objects, .int steps, .ref a_sources, .ref a_targets, .ref a_labels, .ref a_lengths, .ref a_letters, .ref a_distances, .ref a_longest, .int firstStep, .int secondStep, .ref a_lengthsTo, .ref a_lengthsFrom, .ref a_path, .int pathLength, .ref a_output, .int outputLength, .ref a_found, .int foundSteps, .ref a_keptLabels, .ref a_keptPairs, .ref a_input, .int inputLength, .int rules, .ref a_sides, .ref a_sideLengths, .int newObjects, .int newSteps, .ref a_newLengths, .ref a_newLetters, .ref a_newSources, .ref a_newTargets, .ref a_newLabels, .ref a_word, .int wordSize, .ref a_failed, .ref a_sizes, .ref a_arrays, .int hasSnapshot, .int savedObjects, .int savedSteps, .int savedRules, .ref a_savedLengths, .ref a_savedSources, .ref a_savedTargets, .ref a_savedLabels, .ref a_savedSideLengths, .ref a_savedLetters, .ref a_savedSides, .ref a_savedPairs]))], [gO (G 4) a_distances r_distances 16], gI (G 0) r_distances 16 16 distances, [(a_sources, .inl (G 0, 32, .inl sources))], [(a_targets, .inl (G 0, 32, .inl targets))]] (xQv D [[(h, .inr (11, [.ref a_pairs, .ref a_above, .int objects, .int steps, .ref a_sources, .ref a_targets, .ref a_labels, .ref a_lengths, .ref a_letters, .ref a_distances, .ref a_longest, .int firstStep, .int secondStep, .ref a_lengthsTo, .ref a_lengthsFrom, .ref a_path, .int pathLength, .ref a_output, .int outputLength, .ref a_found, .int foundSteps, .ref a_keptLabels, .ref a_keptPairs, .ref a_input, .int inputLength, .int rules, .ref a_sides, .ref a_sideLengths, .int newObjects, .int newSteps, .ref a_newLengths, .ref a_newLetters, .ref a_newSources, .ref a_newTargets, .ref a_newLabels, .ref a_word, .int wordSize, .ref a_failed, .ref a_sizes, .ref a_arrays, .int hasSnapshot, .int savedObjects, .int savedSteps, .int savedRules, .ref a_savedLengths, .ref a_savedSources, .ref a_savedTargets, .ref a_savedLabels, .ref a_savedSideLengths, .ref a_savedLetters, .ref a_savedSides, .ref a_savedPairs]))], [gO (G 4) a_distances r_distances 16], gI (G 0) r_distances 16 16 out, [(a_sources, .inl (G 0, 32, .inl sources))], [(a_targets, .inl (G 0, 32, .inl targets))]]) := by
  refine x_ent (cc := cX12_findDistances) (maxL := 5) (by decide) rfl (Nat.le_of_ble_eq_true rfl) ?_
  intro p e s m blw meth c aa ls args Q H locs hQ hx hb hr hml hown hts hlocks hE hN hl hP hS
  have hown : s.vm.findClass RX12 = some m.cls := hown
  have hl : lv_has ls 5 [(0, .ref h)] := hl
  have L104 : ∀ (n_104 : Nat) (v1 : Int32) (distances : (Nat → Nat → Int32)) (H : Heap) (locs : List Loc) (ls : Array Slot), xW D aa [[(h, .inr (11, [.ref a_pairs, .ref a_above, .int objects, .int steps, .ref a_sources, .ref a_targets, .ref a_labels, .ref a_lengths, .ref a_letters, .ref a_distances, .ref a_longest, .int firstStep, .int secondStep, .ref a_lengthsTo, .ref a_lengthsFrom, .ref a_path, .int pathLength, .ref a_output, .int outputLength, .ref a_found, .int foundSteps, .ref a_keptLabels, .ref a_keptPairs, .ref a_input, .int inputLength, .int rules, .ref a_sides, .ref a_sideLengths, .int newObjects, .int newSteps, .ref a_newLengths, .ref a_newLetters, .ref a_newSources, .ref a_newTargets, .ref a_newLabels, .ref a_word, .int wordSize, .ref a_failed, .ref a_sizes, .ref a_arrays, .int hasSnapshot, .int savedObjects, .int savedSteps, .int savedRules, .ref a_savedLengths, .ref a_savedSources, .ref a_savedTargets, .ref a_savedLabels, .ref a_savedSideLengths, .ref a_savedLetters, .ref a_savedSides, .ref a_savedPairs]))], [gO (G 4) a_distances r_distances 16], gI (G 0) r_distances 16 16 distances, [(a_sources, .inl (G 0, 32, .inl sources))], [(a_targets, .inl (G 0, 32, .inl targets))]] H → va_S (xA aa) s.heap H locs → lv_has ls 5 [(0, .ref h), (1, .int v1)] → lp (τ := Int32 → (Nat → Nat → Int32) → Option ((Nat → Nat → Int32))) (fun _ _ => none) (f_X12_findDistances_L104 fu objects) n_104 v1 distances = some out → W p l e (rM 0 0) s m args blw meth c H locs 0 0 Q (F0 m 104 ls []) := by
    intro    n_104
    induction n_104 with
    | zero =>
      intro v1 distances H locs ls hP hS hl hf
      exact no_some hf
    | succ n_104 ih_104 =>
      intro v1 distances H locs ls hP hS hl hf
      have hf : f_X12_findDistances_L104 fu objects (lp (τ := Int32 → (Nat → Nat → Int32) → Option ((Nat → Nat → Int32))) (fun _ _ => none) (f_X12_findDistances_L104 fu objects) n_104) v1 distances = some out := hf
      have J197 : ∀ (v1 : Int32) (distances : (Nat → Nat → Int32)) (H : Heap) (locs : List Loc) (ls : Array Slot), xW D aa [[(h, .inr (11, [.ref a_pairs, .ref a_above, .int objects, .int steps, .ref a_sources, .ref a_targets, .ref a_labels, .ref a_lengths, .ref a_letters, .ref a_distances, .ref a_longest, .int firstStep, .int secondStep, .ref a_lengthsTo, .ref a_lengthsFrom, .ref a_path, .int pathLength, .ref a_output, .int outputLength, .ref a_found, .int foundSteps, .ref a_keptLabels, .ref a_keptPairs, .ref a_input, .int inputLength, .int rules, .ref a_sides, .ref a_sideLengths, .int newObjects, .int newSteps, .ref a_newLengths, .ref a_newLetters, .ref a_newSources, .ref a_newTargets, .ref a_newLabels, .ref a_word, .int wordSize, .ref a_failed, .ref a_sizes, .ref a_arrays, .int hasSnapshot, .int savedObjects, .int savedSteps, .int savedRules, .ref a_savedLengths, .ref a_savedSources, .ref a_savedTargets, .ref a_savedLabels, .ref a_savedSideLengths, .ref a_savedLetters, .ref a_savedSides, .ref a_savedPairs]))], [gO (G 4) a_distances r_distances 16], gI (G 0) r_distances 16 16 distances, [(a_sources, .inl (G 0, 32, .inl sources))], [(a_targets, .inl (G 0, 32, .inl targets))]] H → va_S (xA aa) s.heap H locs → lv_has ls 5 [(0, .ref h), (1, .int v1)] → f_X12_findDistances_J197 (lp (τ := Int32 → (Nat → Nat → Int32) → Option ((Nat → Nat → Int32))) (fun _ _ => none) (f_X12_findDistances_L104 fu objects) n_104) v1 distances = some out → W p l e (rM 0 0) s m args blw meth c H locs 0 0 Q (F0 m 197 ls []) := by
        intro v1 distances  H locs ls  hP hS hl hf
        obtain ⟨v1_197, e_v1_197, hf⟩ := lt_some hf
        refine lv_iinc (v := v1_197) (lv' := [(1, .int v1_197), (0, .ref h)]) hx hb dX12_findDistances_197 hl (k := 1) rfl (by rw [e_v1_197]; rfl) (by decide) rfl (fun ls hl => ?_)
        refine lv_goto (tgt := 104) hx hb dX12_findDistances_200 (by decide) ?_
        exact ih_104 v1_197 distances H locs ls hP hS (lv_sub hl [1, 0] rfl) hf
      have L114 : ∀ (v1 : Int32), ∀ (n_114 : Nat) (v2 : Int32) (distances : (Nat → Nat → Int32)) (H : Heap) (locs : List Loc) (ls : Array Slot), xW D aa [[(h, .inr (11, [.ref a_pairs, .ref a_above, .int objects, .int steps, .ref a_sources, .ref a_targets, .ref a_labels, .ref a_lengths, .ref a_letters, .ref a_distances, .ref a_longest, .int firstStep, .int secondStep, .ref a_lengthsTo, .ref a_lengthsFrom, .ref a_path, .int pathLength, .ref a_output, .int outputLength, .ref a_found, .int foundSteps, .ref a_keptLabels, .ref a_keptPairs, .ref a_input, .int inputLength, .int rules, .ref a_sides, .ref a_sideLengths, .int newObjects, .int newSteps, .ref a_newLengths, .ref a_newLetters, .ref a_newSources, .ref a_newTargets, .ref a_newLabels, .ref a_word, .int wordSize, .ref a_failed, .ref a_sizes, .ref a_arrays, .int hasSnapshot, .int savedObjects, .int savedSteps, .int savedRules, .ref a_savedLengths, .ref a_savedSources, .ref a_savedTargets, .ref a_savedLabels, .ref a_savedSideLengths, .ref a_savedLetters, .ref a_savedSides, .ref a_savedPairs]))], [gO (G 4) a_distances r_distances 16], gI (G 0) r_distances 16 16 distances, [(a_sources, .inl (G 0, 32, .inl sources))], [(a_targets, .inl (G 0, 32, .inl targets))]] H → va_S (xA aa) s.heap H locs → lv_has ls 5 [(0, .ref h), (1, .int v1), (2, .int v2)] → lp (τ := Int32 → (Nat → Nat → Int32) → Option ((Nat → Nat → Int32))) (fun _ _ => none) (f_X12_findDistances_L114 fu objects v1 (lp (τ := Int32 → (Nat → Nat → Int32) → Option ((Nat → Nat → Int32))) (fun _ _ => none) (f_X12_findDistances_L104 fu objects) n_104)) n_114 v2 distances = some out → W p l e (rM 0 0) s m args blw meth c H locs 0 0 Q (F0 m 114 ls []) := by
        intro v1   n_114
        induction n_114 with
        | zero =>
          intro v2 distances H locs ls hP hS hl hf
          exact no_some hf
        | succ n_114 ih_114 =>
          intro v2 distances H locs ls hP hS hl hf
          have hf : f_X12_findDistances_L114 fu objects v1 (lp (τ := Int32 → (Nat → Nat → Int32) → Option ((Nat → Nat → Int32))) (fun _ _ => none) (f_X12_findDistances_L104 fu objects) n_104) (lp (τ := Int32 → (Nat → Nat → Int32) → Option ((Nat → Nat → Int32))) (fun _ _ => none) (f_X12_findDistances_L114 fu objects v1 (lp (τ := Int32 → (Nat → Nat → Int32) → Option ((Nat → Nat → Int32))) (fun _ _ => none) (f_X12_findDistances_L104 fu objects) n_104)) n_114) v2 distances = some out := hf
          have J191 : ∀ (v2 : Int32) (distances : (Nat → Nat → Int32)) (H : Heap) (locs : List Loc) (ls : Array Slot), xW D aa [[(h, .inr (11, [.ref a_pairs, .ref a_above, .int objects, .int steps, .ref a_sources, .ref a_targets, .ref a_labels, .ref a_lengths, .ref a_letters, .ref a_distances, .ref a_longest, .int firstStep, .int secondStep, .ref a_lengthsTo, .ref a_lengthsFrom, .ref a_path, .int pathLength, .ref a_output, .int outputLength, .ref a_found, .int foundSteps, .ref a_keptLabels, .ref a_keptPairs, .ref a_input, .int inputLength, .int rules, .ref a_sides, .ref a_sideLengths, .int newObjects, .int newSteps, .ref a_newLengths, .ref a_newLetters, .ref a_newSources, .ref a_newTargets, .ref a_newLabels, .ref a_word, .int wordSize, .ref a_failed, .ref a_sizes, .ref a_arrays, .int hasSnapshot, .int savedObjects, .int savedSteps, .int savedRules, .ref a_savedLengths, .ref a_savedSources, .ref a_savedTargets, .ref a_savedLabels, .ref a_savedSideLengths, .ref a_savedLetters, .ref a_savedSides, .ref a_savedPairs]))], [gO (G 4) a_distances r_distances 16], gI (G 0) r_distances 16 16 distances, [(a_sources, .inl (G 0, 32, .inl sources))], [(a_targets, .inl (G 0, 32, .inl targets))]] H → va_S (xA aa) s.heap H locs → lv_has ls 5 [(0, .ref h), (1, .int v1), (2, .int v2)] → f_X12_findDistances_J191 (lp (τ := Int32 → (Nat → Nat → Int32) → Option ((Nat → Nat → Int32))) (fun _ _ => none) (f_X12_findDistances_L114 fu objects v1 (lp (τ := Int32 → (Nat → Nat → Int32) → Option ((Nat → Nat → Int32))) (fun _ _ => none) (f_X12_findDistances_L104 fu objects) n_104)) n_114) v2 distances = some out → W p l e (rM 0 0) s m args blw meth c H locs 0 0 Q (F0 m 191 ls []) := by
            intro v2 distances  H locs ls  hP hS hl hf
            obtain ⟨v2_191, e_v2_191, hf⟩ := lt_some hf
            refine lv_iinc (v := v2_191) (lv' := [(2, .int v2_191), (0, .ref h), (1, .int v1)]) hx hb dX12_findDistances_191 hl (k := 2) rfl (by rw [e_v2_191]; rfl) (by decide) rfl (fun ls hl => ?_)
            refine lv_goto (tgt := 114) hx hb dX12_findDistances_194 (by decide) ?_
            exact ih_114 v2_191 distances H locs ls hP hS (lv_sub hl [1, 2, 0] rfl) hf
          have L124 : ∀ (v2 : Int32), ∀ (n_124 : Nat) (v3 : Int32) (distances : (Nat → Nat → Int32)) (H : Heap) (locs : List Loc) (ls : Array Slot), xW D aa [[(h, .inr (11, [.ref a_pairs, .ref a_above, .int objects, .int steps, .ref a_sources, .ref a_targets, .ref a_labels, .ref a_lengths, .ref a_letters, .ref a_distances, .ref a_longest, .int firstStep, .int secondStep, .ref a_lengthsTo, .ref a_lengthsFrom, .ref a_path, .int pathLength, .ref a_output, .int outputLength, .ref a_found, .int foundSteps, .ref a_keptLabels, .ref a_keptPairs, .ref a_input, .int inputLength, .int rules, .ref a_sides, .ref a_sideLengths, .int newObjects, .int newSteps, .ref a_newLengths, .ref a_newLetters, .ref a_newSources, .ref a_newTargets, .ref a_newLabels, .ref a_word, .int wordSize, .ref a_failed, .ref a_sizes, .ref a_arrays, .int hasSnapshot, .int savedObjects, .int savedSteps, .int savedRules, .ref a_savedLengths, .ref a_savedSources, .ref a_savedTargets, .ref a_savedLabels, .ref a_savedSideLengths, .ref a_savedLetters, .ref a_savedSides, .ref a_savedPairs]))], [gO (G 4) a_distances r_distances 16], gI (G 0) r_distances 16 16 distances, [(a_sources, .inl (G 0, 32, .inl sources))], [(a_targets, .inl (G 0, 32, .inl targets))]] H → va_S (xA aa) s.heap H locs → lv_has ls 5 [(0, .ref h), (1, .int v1), (2, .int v2), (3, .int v3)] → lp (τ := Int32 → (Nat → Nat → Int32) → Option ((Nat → Nat → Int32))) (fun _ _ => none) (f_X12_findDistances_L124 objects v1 v2 (lp (τ := Int32 → (Nat → Nat → Int32) → Option ((Nat → Nat → Int32))) (fun _ _ => none) (f_X12_findDistances_L114 fu objects v1 (lp (τ := Int32 → (Nat → Nat → Int32) → Option ((Nat → Nat → Int32))) (fun _ _ => none) (f_X12_findDistances_L104 fu objects) n_104)) n_114)) n_124 v3 distances = some out → W p l e (rM 0 0) s m args blw meth c H locs 0 0 Q (F0 m 124 ls []) := by
            intro v2   n_124
            induction n_124 with
            | zero =>
              intro v3 distances H locs ls hP hS hl hf
              exact no_some hf
            | succ n_124 ih_124 =>
              intro v3 distances H locs ls hP hS hl hf
              have hf : f_X12_findDistances_L124 objects v1 v2 (lp (τ := Int32 → (Nat → Nat → Int32) → Option ((Nat → Nat → Int32))) (fun _ _ => none) (f_X12_findDistances_L114 fu objects v1 (lp (τ := Int32 → (Nat → Nat → Int32) → Option ((Nat → Nat → Int32))) (fun _ _ => none) (f_X12_findDistances_L104 fu objects) n_104)) n_114) (lp (τ := Int32 → (Nat → Nat → Int32) → Option ((Nat → Nat → Int32))) (fun _ _ => none) (f_X12_findDistances_L124 objects v1 v2 (lp (τ := Int32 → (Nat → Nat → Int32) → Option ((Nat → Nat → Int32))) (fun _ _ => none) (f_X12_findDistances_L114 fu objects v1 (lp (τ := Int32 → (Nat → Nat → Int32) → Option ((Nat → Nat → Int32))) (fun _ _ => none) (f_X12_findDistances_L104 fu objects) n_104)) n_114)) n_124) v3 distances = some out := hf
              have J184 : ∀ (t1 : Int32) (t2 : Int32) (v3 : Int32) (distances : (Nat → Nat → Int32)) (t0_row : Int32) (H : Heap) (locs : List Loc) (ls : Array Slot), vp_in t0_row 16 → xW D aa [[(h, .inr (11, [.ref a_pairs, .ref a_above, .int objects, .int steps, .ref a_sources, .ref a_targets, .ref a_labels, .ref a_lengths, .ref a_letters, .ref a_distances, .ref a_longest, .int firstStep, .int secondStep, .ref a_lengthsTo, .ref a_lengthsFrom, .ref a_path, .int pathLength, .ref a_output, .int outputLength, .ref a_found, .int foundSteps, .ref a_keptLabels, .ref a_keptPairs, .ref a_input, .int inputLength, .int rules, .ref a_sides, .ref a_sideLengths, .int newObjects, .int newSteps, .ref a_newLengths, .ref a_newLetters, .ref a_newSources, .ref a_newTargets, .ref a_newLabels, .ref a_word, .int wordSize, .ref a_failed, .ref a_sizes, .ref a_arrays, .int hasSnapshot, .int savedObjects, .int savedSteps, .int savedRules, .ref a_savedLengths, .ref a_savedSources, .ref a_savedTargets, .ref a_savedLabels, .ref a_savedSideLengths, .ref a_savedLetters, .ref a_savedSides, .ref a_savedPairs]))], [gO (G 4) a_distances r_distances 16], gI (G 0) r_distances 16 16 distances, [(a_sources, .inl (G 0, 32, .inl sources))], [(a_targets, .inl (G 0, 32, .inl targets))]] H → va_S (xA aa) s.heap H locs → lv_has ls 5 [(0, .ref h), (1, .int v1), (2, .int v2), (3, .int v3)] → f_X12_findDistances_J184 t0_row (lp (τ := Int32 → (Nat → Nat → Int32) → Option ((Nat → Nat → Int32))) (fun _ _ => none) (f_X12_findDistances_L124 objects v1 v2 (lp (τ := Int32 → (Nat → Nat → Int32) → Option ((Nat → Nat → Int32))) (fun _ _ => none) (f_X12_findDistances_L114 fu objects v1 (lp (τ := Int32 → (Nat → Nat → Int32) → Option ((Nat → Nat → Int32))) (fun _ _ => none) (f_X12_findDistances_L104 fu objects) n_104)) n_114)) n_124) t1 t2 v3 distances = some out → W p l e (rM 0 0) s m args blw meth c H locs 0 0 Q (F0 m 184 ls [.int t2, .int t1, .ref (r_distances t0_row.toNatClampNeg)]) := by
                intro t1 t2 v3 distances t0_row H locs ls ht0_row hP hS hl hf
                obtain ⟨hi, hf⟩ := ck_some hf
                obtain ⟨distances_184, e_distances_184, hf⟩ := lt_some hf
                refine x_iast2 (I' := [[(h, .inr (11, [.ref a_pairs, .ref a_above, .int objects, .int steps, .ref a_sources, .ref a_targets, .ref a_labels, .ref a_lengths, .ref a_letters, .ref a_distances, .ref a_longest, .int firstStep, .int secondStep, .ref a_lengthsTo, .ref a_lengthsFrom, .ref a_path, .int pathLength, .ref a_output, .int outputLength, .ref a_found, .int foundSteps, .ref a_keptLabels, .ref a_keptPairs, .ref a_input, .int inputLength, .int rules, .ref a_sides, .ref a_sideLengths, .int newObjects, .int newSteps, .ref a_newLengths, .ref a_newLetters, .ref a_newSources, .ref a_newTargets, .ref a_newLabels, .ref a_word, .int wordSize, .ref a_failed, .ref a_sizes, .ref a_arrays, .int hasSnapshot, .int savedObjects, .int savedSteps, .int savedRules, .ref a_savedLengths, .ref a_savedSources, .ref a_savedTargets, .ref a_savedLabels, .ref a_savedSideLengths, .ref a_savedLetters, .ref a_savedSides, .ref a_savedPairs]))], [gO (G 4) a_distances r_distances 16], gI (G 0) r_distances 16 16 distances_184, [(a_sources, .inl (G 0, 32, .inl sources))], [(a_targets, .inl (G 0, 32, .inl targets))]]) hx hb hE hP hN hS 2 rfl ht0_row hi e_distances_184 rfl dX12_findDistances_184 (fun H locs hP hS => ?_)
                obtain ⟨v3_185, e_v3_185, hf⟩ := lt_some hf
                refine lv_iinc (v := v3_185) (lv' := [(3, .int v3_185), (0, .ref h), (1, .int v1), (2, .int v2)]) hx hb dX12_findDistances_185 hl (k := 3) rfl (by rw [e_v3_185]; rfl) (by decide) rfl (fun ls hl => ?_)
                refine lv_goto (tgt := 124) hx hb dX12_findDistances_188 (by decide) ?_
                exact ih_124 v3_185 distances_184 H locs ls hP hS (lv_sub hl [1, 2, 3, 0] rfl) hf
              refine lv_iload_n hx hb dX12_findDistances_124 rfl (lv_at hl 3 rfl) ?_
              refine lv_aload_n hx hb dX12_findDistances_125 rfl (lv_at hl 0 rfl) ?_
              refine x_get hx hb hts u_X12_findDistances_X12 hown hE hP 0 rfl rfl 2 (by decide) (hts (.fieldLink RX12 132 "DecreasingDiagramsModel" "objects" "I") (List.mem_of_getElem? (i := 1) rfl)) rfl dX12_findDistances_126 ?_
              refine lv_icmp_ge (tgt := 191) hx hb dX12_findDistances_129 (by decide) (fun c_129 => ?_) (fun c_129 => ?_)
              · have hf := it_pos c_129 hf
                exact J191 v2 distances  H locs ls  hP hS (lv_sub hl [0, 1, 2] rfl) hf
              · have hf := it_neg c_129 hf
                refine lv_aload_n hx hb dX12_findDistances_132 rfl (lv_at hl 0 rfl) ?_
                refine x_get hx hb hts u_X12_findDistances_X12 hown hE hP 0 rfl rfl 9 (by decide) (hts (.fieldLink RX12 35 "DecreasingDiagramsModel" "distances" "[[I") (List.mem_of_getElem? (i := 2) rfl)) rfl dX12_findDistances_133 ?_
                refine lv_iload_n hx hb dX12_findDistances_136 rfl (lv_at hl 2 rfl) ?_
                obtain ⟨hq_137, hf⟩ := ck_some hf
                refine x_aald hx hb hE hP 1 4 rfl rfl hq_137 dX12_findDistances_137 ?_
                refine lv_iload_n hx hb dX12_findDistances_138 rfl (lv_at hl 1 rfl) ?_
                obtain ⟨hi, hf⟩ := ck_some hf
                refine x_iald2 hx hb hE hP 2 rfl hq_137 hi dX12_findDistances_139 ?_
                refine lv_aload_n hx hb dX12_findDistances_140 rfl (lv_at hl 0 rfl) ?_
                refine x_get hx hb hts u_X12_findDistances_X12 hown hE hP 0 rfl rfl 9 (by decide) (hts (.fieldLink RX12 35 "DecreasingDiagramsModel" "distances" "[[I") (List.mem_of_getElem? (i := 2) rfl)) rfl dX12_findDistances_141 ?_
                refine lv_iload_n hx hb dX12_findDistances_144 rfl (lv_at hl 1 rfl) ?_
                obtain ⟨hq_145, hf⟩ := ck_some hf
                refine x_aald hx hb hE hP 1 4 rfl rfl hq_145 dX12_findDistances_145 ?_
                refine lv_iload_n hx hb dX12_findDistances_146 rfl (lv_at hl 3 rfl) ?_
                obtain ⟨hi, hf⟩ := ck_some hf
                refine x_iald2 hx hb hE hP 2 rfl hq_145 hi dX12_findDistances_147 ?_
                refine lv_iadd hx hb dX12_findDistances_148 ?_
                obtain ⟨v4_149, e_v4_149, hf⟩ := lt_some hf
                refine x_istore (v := v4_149) (lv' := [(4, .int v4_149), (0, .ref h), (1, .int v1), (2, .int v2), (3, .int v3)]) hx hb dX12_findDistances_149 e_v4_149 hl (by decide) rfl (fun ls hl => ?_)
                refine lv_aload_n hx hb dX12_findDistances_151 rfl (lv_at hl 1 rfl) ?_
                refine x_get hx hb hts u_X12_findDistances_X12 hown hE hP 0 rfl rfl 9 (by decide) (hts (.fieldLink RX12 35 "DecreasingDiagramsModel" "distances" "[[I") (List.mem_of_getElem? (i := 2) rfl)) rfl dX12_findDistances_152 ?_
                refine lv_iload_n hx hb dX12_findDistances_155 rfl (lv_at hl 3 rfl) ?_
                obtain ⟨hq_156, hf⟩ := ck_some hf
                refine x_aald hx hb hE hP 1 4 rfl rfl hq_156 dX12_findDistances_156 ?_
                refine lv_iload_n hx hb dX12_findDistances_157 rfl (lv_at hl 4 rfl) ?_
                refine lv_iload hx hb dX12_findDistances_158 (lv_at hl 0 rfl) ?_
                refine lv_aload_n hx hb dX12_findDistances_160 rfl (lv_at hl 1 rfl) ?_
                refine x_get hx hb hts u_X12_findDistances_X12 hown hE hP 0 rfl rfl 9 (by decide) (hts (.fieldLink RX12 35 "DecreasingDiagramsModel" "distances" "[[I") (List.mem_of_getElem? (i := 2) rfl)) rfl dX12_findDistances_161 ?_
                refine lv_iload_n hx hb dX12_findDistances_164 rfl (lv_at hl 3 rfl) ?_
                obtain ⟨hq_165, hf⟩ := ck_some hf
                refine x_aald hx hb hE hP 1 4 rfl rfl hq_165 dX12_findDistances_165 ?_
                refine lv_iload_n hx hb dX12_findDistances_166 rfl (lv_at hl 4 rfl) ?_
                obtain ⟨hi, hf⟩ := ck_some hf
                refine x_iald2 hx hb hE hP 2 rfl hq_165 hi dX12_findDistances_167 ?_
                refine lv_icmp_ge (tgt := 176) hx hb dX12_findDistances_168 (by decide) (fun c_168 => ?_) (fun c_168 => ?_)
                · have hf := it_pos c_168 hf
                  refine lv_aload_n hx hb dX12_findDistances_176 rfl (lv_at hl 1 rfl) ?_
                  refine x_get hx hb hts u_X12_findDistances_X12 hown hE hP 0 rfl rfl 9 (by decide) (hts (.fieldLink RX12 35 "DecreasingDiagramsModel" "distances" "[[I") (List.mem_of_getElem? (i := 2) rfl)) rfl dX12_findDistances_177 ?_
                  refine lv_iload_n hx hb dX12_findDistances_180 rfl (lv_at hl 3 rfl) ?_
                  obtain ⟨hq_181, hf⟩ := ck_some hf
                  refine x_aald hx hb hE hP 1 4 rfl rfl hq_181 dX12_findDistances_181 ?_
                  refine lv_iload_n hx hb dX12_findDistances_182 rfl (lv_at hl 4 rfl) ?_
                  obtain ⟨hi, hf⟩ := ck_some hf
                  refine x_iald2 hx hb hE hP 2 rfl hq_181 hi dX12_findDistances_183 ?_
                  exact J184 v3 (distances v2.toNatClampNeg v3.toNatClampNeg) v3 distances v2 H locs ls hq_156 hP hS (lv_sub hl [1, 2, 3, 4] rfl) hf
                · have hf := it_neg c_168 hf
                  refine lv_iload hx hb dX12_findDistances_171 (lv_at hl 0 rfl) ?_
                  refine lv_goto (tgt := 184) hx hb dX12_findDistances_173 (by decide) ?_
                  exact J184 v3 v4_149 v3 distances v2 H locs ls hq_156 hP hS (lv_sub hl [1, 2, 3, 4] rfl) hf
          refine lv_iload_n hx hb dX12_findDistances_114 rfl (lv_at hl 2 rfl) ?_
          refine lv_aload_n hx hb dX12_findDistances_115 rfl (lv_at hl 0 rfl) ?_
          refine x_get hx hb hts u_X12_findDistances_X12 hown hE hP 0 rfl rfl 2 (by decide) (hts (.fieldLink RX12 132 "DecreasingDiagramsModel" "objects" "I") (List.mem_of_getElem? (i := 1) rfl)) rfl dX12_findDistances_116 ?_
          refine lv_icmp_ge (tgt := 197) hx hb dX12_findDistances_119 (by decide) (fun c_119 => ?_) (fun c_119 => ?_)
          · have hf := it_pos c_119 hf
            exact J197 v1 distances  H locs ls  hP hS (lv_sub hl [0, 1] rfl) hf
          · have hf := it_neg c_119 hf
            refine lv_iconst (v := 0) hx hb dX12_findDistances_122 (by decide) ?_
            obtain ⟨v3_123, e_v3_123, hf⟩ := lt_some hf
            refine x_istore_n (v := v3_123) (lv' := [(3, .int v3_123), (0, .ref h), (1, .int v1), (2, .int v2)]) hx hb dX12_findDistances_123 e_v3_123 rfl hl (by decide) rfl (fun ls hl => ?_)
            exact L124 v2   fu v3_123 distances H locs ls hP hS (lv_sub hl [1, 2, 3, 0] rfl) hf
      refine lv_iload_n hx hb dX12_findDistances_104 rfl (lv_at hl 1 rfl) ?_
      refine lv_aload_n hx hb dX12_findDistances_105 rfl (lv_at hl 0 rfl) ?_
      refine x_get hx hb hts u_X12_findDistances_X12 hown hE hP 0 rfl rfl 2 (by decide) (hts (.fieldLink RX12 132 "DecreasingDiagramsModel" "objects" "I") (List.mem_of_getElem? (i := 1) rfl)) rfl dX12_findDistances_106 ?_
      refine lv_icmp_ge (tgt := 203) hx hb dX12_findDistances_109 (by decide) (fun c_109 => ?_) (fun c_109 => ?_)
      · have hf := it_pos c_109 hf
        have hf := Option.some.inj hf
        rewrite [← hQ, ← hf]
        exact x_vret hx hb hr hlocks hP hS dX12_findDistances_203
      · have hf := it_neg c_109 hf
        refine lv_iconst (v := 0) hx hb dX12_findDistances_112 (by decide) ?_
        obtain ⟨v2_113, e_v2_113, hf⟩ := lt_some hf
        refine x_istore_n (v := v2_113) (lv' := [(2, .int v2_113), (0, .ref h), (1, .int v1)]) hx hb dX12_findDistances_113 e_v2_113 rfl hl (by decide) rfl (fun ls hl => ?_)
        exact L114 v1   fu v2_113 distances H locs ls hP hS (lv_sub hl [1, 2, 0] rfl) hf
  have J102 : ∀ (distances : (Nat → Nat → Int32)) (H : Heap) (locs : List Loc) (ls : Array Slot), xW D aa [[(h, .inr (11, [.ref a_pairs, .ref a_above, .int objects, .int steps, .ref a_sources, .ref a_targets, .ref a_labels, .ref a_lengths, .ref a_letters, .ref a_distances, .ref a_longest, .int firstStep, .int secondStep, .ref a_lengthsTo, .ref a_lengthsFrom, .ref a_path, .int pathLength, .ref a_output, .int outputLength, .ref a_found, .int foundSteps, .ref a_keptLabels, .ref a_keptPairs, .ref a_input, .int inputLength, .int rules, .ref a_sides, .ref a_sideLengths, .int newObjects, .int newSteps, .ref a_newLengths, .ref a_newLetters, .ref a_newSources, .ref a_newTargets, .ref a_newLabels, .ref a_word, .int wordSize, .ref a_failed, .ref a_sizes, .ref a_arrays, .int hasSnapshot, .int savedObjects, .int savedSteps, .int savedRules, .ref a_savedLengths, .ref a_savedSources, .ref a_savedTargets, .ref a_savedLabels, .ref a_savedSideLengths, .ref a_savedLetters, .ref a_savedSides, .ref a_savedPairs]))], [gO (G 4) a_distances r_distances 16], gI (G 0) r_distances 16 16 distances, [(a_sources, .inl (G 0, 32, .inl sources))], [(a_targets, .inl (G 0, 32, .inl targets))]] H → va_S (xA aa) s.heap H locs → lv_has ls 5 [(0, .ref h)] → f_X12_findDistances_J102 fu objects distances = some out → W p l e (rM 0 0) s m args blw meth c H locs 0 0 Q (F0 m 102 ls []) := by
    intro distances  H locs ls  hP hS hl hf
    refine lv_iconst (v := 0) hx hb dX12_findDistances_102 (by decide) ?_
    obtain ⟨v1_103, e_v1_103, hf⟩ := lt_some hf
    refine x_istore_n (v := v1_103) (lv' := [(1, .int v1_103), (0, .ref h)]) hx hb dX12_findDistances_103 e_v1_103 rfl hl (by decide) rfl (fun ls hl => ?_)
    exact L104    fu v1_103 distances H locs ls hP hS (lv_sub hl [1, 0] rfl) hf
  have L54 : ∀ (n_54 : Nat) (v1 : Int32) (distances : (Nat → Nat → Int32)) (H : Heap) (locs : List Loc) (ls : Array Slot), xW D aa [[(h, .inr (11, [.ref a_pairs, .ref a_above, .int objects, .int steps, .ref a_sources, .ref a_targets, .ref a_labels, .ref a_lengths, .ref a_letters, .ref a_distances, .ref a_longest, .int firstStep, .int secondStep, .ref a_lengthsTo, .ref a_lengthsFrom, .ref a_path, .int pathLength, .ref a_output, .int outputLength, .ref a_found, .int foundSteps, .ref a_keptLabels, .ref a_keptPairs, .ref a_input, .int inputLength, .int rules, .ref a_sides, .ref a_sideLengths, .int newObjects, .int newSteps, .ref a_newLengths, .ref a_newLetters, .ref a_newSources, .ref a_newTargets, .ref a_newLabels, .ref a_word, .int wordSize, .ref a_failed, .ref a_sizes, .ref a_arrays, .int hasSnapshot, .int savedObjects, .int savedSteps, .int savedRules, .ref a_savedLengths, .ref a_savedSources, .ref a_savedTargets, .ref a_savedLabels, .ref a_savedSideLengths, .ref a_savedLetters, .ref a_savedSides, .ref a_savedPairs]))], [gO (G 4) a_distances r_distances 16], gI (G 0) r_distances 16 16 distances, [(a_sources, .inl (G 0, 32, .inl sources))], [(a_targets, .inl (G 0, 32, .inl targets))]] H → va_S (xA aa) s.heap H locs → lv_has ls 5 [(0, .ref h), (1, .int v1)] → lp (τ := Int32 → (Nat → Nat → Int32) → Option ((Nat → Nat → Int32))) (fun _ _ => none) (f_X12_findDistances_L54 fu objects steps sources targets) n_54 v1 distances = some out → W p l e (rM 0 0) s m args blw meth c H locs 0 0 Q (F0 m 54 ls []) := by
    intro    n_54
    induction n_54 with
    | zero =>
      intro v1 distances H locs ls hP hS hl hf
      exact no_some hf
    | succ n_54 ih_54 =>
      intro v1 distances H locs ls hP hS hl hf
      have hf : f_X12_findDistances_L54 fu objects steps sources targets (lp (τ := Int32 → (Nat → Nat → Int32) → Option ((Nat → Nat → Int32))) (fun _ _ => none) (f_X12_findDistances_L54 fu objects steps sources targets) n_54) v1 distances = some out := hf
      have J96 : ∀ (v1 : Int32) (distances : (Nat → Nat → Int32)) (H : Heap) (locs : List Loc) (ls : Array Slot), xW D aa [[(h, .inr (11, [.ref a_pairs, .ref a_above, .int objects, .int steps, .ref a_sources, .ref a_targets, .ref a_labels, .ref a_lengths, .ref a_letters, .ref a_distances, .ref a_longest, .int firstStep, .int secondStep, .ref a_lengthsTo, .ref a_lengthsFrom, .ref a_path, .int pathLength, .ref a_output, .int outputLength, .ref a_found, .int foundSteps, .ref a_keptLabels, .ref a_keptPairs, .ref a_input, .int inputLength, .int rules, .ref a_sides, .ref a_sideLengths, .int newObjects, .int newSteps, .ref a_newLengths, .ref a_newLetters, .ref a_newSources, .ref a_newTargets, .ref a_newLabels, .ref a_word, .int wordSize, .ref a_failed, .ref a_sizes, .ref a_arrays, .int hasSnapshot, .int savedObjects, .int savedSteps, .int savedRules, .ref a_savedLengths, .ref a_savedSources, .ref a_savedTargets, .ref a_savedLabels, .ref a_savedSideLengths, .ref a_savedLetters, .ref a_savedSides, .ref a_savedPairs]))], [gO (G 4) a_distances r_distances 16], gI (G 0) r_distances 16 16 distances, [(a_sources, .inl (G 0, 32, .inl sources))], [(a_targets, .inl (G 0, 32, .inl targets))]] H → va_S (xA aa) s.heap H locs → lv_has ls 5 [(0, .ref h), (1, .int v1)] → f_X12_findDistances_J96 (lp (τ := Int32 → (Nat → Nat → Int32) → Option ((Nat → Nat → Int32))) (fun _ _ => none) (f_X12_findDistances_L54 fu objects steps sources targets) n_54) v1 distances = some out → W p l e (rM 0 0) s m args blw meth c H locs 0 0 Q (F0 m 96 ls []) := by
        intro v1 distances  H locs ls  hP hS hl hf
        obtain ⟨v1_96, e_v1_96, hf⟩ := lt_some hf
        refine lv_iinc (v := v1_96) (lv' := [(1, .int v1_96), (0, .ref h)]) hx hb dX12_findDistances_96 hl (k := 1) rfl (by rw [e_v1_96]; rfl) (by decide) rfl (fun ls hl => ?_)
        refine lv_goto (tgt := 54) hx hb dX12_findDistances_99 (by decide) ?_
        exact ih_54 v1_96 distances H locs ls hP hS (lv_sub hl [1, 0] rfl) hf
      refine lv_iload_n hx hb dX12_findDistances_54 rfl (lv_at hl 1 rfl) ?_
      refine lv_aload_n hx hb dX12_findDistances_55 rfl (lv_at hl 0 rfl) ?_
      refine x_get hx hb hts u_X12_findDistances_X12 hown hE hP 0 rfl rfl 3 (by decide) (hts (.fieldLink RX12 135 "DecreasingDiagramsModel" "steps" "I") (List.mem_of_getElem? (i := 3) rfl)) rfl dX12_findDistances_56 ?_
      refine lv_icmp_ge (tgt := 102) hx hb dX12_findDistances_59 (by decide) (fun c_59 => ?_) (fun c_59 => ?_)
      · have hf := it_pos c_59 hf
        exact J102 distances  H locs ls  hP hS (lv_sub hl [0] rfl) hf
      · have hf := it_neg c_59 hf
        refine lv_aload_n hx hb dX12_findDistances_62 rfl (lv_at hl 0 rfl) ?_
        refine x_get hx hb hts u_X12_findDistances_X12 hown hE hP 0 rfl rfl 4 (by decide) (hts (.fieldLink RX12 17 "DecreasingDiagramsModel" "sources" "[I") (List.mem_of_getElem? (i := 4) rfl)) rfl dX12_findDistances_63 ?_
        refine lv_iload_n hx hb dX12_findDistances_66 rfl (lv_at hl 1 rfl) ?_
        obtain ⟨hi, hf⟩ := ck_some hf
        refine x_iald hx hb hE hP 3 rfl hi dX12_findDistances_67 ?_
        refine lv_aload_n hx hb dX12_findDistances_68 rfl (lv_at hl 0 rfl) ?_
        refine x_get hx hb hts u_X12_findDistances_X12 hown hE hP 0 rfl rfl 5 (by decide) (hts (.fieldLink RX12 21 "DecreasingDiagramsModel" "targets" "[I") (List.mem_of_getElem? (i := 5) rfl)) rfl dX12_findDistances_69 ?_
        refine lv_iload_n hx hb dX12_findDistances_72 rfl (lv_at hl 1 rfl) ?_
        obtain ⟨hi, hf⟩ := ck_some hf
        refine x_iald hx hb hE hP 4 rfl hi dX12_findDistances_73 ?_
        refine lv_icmp_eq (tgt := 96) hx hb dX12_findDistances_74 (by decide) (fun c_74 => ?_) (fun c_74 => ?_)
        · have hf := it_pos c_74 hf
          exact J96 v1 distances  H locs ls  hP hS (lv_sub hl [0, 1] rfl) hf
        · have hf := it_neg c_74 hf
          refine lv_aload_n hx hb dX12_findDistances_77 rfl (lv_at hl 0 rfl) ?_
          refine x_get hx hb hts u_X12_findDistances_X12 hown hE hP 0 rfl rfl 9 (by decide) (hts (.fieldLink RX12 35 "DecreasingDiagramsModel" "distances" "[[I") (List.mem_of_getElem? (i := 2) rfl)) rfl dX12_findDistances_78 ?_
          refine lv_aload_n hx hb dX12_findDistances_81 rfl (lv_at hl 0 rfl) ?_
          refine x_get hx hb hts u_X12_findDistances_X12 hown hE hP 0 rfl rfl 4 (by decide) (hts (.fieldLink RX12 17 "DecreasingDiagramsModel" "sources" "[I") (List.mem_of_getElem? (i := 4) rfl)) rfl dX12_findDistances_82 ?_
          refine lv_iload_n hx hb dX12_findDistances_85 rfl (lv_at hl 1 rfl) ?_
          obtain ⟨hi, hf⟩ := ck_some hf
          refine x_iald hx hb hE hP 3 rfl hi dX12_findDistances_86 ?_
          obtain ⟨hq_87, hf⟩ := ck_some hf
          refine x_aald hx hb hE hP 1 4 rfl rfl hq_87 dX12_findDistances_87 ?_
          refine lv_aload_n hx hb dX12_findDistances_88 rfl (lv_at hl 0 rfl) ?_
          refine x_get hx hb hts u_X12_findDistances_X12 hown hE hP 0 rfl rfl 5 (by decide) (hts (.fieldLink RX12 21 "DecreasingDiagramsModel" "targets" "[I") (List.mem_of_getElem? (i := 5) rfl)) rfl dX12_findDistances_89 ?_
          refine lv_iload_n hx hb dX12_findDistances_92 rfl (lv_at hl 1 rfl) ?_
          obtain ⟨hi, hf⟩ := ck_some hf
          refine x_iald hx hb hE hP 4 rfl hi dX12_findDistances_93 ?_
          refine lv_iconst (v := 1) hx hb dX12_findDistances_94 (by decide) ?_
          obtain ⟨hi, hf⟩ := ck_some hf
          obtain ⟨distances_95, e_distances_95, hf⟩ := lt_some hf
          refine x_iast2 (I' := [[(h, .inr (11, [.ref a_pairs, .ref a_above, .int objects, .int steps, .ref a_sources, .ref a_targets, .ref a_labels, .ref a_lengths, .ref a_letters, .ref a_distances, .ref a_longest, .int firstStep, .int secondStep, .ref a_lengthsTo, .ref a_lengthsFrom, .ref a_path, .int pathLength, .ref a_output, .int outputLength, .ref a_found, .int foundSteps, .ref a_keptLabels, .ref a_keptPairs, .ref a_input, .int inputLength, .int rules, .ref a_sides, .ref a_sideLengths, .int newObjects, .int newSteps, .ref a_newLengths, .ref a_newLetters, .ref a_newSources, .ref a_newTargets, .ref a_newLabels, .ref a_word, .int wordSize, .ref a_failed, .ref a_sizes, .ref a_arrays, .int hasSnapshot, .int savedObjects, .int savedSteps, .int savedRules, .ref a_savedLengths, .ref a_savedSources, .ref a_savedTargets, .ref a_savedLabels, .ref a_savedSideLengths, .ref a_savedLetters, .ref a_savedSides, .ref a_savedPairs]))], [gO (G 4) a_distances r_distances 16], gI (G 0) r_distances 16 16 distances_95, [(a_sources, .inl (G 0, 32, .inl sources))], [(a_targets, .inl (G 0, 32, .inl targets))]]) hx hb hE hP hN hS 2 rfl hq_87 hi e_distances_95 rfl dX12_findDistances_95 (fun H locs hP hS => ?_)
          exact J96 v1 distances_95  H locs ls  hP hS (lv_sub hl [0, 1] rfl) hf
  have J52 : ∀ (distances : (Nat → Nat → Int32)) (H : Heap) (locs : List Loc) (ls : Array Slot), xW D aa [[(h, .inr (11, [.ref a_pairs, .ref a_above, .int objects, .int steps, .ref a_sources, .ref a_targets, .ref a_labels, .ref a_lengths, .ref a_letters, .ref a_distances, .ref a_longest, .int firstStep, .int secondStep, .ref a_lengthsTo, .ref a_lengthsFrom, .ref a_path, .int pathLength, .ref a_output, .int outputLength, .ref a_found, .int foundSteps, .ref a_keptLabels, .ref a_keptPairs, .ref a_input, .int inputLength, .int rules, .ref a_sides, .ref a_sideLengths, .int newObjects, .int newSteps, .ref a_newLengths, .ref a_newLetters, .ref a_newSources, .ref a_newTargets, .ref a_newLabels, .ref a_word, .int wordSize, .ref a_failed, .ref a_sizes, .ref a_arrays, .int hasSnapshot, .int savedObjects, .int savedSteps, .int savedRules, .ref a_savedLengths, .ref a_savedSources, .ref a_savedTargets, .ref a_savedLabels, .ref a_savedSideLengths, .ref a_savedLetters, .ref a_savedSides, .ref a_savedPairs]))], [gO (G 4) a_distances r_distances 16], gI (G 0) r_distances 16 16 distances, [(a_sources, .inl (G 0, 32, .inl sources))], [(a_targets, .inl (G 0, 32, .inl targets))]] H → va_S (xA aa) s.heap H locs → lv_has ls 5 [(0, .ref h)] → f_X12_findDistances_J52 fu objects steps sources targets distances = some out → W p l e (rM 0 0) s m args blw meth c H locs 0 0 Q (F0 m 52 ls []) := by
    intro distances  H locs ls  hP hS hl hf
    refine lv_iconst (v := 0) hx hb dX12_findDistances_52 (by decide) ?_
    obtain ⟨v1_53, e_v1_53, hf⟩ := lt_some hf
    refine x_istore_n (v := v1_53) (lv' := [(1, .int v1_53), (0, .ref h)]) hx hb dX12_findDistances_53 e_v1_53 rfl hl (by decide) rfl (fun ls hl => ?_)
    exact L54    fu v1_53 distances H locs ls hP hS (lv_sub hl [1, 0] rfl) hf
  have L2 : ∀ (n_2 : Nat) (v1 : Int32) (distances : (Nat → Nat → Int32)) (H : Heap) (locs : List Loc) (ls : Array Slot), xW D aa [[(h, .inr (11, [.ref a_pairs, .ref a_above, .int objects, .int steps, .ref a_sources, .ref a_targets, .ref a_labels, .ref a_lengths, .ref a_letters, .ref a_distances, .ref a_longest, .int firstStep, .int secondStep, .ref a_lengthsTo, .ref a_lengthsFrom, .ref a_path, .int pathLength, .ref a_output, .int outputLength, .ref a_found, .int foundSteps, .ref a_keptLabels, .ref a_keptPairs, .ref a_input, .int inputLength, .int rules, .ref a_sides, .ref a_sideLengths, .int newObjects, .int newSteps, .ref a_newLengths, .ref a_newLetters, .ref a_newSources, .ref a_newTargets, .ref a_newLabels, .ref a_word, .int wordSize, .ref a_failed, .ref a_sizes, .ref a_arrays, .int hasSnapshot, .int savedObjects, .int savedSteps, .int savedRules, .ref a_savedLengths, .ref a_savedSources, .ref a_savedTargets, .ref a_savedLabels, .ref a_savedSideLengths, .ref a_savedLetters, .ref a_savedSides, .ref a_savedPairs]))], [gO (G 4) a_distances r_distances 16], gI (G 0) r_distances 16 16 distances, [(a_sources, .inl (G 0, 32, .inl sources))], [(a_targets, .inl (G 0, 32, .inl targets))]] H → va_S (xA aa) s.heap H locs → lv_has ls 5 [(0, .ref h), (1, .int v1)] → lp (τ := Int32 → (Nat → Nat → Int32) → Option ((Nat → Nat → Int32))) (fun _ _ => none) (f_X12_findDistances_L2 fu objects steps sources targets) n_2 v1 distances = some out → W p l e (rM 0 0) s m args blw meth c H locs 0 0 Q (F0 m 2 ls []) := by
    intro    n_2
    induction n_2 with
    | zero =>
      intro v1 distances H locs ls hP hS hl hf
      exact no_some hf
    | succ n_2 ih_2 =>
      intro v1 distances H locs ls hP hS hl hf
      have hf : f_X12_findDistances_L2 fu objects steps sources targets (lp (τ := Int32 → (Nat → Nat → Int32) → Option ((Nat → Nat → Int32))) (fun _ _ => none) (f_X12_findDistances_L2 fu objects steps sources targets) n_2) v1 distances = some out := hf
      have J46 : ∀ (v1 : Int32) (distances : (Nat → Nat → Int32)) (H : Heap) (locs : List Loc) (ls : Array Slot), xW D aa [[(h, .inr (11, [.ref a_pairs, .ref a_above, .int objects, .int steps, .ref a_sources, .ref a_targets, .ref a_labels, .ref a_lengths, .ref a_letters, .ref a_distances, .ref a_longest, .int firstStep, .int secondStep, .ref a_lengthsTo, .ref a_lengthsFrom, .ref a_path, .int pathLength, .ref a_output, .int outputLength, .ref a_found, .int foundSteps, .ref a_keptLabels, .ref a_keptPairs, .ref a_input, .int inputLength, .int rules, .ref a_sides, .ref a_sideLengths, .int newObjects, .int newSteps, .ref a_newLengths, .ref a_newLetters, .ref a_newSources, .ref a_newTargets, .ref a_newLabels, .ref a_word, .int wordSize, .ref a_failed, .ref a_sizes, .ref a_arrays, .int hasSnapshot, .int savedObjects, .int savedSteps, .int savedRules, .ref a_savedLengths, .ref a_savedSources, .ref a_savedTargets, .ref a_savedLabels, .ref a_savedSideLengths, .ref a_savedLetters, .ref a_savedSides, .ref a_savedPairs]))], [gO (G 4) a_distances r_distances 16], gI (G 0) r_distances 16 16 distances, [(a_sources, .inl (G 0, 32, .inl sources))], [(a_targets, .inl (G 0, 32, .inl targets))]] H → va_S (xA aa) s.heap H locs → lv_has ls 5 [(0, .ref h), (1, .int v1)] → f_X12_findDistances_J46 (lp (τ := Int32 → (Nat → Nat → Int32) → Option ((Nat → Nat → Int32))) (fun _ _ => none) (f_X12_findDistances_L2 fu objects steps sources targets) n_2) v1 distances = some out → W p l e (rM 0 0) s m args blw meth c H locs 0 0 Q (F0 m 46 ls []) := by
        intro v1 distances  H locs ls  hP hS hl hf
        obtain ⟨v1_46, e_v1_46, hf⟩ := lt_some hf
        refine lv_iinc (v := v1_46) (lv' := [(1, .int v1_46), (0, .ref h)]) hx hb dX12_findDistances_46 hl (k := 1) rfl (by rw [e_v1_46]; rfl) (by decide) rfl (fun ls hl => ?_)
        refine lv_goto (tgt := 2) hx hb dX12_findDistances_49 (by decide) ?_
        exact ih_2 v1_46 distances H locs ls hP hS (lv_sub hl [1, 0] rfl) hf
      have L12 : ∀ (v1 : Int32), ∀ (n_12 : Nat) (v2 : Int32) (distances : (Nat → Nat → Int32)) (H : Heap) (locs : List Loc) (ls : Array Slot), xW D aa [[(h, .inr (11, [.ref a_pairs, .ref a_above, .int objects, .int steps, .ref a_sources, .ref a_targets, .ref a_labels, .ref a_lengths, .ref a_letters, .ref a_distances, .ref a_longest, .int firstStep, .int secondStep, .ref a_lengthsTo, .ref a_lengthsFrom, .ref a_path, .int pathLength, .ref a_output, .int outputLength, .ref a_found, .int foundSteps, .ref a_keptLabels, .ref a_keptPairs, .ref a_input, .int inputLength, .int rules, .ref a_sides, .ref a_sideLengths, .int newObjects, .int newSteps, .ref a_newLengths, .ref a_newLetters, .ref a_newSources, .ref a_newTargets, .ref a_newLabels, .ref a_word, .int wordSize, .ref a_failed, .ref a_sizes, .ref a_arrays, .int hasSnapshot, .int savedObjects, .int savedSteps, .int savedRules, .ref a_savedLengths, .ref a_savedSources, .ref a_savedTargets, .ref a_savedLabels, .ref a_savedSideLengths, .ref a_savedLetters, .ref a_savedSides, .ref a_savedPairs]))], [gO (G 4) a_distances r_distances 16], gI (G 0) r_distances 16 16 distances, [(a_sources, .inl (G 0, 32, .inl sources))], [(a_targets, .inl (G 0, 32, .inl targets))]] H → va_S (xA aa) s.heap H locs → lv_has ls 5 [(0, .ref h), (1, .int v1), (2, .int v2)] → lp (τ := Int32 → (Nat → Nat → Int32) → Option ((Nat → Nat → Int32))) (fun _ _ => none) (f_X12_findDistances_L12 objects v1 (lp (τ := Int32 → (Nat → Nat → Int32) → Option ((Nat → Nat → Int32))) (fun _ _ => none) (f_X12_findDistances_L2 fu objects steps sources targets) n_2)) n_12 v2 distances = some out → W p l e (rM 0 0) s m args blw meth c H locs 0 0 Q (F0 m 12 ls []) := by
        intro v1   n_12
        induction n_12 with
        | zero =>
          intro v2 distances H locs ls hP hS hl hf
          exact no_some hf
        | succ n_12 ih_12 =>
          intro v2 distances H locs ls hP hS hl hf
          have hf : f_X12_findDistances_L12 objects v1 (lp (τ := Int32 → (Nat → Nat → Int32) → Option ((Nat → Nat → Int32))) (fun _ _ => none) (f_X12_findDistances_L2 fu objects steps sources targets) n_2) (lp (τ := Int32 → (Nat → Nat → Int32) → Option ((Nat → Nat → Int32))) (fun _ _ => none) (f_X12_findDistances_L12 objects v1 (lp (τ := Int32 → (Nat → Nat → Int32) → Option ((Nat → Nat → Int32))) (fun _ _ => none) (f_X12_findDistances_L2 fu objects steps sources targets) n_2)) n_12) v2 distances = some out := hf
          have J39 : ∀ (t1 : Int32) (t2 : Int32) (v2 : Int32) (distances : (Nat → Nat → Int32)) (t0_row : Int32) (H : Heap) (locs : List Loc) (ls : Array Slot), vp_in t0_row 16 → xW D aa [[(h, .inr (11, [.ref a_pairs, .ref a_above, .int objects, .int steps, .ref a_sources, .ref a_targets, .ref a_labels, .ref a_lengths, .ref a_letters, .ref a_distances, .ref a_longest, .int firstStep, .int secondStep, .ref a_lengthsTo, .ref a_lengthsFrom, .ref a_path, .int pathLength, .ref a_output, .int outputLength, .ref a_found, .int foundSteps, .ref a_keptLabels, .ref a_keptPairs, .ref a_input, .int inputLength, .int rules, .ref a_sides, .ref a_sideLengths, .int newObjects, .int newSteps, .ref a_newLengths, .ref a_newLetters, .ref a_newSources, .ref a_newTargets, .ref a_newLabels, .ref a_word, .int wordSize, .ref a_failed, .ref a_sizes, .ref a_arrays, .int hasSnapshot, .int savedObjects, .int savedSteps, .int savedRules, .ref a_savedLengths, .ref a_savedSources, .ref a_savedTargets, .ref a_savedLabels, .ref a_savedSideLengths, .ref a_savedLetters, .ref a_savedSides, .ref a_savedPairs]))], [gO (G 4) a_distances r_distances 16], gI (G 0) r_distances 16 16 distances, [(a_sources, .inl (G 0, 32, .inl sources))], [(a_targets, .inl (G 0, 32, .inl targets))]] H → va_S (xA aa) s.heap H locs → lv_has ls 5 [(0, .ref h), (1, .int v1), (2, .int v2)] → f_X12_findDistances_J39 t0_row (lp (τ := Int32 → (Nat → Nat → Int32) → Option ((Nat → Nat → Int32))) (fun _ _ => none) (f_X12_findDistances_L12 objects v1 (lp (τ := Int32 → (Nat → Nat → Int32) → Option ((Nat → Nat → Int32))) (fun _ _ => none) (f_X12_findDistances_L2 fu objects steps sources targets) n_2)) n_12) t1 t2 v2 distances = some out → W p l e (rM 0 0) s m args blw meth c H locs 0 0 Q (F0 m 39 ls [.int t2, .int t1, .ref (r_distances t0_row.toNatClampNeg)]) := by
            intro t1 t2 v2 distances t0_row H locs ls ht0_row hP hS hl hf
            obtain ⟨hi, hf⟩ := ck_some hf
            obtain ⟨distances_39, e_distances_39, hf⟩ := lt_some hf
            refine x_iast2 (I' := [[(h, .inr (11, [.ref a_pairs, .ref a_above, .int objects, .int steps, .ref a_sources, .ref a_targets, .ref a_labels, .ref a_lengths, .ref a_letters, .ref a_distances, .ref a_longest, .int firstStep, .int secondStep, .ref a_lengthsTo, .ref a_lengthsFrom, .ref a_path, .int pathLength, .ref a_output, .int outputLength, .ref a_found, .int foundSteps, .ref a_keptLabels, .ref a_keptPairs, .ref a_input, .int inputLength, .int rules, .ref a_sides, .ref a_sideLengths, .int newObjects, .int newSteps, .ref a_newLengths, .ref a_newLetters, .ref a_newSources, .ref a_newTargets, .ref a_newLabels, .ref a_word, .int wordSize, .ref a_failed, .ref a_sizes, .ref a_arrays, .int hasSnapshot, .int savedObjects, .int savedSteps, .int savedRules, .ref a_savedLengths, .ref a_savedSources, .ref a_savedTargets, .ref a_savedLabels, .ref a_savedSideLengths, .ref a_savedLetters, .ref a_savedSides, .ref a_savedPairs]))], [gO (G 4) a_distances r_distances 16], gI (G 0) r_distances 16 16 distances_39, [(a_sources, .inl (G 0, 32, .inl sources))], [(a_targets, .inl (G 0, 32, .inl targets))]]) hx hb hE hP hN hS 2 rfl ht0_row hi e_distances_39 rfl dX12_findDistances_39 (fun H locs hP hS => ?_)
            obtain ⟨v2_40, e_v2_40, hf⟩ := lt_some hf
            refine lv_iinc (v := v2_40) (lv' := [(2, .int v2_40), (0, .ref h), (1, .int v1)]) hx hb dX12_findDistances_40 hl (k := 2) rfl (by rw [e_v2_40]; rfl) (by decide) rfl (fun ls hl => ?_)
            refine lv_goto (tgt := 12) hx hb dX12_findDistances_43 (by decide) ?_
            exact ih_12 v2_40 distances_39 H locs ls hP hS (lv_sub hl [1, 2, 0] rfl) hf
          refine lv_iload_n hx hb dX12_findDistances_12 rfl (lv_at hl 2 rfl) ?_
          refine lv_aload_n hx hb dX12_findDistances_13 rfl (lv_at hl 0 rfl) ?_
          refine x_get hx hb hts u_X12_findDistances_X12 hown hE hP 0 rfl rfl 2 (by decide) (hts (.fieldLink RX12 132 "DecreasingDiagramsModel" "objects" "I") (List.mem_of_getElem? (i := 1) rfl)) rfl dX12_findDistances_14 ?_
          refine lv_icmp_ge (tgt := 46) hx hb dX12_findDistances_17 (by decide) (fun c_17 => ?_) (fun c_17 => ?_)
          · have hf := it_pos c_17 hf
            exact J46 v1 distances  H locs ls  hP hS (lv_sub hl [0, 1] rfl) hf
          · have hf := it_neg c_17 hf
            refine lv_aload_n hx hb dX12_findDistances_20 rfl (lv_at hl 0 rfl) ?_
            refine x_get hx hb hts u_X12_findDistances_X12 hown hE hP 0 rfl rfl 9 (by decide) (hts (.fieldLink RX12 35 "DecreasingDiagramsModel" "distances" "[[I") (List.mem_of_getElem? (i := 2) rfl)) rfl dX12_findDistances_21 ?_
            refine lv_iload_n hx hb dX12_findDistances_24 rfl (lv_at hl 1 rfl) ?_
            obtain ⟨hq_25, hf⟩ := ck_some hf
            refine x_aald hx hb hE hP 1 4 rfl rfl hq_25 dX12_findDistances_25 ?_
            refine lv_iload_n hx hb dX12_findDistances_26 rfl (lv_at hl 2 rfl) ?_
            refine lv_iload_n hx hb dX12_findDistances_27 rfl (lv_at hl 1 rfl) ?_
            refine lv_iload_n hx hb dX12_findDistances_28 rfl (lv_at hl 2 rfl) ?_
            refine lv_icmp_ne (tgt := 36) hx hb dX12_findDistances_29 (by decide) (fun c_29 => ?_) (fun c_29 => ?_)
            · have hf := it_pos c_29 hf
              refine lv_sipush (v := 1000) hx hb dX12_findDistances_36 (by decide) ?_
              exact J39 v2 1000 v2 distances v1 H locs ls hq_25 hP hS (lv_sub hl [0, 1, 2] rfl) hf
            · have hf := it_neg (fun h => h c_29) hf
              refine lv_iconst (v := 0) hx hb dX12_findDistances_32 (by decide) ?_
              refine lv_goto (tgt := 39) hx hb dX12_findDistances_33 (by decide) ?_
              exact J39 v2 0 v2 distances v1 H locs ls hq_25 hP hS (lv_sub hl [0, 1, 2] rfl) hf
      refine lv_iload_n hx hb dX12_findDistances_2 rfl (lv_at hl 1 rfl) ?_
      refine lv_aload_n hx hb dX12_findDistances_3 rfl (lv_at hl 0 rfl) ?_
      refine x_get hx hb hts u_X12_findDistances_X12 hown hE hP 0 rfl rfl 2 (by decide) (hts (.fieldLink RX12 132 "DecreasingDiagramsModel" "objects" "I") (List.mem_of_getElem? (i := 1) rfl)) rfl dX12_findDistances_4 ?_
      refine lv_icmp_ge (tgt := 52) hx hb dX12_findDistances_7 (by decide) (fun c_7 => ?_) (fun c_7 => ?_)
      · have hf := it_pos c_7 hf
        exact J52 distances  H locs ls  hP hS (lv_sub hl [0] rfl) hf
      · have hf := it_neg c_7 hf
        refine lv_iconst (v := 0) hx hb dX12_findDistances_10 (by decide) ?_
        obtain ⟨v2_11, e_v2_11, hf⟩ := lt_some hf
        refine x_istore_n (v := v2_11) (lv' := [(2, .int v2_11), (0, .ref h), (1, .int v1)]) hx hb dX12_findDistances_11 e_v2_11 rfl hl (by decide) rfl (fun ls hl => ?_)
        exact L12 v1   fu v2_11 distances H locs ls hP hS (lv_sub hl [1, 2, 0] rfl) hf
  refine lv_iconst (v := 0) hx hb dX12_findDistances_0 (by decide) ?_
  obtain ⟨v1_1, e_v1_1, hf⟩ := lt_some hf
  refine x_istore_n (v := v1_1) (lv' := [(1, .int v1_1), (0, .ref h)]) hx hb dX12_findDistances_1 e_v1_1 rfl hl (by decide) rfl (fun ls hl => ?_)
  exact L2    fu v1_1 distances H locs ls hP hS (lv_sub hl [1, 0] rfl) hf

set_option maxRecDepth 20000 in
theorem u_X12_compareReachable_X12 : ∀ w ∈ wsX120, w ∈ wsX12_compareReachable := xx_pl _ [23, 24, 25, 26, 27, 28, 29, 30, 31, 32, 33, 34, 35, 36, 37, 38, 39, 40, 41, 42, 43, 44, 45, 46, 47, 48, 49, 50, 51, 52, 53, 54, 55, 56, 57, 58, 59, 60, 61, 62, 63, 64, 65, 66, 67, 68, 69, 70, 71, 72, 73, 74] (by decide +kernel)
def f_X12_compareReachable_J85 (objects : Int32) (sizes : (Nat → Int32)) (v1 : Int32) (v2 : Int32) (distances : (Nat → Nat → Int32)) : Option (Int32 × (Nat → Nat → Int32)) :=
  ck v1 3 (if ¬ (sizes v1.toNatClampNeg) = objects then (some (v2, distances)) else (some ((-2), distances)))
def f_X12_compareReachable_L54 (fu : Nat) (objects : Int32) (arrays : (Nat → Nat → Int64)) (distances : (Nat → Nat → Int32)) (sizes : (Nat → Int32)) (v1 : Int32) (v2 : Int32) (rec_54 : Int32 → Option (Int32 × (Nat → Nat → Int32))) (v3 : Int32) : Option (Int32 × (Nat → Nat → Int32)) :=
  if v2 ≤ v3 then (f_X12_compareReachable_J85 objects sizes v1 v2 distances) else (ck v1 3 (ck v3 16 ((f_X12_reachedFrom fu objects distances v3).bind (fun r_69 => if (lg_cmp (arrays v1.toNatClampNeg v3.toNatClampNeg) r_69.toInt64) = 0 then (lt (v3 + 1) (fun v3_79 => rec_54 v3_79)) else (some (v3, distances))))))
def f_X12_compareReachable_J51 (fu : Nat) (objects : Int32) (arrays : (Nat → Nat → Int64)) (sizes : (Nat → Int32)) (v1 : Int32) (t0 : Int32) (distances : (Nat → Nat → Int32)) : Option (Int32 × (Nat → Nat → Int32)) :=
  lt t0 (fun v2_51 => lt (0 : Int32) (fun v3_53 => lp (τ := Int32 → Option (Int32 × (Nat → Nat → Int32))) (fun _ => none) (f_X12_compareReachable_L54 fu objects arrays distances sizes v1 v2_51) fu v3_53))
def f_X12_compareReachable (fu : Nat) (objects : Int32) (steps : Int32) (arrays : (Nat → Nat → Int64)) (distances : (Nat → Nat → Int32)) (sizes : (Nat → Int32)) (sources : (Nat → Int32)) (targets : (Nat → Int32)) (v1 : Int32) : Option (Int32 × (Nat → Nat → Int32)) :=
  (f_X12_isArray v1).bind (fun r_1 => if ¬ r_1 = 0 then (ck v1 3 (if 0 ≤ (sizes v1.toNatClampNeg) then ((f_X12_findDistances fu objects steps distances sources targets).bind (fun r_22 => ck v1 3 (if objects ≤ (sizes v1.toNatClampNeg) then (f_X12_compareReachable_J51 fu objects arrays sizes v1 objects r_22) else (ck v1 3 (f_X12_compareReachable_J51 fu objects arrays sizes v1 (sizes v1.toNatClampNeg) r_22))))) else (some ((-11), distances)))) else (some ((-1), distances)))
set_option maxHeartbeats 4000000 in
set_option maxRecDepth 100000 in
theorem k_X12_compareReachable (l : Launch) (D : va_G) (G : Nat → ClassId) (fu : Nat) (h : Nat) (a_pairs : Nat) (a_above : Nat) (a_sources : Nat) (a_targets : Nat) (a_labels : Nat) (a_lengths : Nat) (a_letters : Nat) (a_distances : Nat) (a_longest : Nat) (a_lengthsTo : Nat) (a_lengthsFrom : Nat) (a_path : Nat) (a_output : Nat) (a_found : Nat) (a_keptLabels : Nat) (a_keptPairs : Nat) (a_input : Nat) (a_sides : Nat) (a_sideLengths : Nat) (a_newLengths : Nat) (a_newLetters : Nat) (a_newSources : Nat) (a_newTargets : Nat) (a_newLabels : Nat) (a_word : Nat) (a_failed : Nat) (a_sizes : Nat) (a_arrays : Nat) (a_savedLengths : Nat) (a_savedSources : Nat) (a_savedTargets : Nat) (a_savedLabels : Nat) (a_savedSideLengths : Nat) (a_savedLetters : Nat) (a_savedSides : Nat) (a_savedPairs : Nat) (r_arrays : Nat → Nat) (r_distances : Nat → Nat) (objects : Int32) (steps : Int32) (firstStep : Int32) (secondStep : Int32) (pathLength : Int32) (outputLength : Int32) (foundSteps : Int32) (inputLength : Int32) (rules : Int32) (newObjects : Int32) (newSteps : Int32) (wordSize : Int32) (hasSnapshot : Int32) (savedObjects : Int32) (savedSteps : Int32) (savedRules : Int32) (arrays : (Nat → Nat → Int64)) (distances : (Nat → Nat → Int32)) (sizes : (Nat → Int32)) (sources : (Nat → Int32)) (targets : (Nat → Int32))  (v1 : Int32) (out : Int32 × (Nat → Nat → Int32)) (hf : f_X12_compareReachable fu objects steps arrays distances sizes sources targets v1 = some out) : xMet l yX12_compareReachable wsX12_compareReachable (rM 2 42) D G [.ref h, .int v1] [[(h, .inr (11, [.ref a_pairs, .ref a_above, .int objects, .int steps, .ref a_sources, .ref a_targets, .ref a_labels, .ref a_lengths, .ref a_letters, .ref a_distances, .ref a_longest, .int firstStep, .int secondStep, .ref a_lengthsTo, .ref a_lengthsFrom, .ref a_path, .int pathLength, .ref a_output, .int outputLength, .ref a_found, .int foundSteps, .ref a_keptLabels, .ref a_keptPairs, .ref a_input, .int inputLength, .int rules, .ref a_sides, .ref a_sideLengths, .int newObjects, .int newSteps, .ref a_newLengths, .ref a_newLetters, .ref a_newSources, .ref a_newTargets, .ref a_newLabels, .ref a_word, .int wordSize, .ref a_failed, .ref a_sizes, .ref a_arrays, .int hasSnapshot, .int savedObjects, .int savedSteps, .int savedRules, .ref a_savedLengths, .ref a_savedSources, .ref a_savedTargets, .ref a_savedLabels, .ref a_savedSideLengths, .ref a_savedLetters, .ref a_savedSides, .ref a_savedPairs]))], [gO (G 5) a_arrays r_arrays 3], gJ (G 1) r_arrays 3 16 arrays, [gO (G 4) a_distances r_distances 16], gI (G 0) r_distances 16 16 distances, [(a_sizes, .inl (G 0, 3, .inl sizes))], [(a_sources, .inl (G 0, 32, .inl sources))], [(a_targets, .inl (G 0, 32, .inl targets))]] (xQi D [[(h, .inr (11, [.ref a_pairs, .ref a_above, .int objects, .int steps, .ref a_sources, .ref a_targets, .ref a_labels, .ref a_lengths, .ref a_letters, .ref a_distances, .ref a_longest, .int firstStep, .int secondStep, .ref a_lengthsTo, .ref a_lengthsFrom, .ref a_path, .int pathLength, .ref a_output, .int outputLength, .ref a_found, .int foundSteps, .ref a_keptLabels, .ref a_keptPairs, .ref a_input, .int inputLength, .int rules, .ref a_sides, .ref a_sideLengths, .int newObjects, .int newSteps, .ref a_newLengths, .ref a_newLetters, .ref a_newSources, .ref a_newTargets, .ref a_newLabels, .ref a_word, .int wordSize, .ref a_failed, .ref a_sizes, .ref a_arrays, .int hasSnapshot, .int savedObjects, .int savedSteps, .int savedRules, .ref a_savedLengths, .ref a_savedSources, .ref a_savedTargets, .ref a_savedLabels, .ref a_savedSideLengths, .ref a_savedLetters, .ref a_savedSides, .ref a_savedPairs]))], [gO (G 5) a_arrays r_arrays 3], gJ (G 1) r_arrays 3 16 arrays, [gO (G 4) a_distances r_distances 16], gI (G 0) r_distances 16 16 out.2, [(a_sizes, .inl (G 0, 3, .inl sizes))], [(a_sources, .inl (G 0, 32, .inl sources))], [(a_targets, .inl (G 0, 32, .inl targets))]] out.1) := by
  refine x_ent (cc := cX12_compareReachable) (maxL := 4) (by decide) rfl (Nat.le_of_ble_eq_true rfl) ?_
  intro p e s m blw meth c aa ls args Q H locs hQ hx hb hr hml hown hts hlocks hE hN hl hP hS
  have hown : s.vm.findClass RX12 = some m.cls := hown
  have hl : lv_has ls 4 [(0, .ref h), (1, .int v1)] := hl
  have J85 : ∀ (v2 : Int32) (distances : (Nat → Nat → Int32)) (H : Heap) (locs : List Loc) (ls : Array Slot), xW D aa [[(h, .inr (11, [.ref a_pairs, .ref a_above, .int objects, .int steps, .ref a_sources, .ref a_targets, .ref a_labels, .ref a_lengths, .ref a_letters, .ref a_distances, .ref a_longest, .int firstStep, .int secondStep, .ref a_lengthsTo, .ref a_lengthsFrom, .ref a_path, .int pathLength, .ref a_output, .int outputLength, .ref a_found, .int foundSteps, .ref a_keptLabels, .ref a_keptPairs, .ref a_input, .int inputLength, .int rules, .ref a_sides, .ref a_sideLengths, .int newObjects, .int newSteps, .ref a_newLengths, .ref a_newLetters, .ref a_newSources, .ref a_newTargets, .ref a_newLabels, .ref a_word, .int wordSize, .ref a_failed, .ref a_sizes, .ref a_arrays, .int hasSnapshot, .int savedObjects, .int savedSteps, .int savedRules, .ref a_savedLengths, .ref a_savedSources, .ref a_savedTargets, .ref a_savedLabels, .ref a_savedSideLengths, .ref a_savedLetters, .ref a_savedSides, .ref a_savedPairs]))], [gO (G 5) a_arrays r_arrays 3], gJ (G 1) r_arrays 3 16 arrays, [gO (G 4) a_distances r_distances 16], gI (G 0) r_distances 16 16 distances, [(a_sizes, .inl (G 0, 3, .inl sizes))], [(a_sources, .inl (G 0, 32, .inl sources))], [(a_targets, .inl (G 0, 32, .inl targets))]] H → va_S (xA aa) s.heap H locs → lv_has ls 4 [(0, .ref h), (1, .int v1), (2, .int v2)] → f_X12_compareReachable_J85 objects sizes v1 v2 distances = some out → W p l e (rM 2 42) s m args blw meth c H locs 0 0 Q (F0 m 85 ls []) := by
    intro v2 distances  H locs ls  hP hS hl hf
    refine lv_aload_n hx hb dX12_compareReachable_85 rfl (lv_at hl 0 rfl) ?_
    refine x_get hx hb hts u_X12_compareReachable_X12 hown hE hP 0 rfl rfl 38 (by decide) (hts (.fieldLink RX12 96 "DecreasingDiagramsModel" "sizes" "[I") (List.mem_of_getElem? (i := 1) rfl)) rfl dX12_compareReachable_86 ?_
    refine lv_iload_n hx hb dX12_compareReachable_89 rfl (lv_at hl 1 rfl) ?_
    obtain ⟨hi, hf⟩ := ck_some hf
    refine x_iald hx hb hE hP 5 rfl hi dX12_compareReachable_90 ?_
    refine lv_aload_n hx hb dX12_compareReachable_91 rfl (lv_at hl 0 rfl) ?_
    refine x_get hx hb hts u_X12_compareReachable_X12 hown hE hP 0 rfl rfl 2 (by decide) (hts (.fieldLink RX12 132 "DecreasingDiagramsModel" "objects" "I") (List.mem_of_getElem? (i := 2) rfl)) rfl dX12_compareReachable_92 ?_
    refine lv_icmp_ne (tgt := 103) hx hb dX12_compareReachable_95 (by decide) (fun c_95 => ?_) (fun c_95 => ?_)
    · have hf := it_pos c_95 hf
      refine lv_iload_n hx hb dX12_compareReachable_103 rfl (lv_at hl 2 rfl) ?_
      have hf := Option.some.inj hf
      rewrite [← hQ, ← hf]
      exact x_iret hx hb hr hlocks hP hS dX12_compareReachable_104
    · have hf := it_neg (fun h => h c_95) hf
      refine lv_bipush (v := -2) hx hb dX12_compareReachable_98 (by decide) ?_
      refine lv_goto (tgt := 104) hx hb dX12_compareReachable_100 (by decide) ?_
      have hf := Option.some.inj hf
      rewrite [← hQ, ← hf]
      exact x_iret hx hb hr hlocks hP hS dX12_compareReachable_104
  have L54 : ∀ (v2 : Int32) (distances : (Nat → Nat → Int32)), ∀ (n_54 : Nat) (v3 : Int32) (H : Heap) (locs : List Loc) (ls : Array Slot), xW D aa [[(h, .inr (11, [.ref a_pairs, .ref a_above, .int objects, .int steps, .ref a_sources, .ref a_targets, .ref a_labels, .ref a_lengths, .ref a_letters, .ref a_distances, .ref a_longest, .int firstStep, .int secondStep, .ref a_lengthsTo, .ref a_lengthsFrom, .ref a_path, .int pathLength, .ref a_output, .int outputLength, .ref a_found, .int foundSteps, .ref a_keptLabels, .ref a_keptPairs, .ref a_input, .int inputLength, .int rules, .ref a_sides, .ref a_sideLengths, .int newObjects, .int newSteps, .ref a_newLengths, .ref a_newLetters, .ref a_newSources, .ref a_newTargets, .ref a_newLabels, .ref a_word, .int wordSize, .ref a_failed, .ref a_sizes, .ref a_arrays, .int hasSnapshot, .int savedObjects, .int savedSteps, .int savedRules, .ref a_savedLengths, .ref a_savedSources, .ref a_savedTargets, .ref a_savedLabels, .ref a_savedSideLengths, .ref a_savedLetters, .ref a_savedSides, .ref a_savedPairs]))], [gO (G 5) a_arrays r_arrays 3], gJ (G 1) r_arrays 3 16 arrays, [gO (G 4) a_distances r_distances 16], gI (G 0) r_distances 16 16 distances, [(a_sizes, .inl (G 0, 3, .inl sizes))], [(a_sources, .inl (G 0, 32, .inl sources))], [(a_targets, .inl (G 0, 32, .inl targets))]] H → va_S (xA aa) s.heap H locs → lv_has ls 4 [(0, .ref h), (1, .int v1), (2, .int v2), (3, .int v3)] → lp (τ := Int32 → Option (Int32 × (Nat → Nat → Int32))) (fun _ => none) (f_X12_compareReachable_L54 fu objects arrays distances sizes v1 v2) n_54 v3 = some out → W p l e (rM 2 42) s m args blw meth c H locs 0 0 Q (F0 m 54 ls []) := by
    intro v2 distances   n_54
    induction n_54 with
    | zero =>
      intro v3 H locs ls hP hS hl hf
      exact no_some hf
    | succ n_54 ih_54 =>
      intro v3 H locs ls hP hS hl hf
      have hf : f_X12_compareReachable_L54 fu objects arrays distances sizes v1 v2 (lp (τ := Int32 → Option (Int32 × (Nat → Nat → Int32))) (fun _ => none) (f_X12_compareReachable_L54 fu objects arrays distances sizes v1 v2) n_54) v3 = some out := hf
      refine lv_iload_n hx hb dX12_compareReachable_54 rfl (lv_at hl 3 rfl) ?_
      refine lv_iload_n hx hb dX12_compareReachable_55 rfl (lv_at hl 2 rfl) ?_
      refine lv_icmp_ge (tgt := 85) hx hb dX12_compareReachable_56 (by decide) (fun c_56 => ?_) (fun c_56 => ?_)
      · have hf := it_pos c_56 hf
        exact J85 v2 distances  H locs ls  hP hS (lv_sub hl [0, 1, 2] rfl) hf
      · have hf := it_neg c_56 hf
        refine lv_aload_n hx hb dX12_compareReachable_59 rfl (lv_at hl 0 rfl) ?_
        refine x_get hx hb hts u_X12_compareReachable_X12 hown hE hP 0 rfl rfl 39 (by decide) (hts (.fieldLink RX12 101 "DecreasingDiagramsModel" "arrays" "[[J") (List.mem_of_getElem? (i := 3) rfl)) rfl dX12_compareReachable_60 ?_
        refine lv_iload_n hx hb dX12_compareReachable_63 rfl (lv_at hl 1 rfl) ?_
        obtain ⟨hq_64, hf⟩ := ck_some hf
        refine x_aald hx hb hE hP 1 5 rfl rfl hq_64 dX12_compareReachable_64 ?_
        refine lv_iload_n hx hb dX12_compareReachable_65 rfl (lv_at hl 3 rfl) ?_
        obtain ⟨hi, hf⟩ := ck_some hf
        refine x_lald2 hx hb hE hP 2 rfl hq_64 hi dX12_compareReachable_66 ?_
        refine lv_aload_n hx hb dX12_compareReachable_67 rfl (lv_at hl 0 rfl) ?_
        refine lv_iload_n hx hb dX12_compareReachable_68 rfl (lv_at hl 3 rfl) ?_
        obtain ⟨r_69, hr_69, hf⟩ := bd_some hf
        refine x_goi0 (ps := [0, 3, 4]) (x_runV (As := [.int v3]) (rest := [.long (arrays v1.toNatClampNeg v3.toNatClampNeg)]) (ps := [0, 3, 4]) ⟨hx, hb, hml, hown, hts⟩ (k_X12_reachedFrom l D G fu h a_pairs a_above a_sources a_targets a_labels a_lengths a_letters a_distances a_longest a_lengthsTo a_lengthsFrom a_path a_output a_found a_keptLabels a_keptPairs a_input a_sides a_sideLengths a_newLengths a_newLetters a_newSources a_newTargets a_newLabels a_word a_failed a_sizes a_arrays a_savedLengths a_savedSources a_savedTargets a_savedLabels a_savedSideLengths a_savedLetters a_savedSides a_savedPairs r_distances objects steps firstStep secondStep pathLength outputLength foundSteps inputLength rules newObjects newSteps wordSize hasSnapshot savedObjects savedSteps savedRules distances v3 r_69 hr_69) (cwV 1 hts gX12_compareReachable_X12_reachedFrom rfl rfl rfl (by decide +kernel) ⟨Nat.le_of_ble_eq_true rfl, Nat.le_of_ble_eq_true rfl⟩) hE hP hN rfl (by decide) 0 rfl rfl rfl hl.1 (Nat.le_of_ble_eq_true rfl) dX12_compareReachable_69 ⟨Nat.zero_le _, Nat.zero_le _⟩) hP hN hS rfl (fun H locs hP hS => ?_)
        refine lv_i2l hx hb dX12_compareReachable_72 rfl ?_
        refine W.lcmp hx hb dX12_compareReachable_73 ?_
        refine lv_if_eq (tgt := 79) hx hb dX12_compareReachable_74 (by decide) (fun c_74 => ?_) (fun c_74 => ?_)
        · have hf := it_pos c_74 hf
          obtain ⟨v3_79, e_v3_79, hf⟩ := lt_some hf
          refine lv_iinc (v := v3_79) (lv' := [(3, .int v3_79), (0, .ref h), (1, .int v1), (2, .int v2)]) hx hb dX12_compareReachable_79 hl (k := 3) rfl (by rw [e_v3_79]; rfl) (by decide) rfl (fun ls hl => ?_)
          refine lv_goto (tgt := 54) hx hb dX12_compareReachable_82 (by decide) ?_
          exact ih_54 v3_79 H locs ls hP hS (lv_sub hl [1, 2, 3, 0] rfl) hf
        · have hf := it_neg c_74 hf
          refine lv_iload_n hx hb dX12_compareReachable_77 rfl (lv_at hl 3 rfl) ?_
          have hf := Option.some.inj hf
          rewrite [← hQ, ← hf]
          exact x_iret hx hb hr hlocks hP hS dX12_compareReachable_78
  have J51 : ∀ (t0 : Int32) (distances : (Nat → Nat → Int32)) (H : Heap) (locs : List Loc) (ls : Array Slot), xW D aa [[(h, .inr (11, [.ref a_pairs, .ref a_above, .int objects, .int steps, .ref a_sources, .ref a_targets, .ref a_labels, .ref a_lengths, .ref a_letters, .ref a_distances, .ref a_longest, .int firstStep, .int secondStep, .ref a_lengthsTo, .ref a_lengthsFrom, .ref a_path, .int pathLength, .ref a_output, .int outputLength, .ref a_found, .int foundSteps, .ref a_keptLabels, .ref a_keptPairs, .ref a_input, .int inputLength, .int rules, .ref a_sides, .ref a_sideLengths, .int newObjects, .int newSteps, .ref a_newLengths, .ref a_newLetters, .ref a_newSources, .ref a_newTargets, .ref a_newLabels, .ref a_word, .int wordSize, .ref a_failed, .ref a_sizes, .ref a_arrays, .int hasSnapshot, .int savedObjects, .int savedSteps, .int savedRules, .ref a_savedLengths, .ref a_savedSources, .ref a_savedTargets, .ref a_savedLabels, .ref a_savedSideLengths, .ref a_savedLetters, .ref a_savedSides, .ref a_savedPairs]))], [gO (G 5) a_arrays r_arrays 3], gJ (G 1) r_arrays 3 16 arrays, [gO (G 4) a_distances r_distances 16], gI (G 0) r_distances 16 16 distances, [(a_sizes, .inl (G 0, 3, .inl sizes))], [(a_sources, .inl (G 0, 32, .inl sources))], [(a_targets, .inl (G 0, 32, .inl targets))]] H → va_S (xA aa) s.heap H locs → lv_has ls 4 [(0, .ref h), (1, .int v1)] → f_X12_compareReachable_J51 fu objects arrays sizes v1 t0 distances = some out → W p l e (rM 2 42) s m args blw meth c H locs 0 0 Q (F0 m 51 ls [.int t0]) := by
    intro t0 distances  H locs ls  hP hS hl hf
    obtain ⟨v2_51, e_v2_51, hf⟩ := lt_some hf
    refine x_istore_n (v := v2_51) (lv' := [(2, .int v2_51), (0, .ref h), (1, .int v1)]) hx hb dX12_compareReachable_51 e_v2_51 rfl hl (by decide) rfl (fun ls hl => ?_)
    refine lv_iconst (v := 0) hx hb dX12_compareReachable_52 (by decide) ?_
    obtain ⟨v3_53, e_v3_53, hf⟩ := lt_some hf
    refine x_istore_n (v := v3_53) (lv' := [(3, .int v3_53), (2, .int v2_51), (0, .ref h), (1, .int v1)]) hx hb dX12_compareReachable_53 e_v3_53 rfl hl (by decide) rfl (fun ls hl => ?_)
    exact L54 v2_51 distances   fu v3_53 H locs ls hP hS (lv_sub hl [2, 3, 1, 0] rfl) hf
  refine lv_iload_n hx hb dX12_compareReachable_0 rfl (lv_at hl 1 rfl) ?_
  obtain ⟨r_1, hr_1, hf⟩ := bd_some hf
  refine x_goi0 (ps := []) (x_runS (As := [.int v1]) (rest := []) (ps := []) ⟨hx, hb, hml, hown, hts⟩ (k_X12_isArray l D G fu v1 r_1 hr_1) (va_cwS 1 hts gX12_compareReachable_X12_isArray rfl rfl rfl (by decide +kernel) ⟨Nat.le_of_ble_eq_true rfl, Nat.le_of_ble_eq_true rfl⟩) hE hP hN rfl (by decide) rfl hl.1 (Nat.le_of_ble_eq_true rfl) dX12_compareReachable_1 ⟨Nat.zero_le _, Nat.zero_le _⟩) hP hN hS rfl (fun H locs hP hS => ?_)
  refine lv_if_ne (tgt := 9) hx hb dX12_compareReachable_4 (by decide) (fun c_4 => ?_) (fun c_4 => ?_)
  · have hf := it_pos c_4 hf
    refine lv_aload_n hx hb dX12_compareReachable_9 rfl (lv_at hl 0 rfl) ?_
    refine x_get hx hb hts u_X12_compareReachable_X12 hown hE hP 0 rfl rfl 38 (by decide) (hts (.fieldLink RX12 96 "DecreasingDiagramsModel" "sizes" "[I") (List.mem_of_getElem? (i := 1) rfl)) rfl dX12_compareReachable_10 ?_
    refine lv_iload_n hx hb dX12_compareReachable_13 rfl (lv_at hl 1 rfl) ?_
    obtain ⟨hi, hf⟩ := ck_some hf
    refine x_iald hx hb hE hP 5 rfl hi dX12_compareReachable_14 ?_
    refine lv_if_ge (tgt := 21) hx hb dX12_compareReachable_15 (by decide) (fun c_15 => ?_) (fun c_15 => ?_)
    · have hf := it_pos c_15 hf
      refine lv_aload_n hx hb dX12_compareReachable_21 rfl (lv_at hl 0 rfl) ?_
      obtain ⟨r_22, hr_22, hf⟩ := bd_some hf
      refine x_gov (ps := [0, 3, 4, 6, 7]) (qs := [1, 2, 5]) (n := 8) (I' := [[(h, .inr (11, [.ref a_pairs, .ref a_above, .int objects, .int steps, .ref a_sources, .ref a_targets, .ref a_labels, .ref a_lengths, .ref a_letters, .ref a_distances, .ref a_longest, .int firstStep, .int secondStep, .ref a_lengthsTo, .ref a_lengthsFrom, .ref a_path, .int pathLength, .ref a_output, .int outputLength, .ref a_found, .int foundSteps, .ref a_keptLabels, .ref a_keptPairs, .ref a_input, .int inputLength, .int rules, .ref a_sides, .ref a_sideLengths, .int newObjects, .int newSteps, .ref a_newLengths, .ref a_newLetters, .ref a_newSources, .ref a_newTargets, .ref a_newLabels, .ref a_word, .int wordSize, .ref a_failed, .ref a_sizes, .ref a_arrays, .int hasSnapshot, .int savedObjects, .int savedSteps, .int savedRules, .ref a_savedLengths, .ref a_savedSources, .ref a_savedTargets, .ref a_savedLabels, .ref a_savedSideLengths, .ref a_savedLetters, .ref a_savedSides, .ref a_savedPairs]))], [gO (G 5) a_arrays r_arrays 3], gJ (G 1) r_arrays 3 16 arrays, [gO (G 4) a_distances r_distances 16], gI (G 0) r_distances 16 16 r_22, [(a_sizes, .inl (G 0, 3, .inl sizes))], [(a_sources, .inl (G 0, 32, .inl sources))], [(a_targets, .inl (G 0, 32, .inl targets))]]) (x_runV (As := []) (rest := []) (ps := [0, 3, 4, 6, 7]) ⟨hx, hb, hml, hown, hts⟩ (k_X12_findDistances l D G fu h a_pairs a_above a_sources a_targets a_labels a_lengths a_letters a_distances a_longest a_lengthsTo a_lengthsFrom a_path a_output a_found a_keptLabels a_keptPairs a_input a_sides a_sideLengths a_newLengths a_newLetters a_newSources a_newTargets a_newLabels a_word a_failed a_sizes a_arrays a_savedLengths a_savedSources a_savedTargets a_savedLabels a_savedSideLengths a_savedLetters a_savedSides a_savedPairs r_distances objects steps firstStep secondStep pathLength outputLength foundSteps inputLength rules newObjects newSteps wordSize hasSnapshot savedObjects savedSteps savedRules distances sources targets r_22 hr_22) (cwV 0 hts gX12_compareReachable_X12_findDistances rfl rfl rfl (by decide +kernel) ⟨Nat.le_of_ble_eq_true rfl, Nat.le_of_ble_eq_true rfl⟩) hE hP hN rfl (by decide) 0 rfl rfl rfl hl.1 (Nat.le_of_ble_eq_true rfl) dX12_compareReachable_22 ⟨Nat.zero_le _, Nat.zero_le _⟩) hP hN hS rfl rfl rfl rfl rfl (by decide) (fun H locs hP hS => ?_)
      refine lv_aload_n hx hb dX12_compareReachable_25 rfl (lv_at hl 0 rfl) ?_
      refine x_get hx hb hts u_X12_compareReachable_X12 hown hE hP 0 rfl rfl 38 (by decide) (hts (.fieldLink RX12 96 "DecreasingDiagramsModel" "sizes" "[I") (List.mem_of_getElem? (i := 1) rfl)) rfl dX12_compareReachable_26 ?_
      refine lv_iload_n hx hb dX12_compareReachable_29 rfl (lv_at hl 1 rfl) ?_
      obtain ⟨hi, hf⟩ := ck_some hf
      refine x_iald hx hb hE hP 5 rfl hi dX12_compareReachable_30 ?_
      refine lv_aload_n hx hb dX12_compareReachable_31 rfl (lv_at hl 0 rfl) ?_
      refine x_get hx hb hts u_X12_compareReachable_X12 hown hE hP 0 rfl rfl 2 (by decide) (hts (.fieldLink RX12 132 "DecreasingDiagramsModel" "objects" "I") (List.mem_of_getElem? (i := 2) rfl)) rfl dX12_compareReachable_32 ?_
      refine lv_icmp_ge (tgt := 47) hx hb dX12_compareReachable_35 (by decide) (fun c_35 => ?_) (fun c_35 => ?_)
      · have hf := it_pos c_35 hf
        refine lv_aload_n hx hb dX12_compareReachable_47 rfl (lv_at hl 0 rfl) ?_
        refine x_get hx hb hts u_X12_compareReachable_X12 hown hE hP 0 rfl rfl 2 (by decide) (hts (.fieldLink RX12 132 "DecreasingDiagramsModel" "objects" "I") (List.mem_of_getElem? (i := 2) rfl)) rfl dX12_compareReachable_48 ?_
        exact J51 objects r_22  H locs ls  hP hS (lv_sub hl [0, 1] rfl) hf
      · have hf := it_neg c_35 hf
        refine lv_aload_n hx hb dX12_compareReachable_38 rfl (lv_at hl 0 rfl) ?_
        refine x_get hx hb hts u_X12_compareReachable_X12 hown hE hP 0 rfl rfl 38 (by decide) (hts (.fieldLink RX12 96 "DecreasingDiagramsModel" "sizes" "[I") (List.mem_of_getElem? (i := 1) rfl)) rfl dX12_compareReachable_39 ?_
        refine lv_iload_n hx hb dX12_compareReachable_42 rfl (lv_at hl 1 rfl) ?_
        obtain ⟨hi, hf⟩ := ck_some hf
        refine x_iald hx hb hE hP 5 rfl hi dX12_compareReachable_43 ?_
        refine lv_goto (tgt := 51) hx hb dX12_compareReachable_44 (by decide) ?_
        exact J51 (sizes v1.toNatClampNeg) r_22  H locs ls  hP hS (lv_sub hl [0, 1] rfl) hf
    · have hf := it_neg c_15 hf
      refine lv_bipush (v := -11) hx hb dX12_compareReachable_18 (by decide) ?_
      have hf := Option.some.inj hf
      rewrite [← hQ, ← hf]
      exact x_iret hx hb hr hlocks hP hS dX12_compareReachable_20
  · have hf := it_neg (fun h => h c_4) hf
    refine lv_iconst (v := -1) hx hb dX12_compareReachable_7 (by decide) ?_
    have hf := Option.some.inj hf
    rewrite [← hQ, ← hf]
    exact x_iret hx hb hr hlocks hP hS dX12_compareReachable_8

set_option maxRecDepth 20000 in
theorem u_X12_component_X12 : ∀ w ∈ wsX120, w ∈ wsX12_component := xx_pl _ [13, 14, 15, 16, 17, 18, 19, 20, 21, 22, 23, 24, 25, 26, 27, 28, 29, 30, 31, 32, 33, 34, 35, 36, 37, 38, 39, 40, 41, 42, 43, 44, 45, 46, 47, 48, 49, 50, 51, 52, 53, 54, 55, 56, 57, 58, 59, 60, 61, 62, 63, 64] (by decide +kernel)
def f_X12_component_L118 (v2 : Int32) (rec_118 : Int32 → Option (Int32)) (v3 : Int32) : Option (Int32) :=
  if ¬ ((v2 >>> (v3 &&& 31)) &&& 1) = 0 then (some v3) else (lt (v3 + 1) (fun v3_126 => rec_118 v3_126))
def f_X12_component_J116 (fu : Nat) (v2 : Int32) : Option (Int32) :=
  lt (0 : Int32) (fun v3_117 => lp (τ := Int32 → Option (Int32)) (fun _ => none) (f_X12_component_L118 v2) fu v3_117)
def f_X12_component_J110 (rec_16 : (Int32 → Int32 → Option (Int32))) (v2 : Int32) (v3 : Int32) : Option (Int32) :=
  lt (v3 + 1) (fun v3_110 => rec_16 v2 v3_110)
def f_X12_component_J102 (rec_27 : (Int32 → Int32 → Option (Int32))) (t0 : Int32) (t1 : Int32) (v4 : Int32) : Option (Int32) :=
  lt (t0 ||| t1) (fun v2_103 => lt (v4 + 1) (fun v4_104 => rec_27 v2_103 v4_104))
def f_X12_component_J71 (sources : (Nat → Int32)) (targets : (Nat → Int32)) (rec_27 : (Int32 → Int32 → Option (Int32))) (t0 : Int32) (v2 : Int32) (v4 : Int32) : Option (Int32) :=
  lt t0 (fun v5_71 => if v5_71 = 0 then (f_X12_component_J102 rec_27 v2 0 v4) else (ck v4 32 (ck v4 32 (f_X12_component_J102 rec_27 v2 ((1 <<< ((sources v4.toNatClampNeg) &&& 31)) ||| (1 <<< ((targets v4.toNatClampNeg) &&& 31))) v4))))
def f_X12_component_J66 (sources : (Nat → Int32)) (targets : (Nat → Int32)) (rec_27 : (Int32 → Int32 → Option (Int32))) (v2 : Int32) (v4 : Int32) : Option (Int32) :=
  f_X12_component_J71 sources targets rec_27 1 v2 v4
def f_X12_component_L27 (steps : Int32) (sources : (Nat → Int32)) (targets : (Nat → Int32)) (v3 : Int32) (rec_16 : (Int32 → Int32 → Option (Int32))) (rec_27 : Int32 → Int32 → Option (Int32)) (v2 : Int32) (v4 : Int32) : Option (Int32) :=
  if steps ≤ v4 then (f_X12_component_J110 rec_16 v2 v3) else (ck v4 32 (if ((v2 >>> ((sources v4.toNatClampNeg) &&& 31)) &&& 1) = 1 then (f_X12_component_J66 sources targets rec_27 v2 v4) else (ck v4 32 (if ¬ ((v2 >>> ((targets v4.toNatClampNeg) &&& 31)) &&& 1) = 1 then (f_X12_component_J71 sources targets rec_27 0 v2 v4) else (f_X12_component_J66 sources targets rec_27 v2 v4)))))
def f_X12_component_L16 (fu : Nat) (objects : Int32) (steps : Int32) (sources : (Nat → Int32)) (targets : (Nat → Int32)) (rec_16 : Int32 → Int32 → Option (Int32)) (v2 : Int32) (v3 : Int32) : Option (Int32) :=
  if objects ≤ v3 then (f_X12_component_J116 fu v2) else (lt (0 : Int32) (fun v4_25 => lp (τ := Int32 → Int32 → Option (Int32)) (fun _ _ => none) (f_X12_component_L27 steps sources targets v3 rec_16) fu v2 v4_25))
def f_X12_component (fu : Nat) (objects : Int32) (steps : Int32) (sources : (Nat → Int32)) (targets : (Nat → Int32)) (v1 : Int32) : Option (Int32) :=
  (f_X12_isObject objects v1).bind (fun r_2 => if ¬ r_2 = 0 then (lt (1 <<< (v1 &&& 31)) (fun v2_13 => lt (0 : Int32) (fun v3_15 => lp (τ := Int32 → Int32 → Option (Int32)) (fun _ _ => none) (f_X12_component_L16 fu objects steps sources targets) fu v2_13 v3_15))) else (some (-1)))
set_option maxHeartbeats 4000000 in
set_option maxRecDepth 100000 in
theorem k_X12_component (l : Launch) (D : va_G) (G : Nat → ClassId) (fu : Nat) (h : Nat) (a_pairs : Nat) (a_above : Nat) (a_sources : Nat) (a_targets : Nat) (a_labels : Nat) (a_lengths : Nat) (a_letters : Nat) (a_distances : Nat) (a_longest : Nat) (a_lengthsTo : Nat) (a_lengthsFrom : Nat) (a_path : Nat) (a_output : Nat) (a_found : Nat) (a_keptLabels : Nat) (a_keptPairs : Nat) (a_input : Nat) (a_sides : Nat) (a_sideLengths : Nat) (a_newLengths : Nat) (a_newLetters : Nat) (a_newSources : Nat) (a_newTargets : Nat) (a_newLabels : Nat) (a_word : Nat) (a_failed : Nat) (a_sizes : Nat) (a_arrays : Nat) (a_savedLengths : Nat) (a_savedSources : Nat) (a_savedTargets : Nat) (a_savedLabels : Nat) (a_savedSideLengths : Nat) (a_savedLetters : Nat) (a_savedSides : Nat) (a_savedPairs : Nat) (objects : Int32) (steps : Int32) (firstStep : Int32) (secondStep : Int32) (pathLength : Int32) (outputLength : Int32) (foundSteps : Int32) (inputLength : Int32) (rules : Int32) (newObjects : Int32) (newSteps : Int32) (wordSize : Int32) (hasSnapshot : Int32) (savedObjects : Int32) (savedSteps : Int32) (savedRules : Int32) (sources : (Nat → Int32)) (targets : (Nat → Int32))  (v1 : Int32) (out : Int32) (hf : f_X12_component fu objects steps sources targets v1 = some out) : xMet l yX12_component wsX12_component (rM 2 43) D G [.ref h, .int v1] [[(h, .inr (11, [.ref a_pairs, .ref a_above, .int objects, .int steps, .ref a_sources, .ref a_targets, .ref a_labels, .ref a_lengths, .ref a_letters, .ref a_distances, .ref a_longest, .int firstStep, .int secondStep, .ref a_lengthsTo, .ref a_lengthsFrom, .ref a_path, .int pathLength, .ref a_output, .int outputLength, .ref a_found, .int foundSteps, .ref a_keptLabels, .ref a_keptPairs, .ref a_input, .int inputLength, .int rules, .ref a_sides, .ref a_sideLengths, .int newObjects, .int newSteps, .ref a_newLengths, .ref a_newLetters, .ref a_newSources, .ref a_newTargets, .ref a_newLabels, .ref a_word, .int wordSize, .ref a_failed, .ref a_sizes, .ref a_arrays, .int hasSnapshot, .int savedObjects, .int savedSteps, .int savedRules, .ref a_savedLengths, .ref a_savedSources, .ref a_savedTargets, .ref a_savedLabels, .ref a_savedSideLengths, .ref a_savedLetters, .ref a_savedSides, .ref a_savedPairs]))], [(a_sources, .inl (G 0, 32, .inl sources))], [(a_targets, .inl (G 0, 32, .inl targets))]] (xQi D [[(h, .inr (11, [.ref a_pairs, .ref a_above, .int objects, .int steps, .ref a_sources, .ref a_targets, .ref a_labels, .ref a_lengths, .ref a_letters, .ref a_distances, .ref a_longest, .int firstStep, .int secondStep, .ref a_lengthsTo, .ref a_lengthsFrom, .ref a_path, .int pathLength, .ref a_output, .int outputLength, .ref a_found, .int foundSteps, .ref a_keptLabels, .ref a_keptPairs, .ref a_input, .int inputLength, .int rules, .ref a_sides, .ref a_sideLengths, .int newObjects, .int newSteps, .ref a_newLengths, .ref a_newLetters, .ref a_newSources, .ref a_newTargets, .ref a_newLabels, .ref a_word, .int wordSize, .ref a_failed, .ref a_sizes, .ref a_arrays, .int hasSnapshot, .int savedObjects, .int savedSteps, .int savedRules, .ref a_savedLengths, .ref a_savedSources, .ref a_savedTargets, .ref a_savedLabels, .ref a_savedSideLengths, .ref a_savedLetters, .ref a_savedSides, .ref a_savedPairs]))], [(a_sources, .inl (G 0, 32, .inl sources))], [(a_targets, .inl (G 0, 32, .inl targets))]] out) := by
  refine x_ent (cc := cX12_component) (maxL := 6) (by decide) rfl (Nat.le_of_ble_eq_true rfl) ?_
  intro p e s m blw meth c aa ls args Q H locs hQ hx hb hr hml hown hts hlocks hE hN hl hP hS
  have hown : s.vm.findClass RX12 = some m.cls := hown
  have hl : lv_has ls 6 [(0, .ref h), (1, .int v1)] := hl
  have L118 : ∀ (v2 : Int32), ∀ (n_118 : Nat) (v3 : Int32) (H : Heap) (locs : List Loc) (ls : Array Slot), xW D aa [[(h, .inr (11, [.ref a_pairs, .ref a_above, .int objects, .int steps, .ref a_sources, .ref a_targets, .ref a_labels, .ref a_lengths, .ref a_letters, .ref a_distances, .ref a_longest, .int firstStep, .int secondStep, .ref a_lengthsTo, .ref a_lengthsFrom, .ref a_path, .int pathLength, .ref a_output, .int outputLength, .ref a_found, .int foundSteps, .ref a_keptLabels, .ref a_keptPairs, .ref a_input, .int inputLength, .int rules, .ref a_sides, .ref a_sideLengths, .int newObjects, .int newSteps, .ref a_newLengths, .ref a_newLetters, .ref a_newSources, .ref a_newTargets, .ref a_newLabels, .ref a_word, .int wordSize, .ref a_failed, .ref a_sizes, .ref a_arrays, .int hasSnapshot, .int savedObjects, .int savedSteps, .int savedRules, .ref a_savedLengths, .ref a_savedSources, .ref a_savedTargets, .ref a_savedLabels, .ref a_savedSideLengths, .ref a_savedLetters, .ref a_savedSides, .ref a_savedPairs]))], [(a_sources, .inl (G 0, 32, .inl sources))], [(a_targets, .inl (G 0, 32, .inl targets))]] H → va_S (xA aa) s.heap H locs → lv_has ls 6 [(2, .int v2), (3, .int v3)] → lp (τ := Int32 → Option (Int32)) (fun _ => none) (f_X12_component_L118 v2) n_118 v3 = some out → W p l e (rM 2 43) s m args blw meth c H locs 0 0 Q (F0 m 118 ls []) := by
    intro v2   n_118
    induction n_118 with
    | zero =>
      intro v3 H locs ls hP hS hl hf
      exact no_some hf
    | succ n_118 ih_118 =>
      intro v3 H locs ls hP hS hl hf
      have hf : f_X12_component_L118 v2 (lp (τ := Int32 → Option (Int32)) (fun _ => none) (f_X12_component_L118 v2) n_118) v3 = some out := hf
      refine lv_iload_n hx hb dX12_component_118 rfl (lv_at hl 0 rfl) ?_
      refine lv_iload_n hx hb dX12_component_119 rfl (lv_at hl 1 rfl) ?_
      refine lv_ishr hx hb dX12_component_120 ?_
      refine lv_iconst (v := 1) hx hb dX12_component_121 (by decide) ?_
      refine lv_iand hx hb dX12_component_122 ?_
      refine lv_if_ne (tgt := 132) hx hb dX12_component_123 (by decide) (fun c_123 => ?_) (fun c_123 => ?_)
      · have hf := it_pos c_123 hf
        refine lv_iload_n hx hb dX12_component_132 rfl (lv_at hl 1 rfl) ?_
        have hf := Option.some.inj hf
        rewrite [← hQ, ← hf]
        exact x_iret hx hb hr hlocks hP hS dX12_component_133
      · have hf := it_neg (fun h => h c_123) hf
        obtain ⟨v3_126, e_v3_126, hf⟩ := lt_some hf
        refine lv_iinc (v := v3_126) (lv' := [(3, .int v3_126), (2, .int v2)]) hx hb dX12_component_126 hl (k := 1) rfl (by rw [e_v3_126]; rfl) (by decide) rfl (fun ls hl => ?_)
        refine lv_goto (tgt := 118) hx hb dX12_component_129 (by decide) ?_
        exact ih_118 v3_126 H locs ls hP hS (lv_sub hl [1, 0] rfl) hf
  have J116 : ∀ (v2 : Int32) (H : Heap) (locs : List Loc) (ls : Array Slot), xW D aa [[(h, .inr (11, [.ref a_pairs, .ref a_above, .int objects, .int steps, .ref a_sources, .ref a_targets, .ref a_labels, .ref a_lengths, .ref a_letters, .ref a_distances, .ref a_longest, .int firstStep, .int secondStep, .ref a_lengthsTo, .ref a_lengthsFrom, .ref a_path, .int pathLength, .ref a_output, .int outputLength, .ref a_found, .int foundSteps, .ref a_keptLabels, .ref a_keptPairs, .ref a_input, .int inputLength, .int rules, .ref a_sides, .ref a_sideLengths, .int newObjects, .int newSteps, .ref a_newLengths, .ref a_newLetters, .ref a_newSources, .ref a_newTargets, .ref a_newLabels, .ref a_word, .int wordSize, .ref a_failed, .ref a_sizes, .ref a_arrays, .int hasSnapshot, .int savedObjects, .int savedSteps, .int savedRules, .ref a_savedLengths, .ref a_savedSources, .ref a_savedTargets, .ref a_savedLabels, .ref a_savedSideLengths, .ref a_savedLetters, .ref a_savedSides, .ref a_savedPairs]))], [(a_sources, .inl (G 0, 32, .inl sources))], [(a_targets, .inl (G 0, 32, .inl targets))]] H → va_S (xA aa) s.heap H locs → lv_has ls 6 [(2, .int v2)] → f_X12_component_J116 fu v2 = some out → W p l e (rM 2 43) s m args blw meth c H locs 0 0 Q (F0 m 116 ls []) := by
    intro v2  H locs ls  hP hS hl hf
    refine lv_iconst (v := 0) hx hb dX12_component_116 (by decide) ?_
    obtain ⟨v3_117, e_v3_117, hf⟩ := lt_some hf
    refine x_istore_n (v := v3_117) (lv' := [(3, .int v3_117), (2, .int v2)]) hx hb dX12_component_117 e_v3_117 rfl hl (by decide) rfl (fun ls hl => ?_)
    exact L118 v2   fu v3_117 H locs ls hP hS (lv_sub hl [1, 0] rfl) hf
  have L16 : ∀ (n_16 : Nat) (v2 : Int32) (v3 : Int32) (H : Heap) (locs : List Loc) (ls : Array Slot), xW D aa [[(h, .inr (11, [.ref a_pairs, .ref a_above, .int objects, .int steps, .ref a_sources, .ref a_targets, .ref a_labels, .ref a_lengths, .ref a_letters, .ref a_distances, .ref a_longest, .int firstStep, .int secondStep, .ref a_lengthsTo, .ref a_lengthsFrom, .ref a_path, .int pathLength, .ref a_output, .int outputLength, .ref a_found, .int foundSteps, .ref a_keptLabels, .ref a_keptPairs, .ref a_input, .int inputLength, .int rules, .ref a_sides, .ref a_sideLengths, .int newObjects, .int newSteps, .ref a_newLengths, .ref a_newLetters, .ref a_newSources, .ref a_newTargets, .ref a_newLabels, .ref a_word, .int wordSize, .ref a_failed, .ref a_sizes, .ref a_arrays, .int hasSnapshot, .int savedObjects, .int savedSteps, .int savedRules, .ref a_savedLengths, .ref a_savedSources, .ref a_savedTargets, .ref a_savedLabels, .ref a_savedSideLengths, .ref a_savedLetters, .ref a_savedSides, .ref a_savedPairs]))], [(a_sources, .inl (G 0, 32, .inl sources))], [(a_targets, .inl (G 0, 32, .inl targets))]] H → va_S (xA aa) s.heap H locs → lv_has ls 6 [(0, .ref h), (2, .int v2), (3, .int v3)] → lp (τ := Int32 → Int32 → Option (Int32)) (fun _ _ => none) (f_X12_component_L16 fu objects steps sources targets) n_16 v2 v3 = some out → W p l e (rM 2 43) s m args blw meth c H locs 0 0 Q (F0 m 16 ls []) := by
    intro    n_16
    induction n_16 with
    | zero =>
      intro v2 v3 H locs ls hP hS hl hf
      exact no_some hf
    | succ n_16 ih_16 =>
      intro v2 v3 H locs ls hP hS hl hf
      have hf : f_X12_component_L16 fu objects steps sources targets (lp (τ := Int32 → Int32 → Option (Int32)) (fun _ _ => none) (f_X12_component_L16 fu objects steps sources targets) n_16) v2 v3 = some out := hf
      have J110 : ∀ (v2 : Int32) (v3 : Int32) (H : Heap) (locs : List Loc) (ls : Array Slot), xW D aa [[(h, .inr (11, [.ref a_pairs, .ref a_above, .int objects, .int steps, .ref a_sources, .ref a_targets, .ref a_labels, .ref a_lengths, .ref a_letters, .ref a_distances, .ref a_longest, .int firstStep, .int secondStep, .ref a_lengthsTo, .ref a_lengthsFrom, .ref a_path, .int pathLength, .ref a_output, .int outputLength, .ref a_found, .int foundSteps, .ref a_keptLabels, .ref a_keptPairs, .ref a_input, .int inputLength, .int rules, .ref a_sides, .ref a_sideLengths, .int newObjects, .int newSteps, .ref a_newLengths, .ref a_newLetters, .ref a_newSources, .ref a_newTargets, .ref a_newLabels, .ref a_word, .int wordSize, .ref a_failed, .ref a_sizes, .ref a_arrays, .int hasSnapshot, .int savedObjects, .int savedSteps, .int savedRules, .ref a_savedLengths, .ref a_savedSources, .ref a_savedTargets, .ref a_savedLabels, .ref a_savedSideLengths, .ref a_savedLetters, .ref a_savedSides, .ref a_savedPairs]))], [(a_sources, .inl (G 0, 32, .inl sources))], [(a_targets, .inl (G 0, 32, .inl targets))]] H → va_S (xA aa) s.heap H locs → lv_has ls 6 [(0, .ref h), (2, .int v2), (3, .int v3)] → f_X12_component_J110 (lp (τ := Int32 → Int32 → Option (Int32)) (fun _ _ => none) (f_X12_component_L16 fu objects steps sources targets) n_16) v2 v3 = some out → W p l e (rM 2 43) s m args blw meth c H locs 0 0 Q (F0 m 110 ls []) := by
        intro v2 v3  H locs ls  hP hS hl hf
        obtain ⟨v3_110, e_v3_110, hf⟩ := lt_some hf
        refine lv_iinc (v := v3_110) (lv' := [(3, .int v3_110), (0, .ref h), (2, .int v2)]) hx hb dX12_component_110 hl (k := 2) rfl (by rw [e_v3_110]; rfl) (by decide) rfl (fun ls hl => ?_)
        refine lv_goto (tgt := 16) hx hb dX12_component_113 (by decide) ?_
        exact ih_16 v2 v3_110 H locs ls hP hS (lv_sub hl [1, 2, 0] rfl) hf
      have L27 : ∀ (v3 : Int32), ∀ (n_27 : Nat) (v2 : Int32) (v4 : Int32) (H : Heap) (locs : List Loc) (ls : Array Slot), xW D aa [[(h, .inr (11, [.ref a_pairs, .ref a_above, .int objects, .int steps, .ref a_sources, .ref a_targets, .ref a_labels, .ref a_lengths, .ref a_letters, .ref a_distances, .ref a_longest, .int firstStep, .int secondStep, .ref a_lengthsTo, .ref a_lengthsFrom, .ref a_path, .int pathLength, .ref a_output, .int outputLength, .ref a_found, .int foundSteps, .ref a_keptLabels, .ref a_keptPairs, .ref a_input, .int inputLength, .int rules, .ref a_sides, .ref a_sideLengths, .int newObjects, .int newSteps, .ref a_newLengths, .ref a_newLetters, .ref a_newSources, .ref a_newTargets, .ref a_newLabels, .ref a_word, .int wordSize, .ref a_failed, .ref a_sizes, .ref a_arrays, .int hasSnapshot, .int savedObjects, .int savedSteps, .int savedRules, .ref a_savedLengths, .ref a_savedSources, .ref a_savedTargets, .ref a_savedLabels, .ref a_savedSideLengths, .ref a_savedLetters, .ref a_savedSides, .ref a_savedPairs]))], [(a_sources, .inl (G 0, 32, .inl sources))], [(a_targets, .inl (G 0, 32, .inl targets))]] H → va_S (xA aa) s.heap H locs → lv_has ls 6 [(0, .ref h), (2, .int v2), (3, .int v3), (4, .int v4)] → lp (τ := Int32 → Int32 → Option (Int32)) (fun _ _ => none) (f_X12_component_L27 steps sources targets v3 (lp (τ := Int32 → Int32 → Option (Int32)) (fun _ _ => none) (f_X12_component_L16 fu objects steps sources targets) n_16)) n_27 v2 v4 = some out → W p l e (rM 2 43) s m args blw meth c H locs 0 0 Q (F0 m 27 ls []) := by
        intro v3   n_27
        induction n_27 with
        | zero =>
          intro v2 v4 H locs ls hP hS hl hf
          exact no_some hf
        | succ n_27 ih_27 =>
          intro v2 v4 H locs ls hP hS hl hf
          have hf : f_X12_component_L27 steps sources targets v3 (lp (τ := Int32 → Int32 → Option (Int32)) (fun _ _ => none) (f_X12_component_L16 fu objects steps sources targets) n_16) (lp (τ := Int32 → Int32 → Option (Int32)) (fun _ _ => none) (f_X12_component_L27 steps sources targets v3 (lp (τ := Int32 → Int32 → Option (Int32)) (fun _ _ => none) (f_X12_component_L16 fu objects steps sources targets) n_16)) n_27) v2 v4 = some out := hf
          have J102 : ∀ (t0 : Int32) (t1 : Int32) (v4 : Int32) (H : Heap) (locs : List Loc) (ls : Array Slot), xW D aa [[(h, .inr (11, [.ref a_pairs, .ref a_above, .int objects, .int steps, .ref a_sources, .ref a_targets, .ref a_labels, .ref a_lengths, .ref a_letters, .ref a_distances, .ref a_longest, .int firstStep, .int secondStep, .ref a_lengthsTo, .ref a_lengthsFrom, .ref a_path, .int pathLength, .ref a_output, .int outputLength, .ref a_found, .int foundSteps, .ref a_keptLabels, .ref a_keptPairs, .ref a_input, .int inputLength, .int rules, .ref a_sides, .ref a_sideLengths, .int newObjects, .int newSteps, .ref a_newLengths, .ref a_newLetters, .ref a_newSources, .ref a_newTargets, .ref a_newLabels, .ref a_word, .int wordSize, .ref a_failed, .ref a_sizes, .ref a_arrays, .int hasSnapshot, .int savedObjects, .int savedSteps, .int savedRules, .ref a_savedLengths, .ref a_savedSources, .ref a_savedTargets, .ref a_savedLabels, .ref a_savedSideLengths, .ref a_savedLetters, .ref a_savedSides, .ref a_savedPairs]))], [(a_sources, .inl (G 0, 32, .inl sources))], [(a_targets, .inl (G 0, 32, .inl targets))]] H → va_S (xA aa) s.heap H locs → lv_has ls 6 [(0, .ref h), (3, .int v3), (4, .int v4)] → f_X12_component_J102 (lp (τ := Int32 → Int32 → Option (Int32)) (fun _ _ => none) (f_X12_component_L27 steps sources targets v3 (lp (τ := Int32 → Int32 → Option (Int32)) (fun _ _ => none) (f_X12_component_L16 fu objects steps sources targets) n_16)) n_27) t0 t1 v4 = some out → W p l e (rM 2 43) s m args blw meth c H locs 0 0 Q (F0 m 102 ls [.int t1, .int t0]) := by
            intro t0 t1 v4  H locs ls  hP hS hl hf
            refine lv_ior hx hb dX12_component_102 ?_
            obtain ⟨v2_103, e_v2_103, hf⟩ := lt_some hf
            refine x_istore_n (v := v2_103) (lv' := [(2, .int v2_103), (0, .ref h), (3, .int v3), (4, .int v4)]) hx hb dX12_component_103 e_v2_103 rfl hl (by decide) rfl (fun ls hl => ?_)
            obtain ⟨v4_104, e_v4_104, hf⟩ := lt_some hf
            refine lv_iinc (v := v4_104) (lv' := [(4, .int v4_104), (2, .int v2_103), (0, .ref h), (3, .int v3)]) hx hb dX12_component_104 hl (k := 3) rfl (by rw [e_v4_104]; rfl) (by decide) rfl (fun ls hl => ?_)
            refine lv_goto (tgt := 27) hx hb dX12_component_107 (by decide) ?_
            exact ih_27 v2_103 v4_104 H locs ls hP hS (lv_sub hl [2, 1, 3, 0] rfl) hf
          have J71 : ∀ (t0 : Int32) (v2 : Int32) (v4 : Int32) (H : Heap) (locs : List Loc) (ls : Array Slot), xW D aa [[(h, .inr (11, [.ref a_pairs, .ref a_above, .int objects, .int steps, .ref a_sources, .ref a_targets, .ref a_labels, .ref a_lengths, .ref a_letters, .ref a_distances, .ref a_longest, .int firstStep, .int secondStep, .ref a_lengthsTo, .ref a_lengthsFrom, .ref a_path, .int pathLength, .ref a_output, .int outputLength, .ref a_found, .int foundSteps, .ref a_keptLabels, .ref a_keptPairs, .ref a_input, .int inputLength, .int rules, .ref a_sides, .ref a_sideLengths, .int newObjects, .int newSteps, .ref a_newLengths, .ref a_newLetters, .ref a_newSources, .ref a_newTargets, .ref a_newLabels, .ref a_word, .int wordSize, .ref a_failed, .ref a_sizes, .ref a_arrays, .int hasSnapshot, .int savedObjects, .int savedSteps, .int savedRules, .ref a_savedLengths, .ref a_savedSources, .ref a_savedTargets, .ref a_savedLabels, .ref a_savedSideLengths, .ref a_savedLetters, .ref a_savedSides, .ref a_savedPairs]))], [(a_sources, .inl (G 0, 32, .inl sources))], [(a_targets, .inl (G 0, 32, .inl targets))]] H → va_S (xA aa) s.heap H locs → lv_has ls 6 [(0, .ref h), (2, .int v2), (3, .int v3), (4, .int v4)] → f_X12_component_J71 sources targets (lp (τ := Int32 → Int32 → Option (Int32)) (fun _ _ => none) (f_X12_component_L27 steps sources targets v3 (lp (τ := Int32 → Int32 → Option (Int32)) (fun _ _ => none) (f_X12_component_L16 fu objects steps sources targets) n_16)) n_27) t0 v2 v4 = some out → W p l e (rM 2 43) s m args blw meth c H locs 0 0 Q (F0 m 71 ls [.int t0]) := by
            intro t0 v2 v4  H locs ls  hP hS hl hf
            obtain ⟨v5_71, e_v5_71, hf⟩ := lt_some hf
            refine x_istore (v := v5_71) (lv' := [(5, .int v5_71), (0, .ref h), (2, .int v2), (3, .int v3), (4, .int v4)]) hx hb dX12_component_71 e_v5_71 hl (by decide) rfl (fun ls hl => ?_)
            refine lv_iload_n hx hb dX12_component_73 rfl (lv_at hl 2 rfl) ?_
            refine lv_iload hx hb dX12_component_74 (lv_at hl 0 rfl) ?_
            refine lv_if_eq (tgt := 101) hx hb dX12_component_76 (by decide) (fun c_76 => ?_) (fun c_76 => ?_)
            · have hf := it_pos c_76 hf
              refine lv_iconst (v := 0) hx hb dX12_component_101 (by decide) ?_
              exact J102 v2 0 v4  H locs ls  hP hS (lv_sub hl [1, 3, 4] rfl) hf
            · have hf := it_neg c_76 hf
              refine lv_iconst (v := 1) hx hb dX12_component_79 (by decide) ?_
              refine lv_aload_n hx hb dX12_component_80 rfl (lv_at hl 1 rfl) ?_
              refine x_get hx hb hts u_X12_component_X12 hown hE hP 0 rfl rfl 4 (by decide) (hts (.fieldLink RX12 17 "DecreasingDiagramsModel" "sources" "[I") (List.mem_of_getElem? (i := 3) rfl)) rfl dX12_component_81 ?_
              refine lv_iload hx hb dX12_component_84 (lv_at hl 4 rfl) ?_
              obtain ⟨hi, hf⟩ := ck_some hf
              refine x_iald hx hb hE hP 1 rfl hi dX12_component_86 ?_
              refine lv_ishl hx hb dX12_component_87 ?_
              refine lv_iconst (v := 1) hx hb dX12_component_88 (by decide) ?_
              refine lv_aload_n hx hb dX12_component_89 rfl (lv_at hl 1 rfl) ?_
              refine x_get hx hb hts u_X12_component_X12 hown hE hP 0 rfl rfl 5 (by decide) (hts (.fieldLink RX12 21 "DecreasingDiagramsModel" "targets" "[I") (List.mem_of_getElem? (i := 4) rfl)) rfl dX12_component_90 ?_
              refine lv_iload hx hb dX12_component_93 (lv_at hl 4 rfl) ?_
              obtain ⟨hi, hf⟩ := ck_some hf
              refine x_iald hx hb hE hP 2 rfl hi dX12_component_95 ?_
              refine lv_ishl hx hb dX12_component_96 ?_
              refine lv_ior hx hb dX12_component_97 ?_
              refine lv_goto (tgt := 102) hx hb dX12_component_98 (by decide) ?_
              exact J102 v2 ((1 <<< ((sources v4.toNatClampNeg) &&& 31)) ||| (1 <<< ((targets v4.toNatClampNeg) &&& 31))) v4  H locs ls  hP hS (lv_sub hl [1, 3, 4] rfl) hf
          have J66 : ∀ (v2 : Int32) (v4 : Int32) (H : Heap) (locs : List Loc) (ls : Array Slot), xW D aa [[(h, .inr (11, [.ref a_pairs, .ref a_above, .int objects, .int steps, .ref a_sources, .ref a_targets, .ref a_labels, .ref a_lengths, .ref a_letters, .ref a_distances, .ref a_longest, .int firstStep, .int secondStep, .ref a_lengthsTo, .ref a_lengthsFrom, .ref a_path, .int pathLength, .ref a_output, .int outputLength, .ref a_found, .int foundSteps, .ref a_keptLabels, .ref a_keptPairs, .ref a_input, .int inputLength, .int rules, .ref a_sides, .ref a_sideLengths, .int newObjects, .int newSteps, .ref a_newLengths, .ref a_newLetters, .ref a_newSources, .ref a_newTargets, .ref a_newLabels, .ref a_word, .int wordSize, .ref a_failed, .ref a_sizes, .ref a_arrays, .int hasSnapshot, .int savedObjects, .int savedSteps, .int savedRules, .ref a_savedLengths, .ref a_savedSources, .ref a_savedTargets, .ref a_savedLabels, .ref a_savedSideLengths, .ref a_savedLetters, .ref a_savedSides, .ref a_savedPairs]))], [(a_sources, .inl (G 0, 32, .inl sources))], [(a_targets, .inl (G 0, 32, .inl targets))]] H → va_S (xA aa) s.heap H locs → lv_has ls 6 [(0, .ref h), (2, .int v2), (3, .int v3), (4, .int v4)] → f_X12_component_J66 sources targets (lp (τ := Int32 → Int32 → Option (Int32)) (fun _ _ => none) (f_X12_component_L27 steps sources targets v3 (lp (τ := Int32 → Int32 → Option (Int32)) (fun _ _ => none) (f_X12_component_L16 fu objects steps sources targets) n_16)) n_27) v2 v4 = some out → W p l e (rM 2 43) s m args blw meth c H locs 0 0 Q (F0 m 66 ls []) := by
            intro v2 v4  H locs ls  hP hS hl hf
            refine lv_iconst (v := 1) hx hb dX12_component_66 (by decide) ?_
            refine lv_goto (tgt := 71) hx hb dX12_component_67 (by decide) ?_
            exact J71 1 v2 v4  H locs ls  hP hS (lv_sub hl [0, 1, 2, 3] rfl) hf
          refine lv_iload hx hb dX12_component_27 (lv_at hl 3 rfl) ?_
          refine lv_aload_n hx hb dX12_component_29 rfl (lv_at hl 0 rfl) ?_
          refine x_get hx hb hts u_X12_component_X12 hown hE hP 0 rfl rfl 3 (by decide) (hts (.fieldLink RX12 135 "DecreasingDiagramsModel" "steps" "I") (List.mem_of_getElem? (i := 2) rfl)) rfl dX12_component_30 ?_
          refine lv_icmp_ge (tgt := 110) hx hb dX12_component_33 (by decide) (fun c_33 => ?_) (fun c_33 => ?_)
          · have hf := it_pos c_33 hf
            exact J110 v2 v3  H locs ls  hP hS (lv_sub hl [0, 1, 2] rfl) hf
          · have hf := it_neg c_33 hf
            refine lv_iload_n hx hb dX12_component_36 rfl (lv_at hl 1 rfl) ?_
            refine lv_aload_n hx hb dX12_component_37 rfl (lv_at hl 0 rfl) ?_
            refine x_get hx hb hts u_X12_component_X12 hown hE hP 0 rfl rfl 4 (by decide) (hts (.fieldLink RX12 17 "DecreasingDiagramsModel" "sources" "[I") (List.mem_of_getElem? (i := 3) rfl)) rfl dX12_component_38 ?_
            refine lv_iload hx hb dX12_component_41 (lv_at hl 3 rfl) ?_
            obtain ⟨hi, hf⟩ := ck_some hf
            refine x_iald hx hb hE hP 1 rfl hi dX12_component_43 ?_
            refine lv_ishr hx hb dX12_component_44 ?_
            refine lv_iconst (v := 1) hx hb dX12_component_45 (by decide) ?_
            refine lv_iand hx hb dX12_component_46 ?_
            refine lv_iconst (v := 1) hx hb dX12_component_47 (by decide) ?_
            refine lv_icmp_eq (tgt := 66) hx hb dX12_component_48 (by decide) (fun c_48 => ?_) (fun c_48 => ?_)
            · have hf := it_pos c_48 hf
              exact J66 v2 v4  H locs ls  hP hS (lv_sub hl [0, 1, 2, 3] rfl) hf
            · have hf := it_neg c_48 hf
              refine lv_iload_n hx hb dX12_component_51 rfl (lv_at hl 1 rfl) ?_
              refine lv_aload_n hx hb dX12_component_52 rfl (lv_at hl 0 rfl) ?_
              refine x_get hx hb hts u_X12_component_X12 hown hE hP 0 rfl rfl 5 (by decide) (hts (.fieldLink RX12 21 "DecreasingDiagramsModel" "targets" "[I") (List.mem_of_getElem? (i := 4) rfl)) rfl dX12_component_53 ?_
              refine lv_iload hx hb dX12_component_56 (lv_at hl 3 rfl) ?_
              obtain ⟨hi, hf⟩ := ck_some hf
              refine x_iald hx hb hE hP 2 rfl hi dX12_component_58 ?_
              refine lv_ishr hx hb dX12_component_59 ?_
              refine lv_iconst (v := 1) hx hb dX12_component_60 (by decide) ?_
              refine lv_iand hx hb dX12_component_61 ?_
              refine lv_iconst (v := 1) hx hb dX12_component_62 (by decide) ?_
              refine lv_icmp_ne (tgt := 70) hx hb dX12_component_63 (by decide) (fun c_63 => ?_) (fun c_63 => ?_)
              · have hf := it_pos c_63 hf
                refine lv_iconst (v := 0) hx hb dX12_component_70 (by decide) ?_
                exact J71 0 v2 v4  H locs ls  hP hS (lv_sub hl [0, 1, 2, 3] rfl) hf
              · have hf := it_neg (fun h => h c_63) hf
                exact J66 v2 v4  H locs ls  hP hS (lv_sub hl [0, 1, 2, 3] rfl) hf
      refine lv_iload_n hx hb dX12_component_16 rfl (lv_at hl 2 rfl) ?_
      refine lv_aload_n hx hb dX12_component_17 rfl (lv_at hl 0 rfl) ?_
      refine x_get hx hb hts u_X12_component_X12 hown hE hP 0 rfl rfl 2 (by decide) (hts (.fieldLink RX12 132 "DecreasingDiagramsModel" "objects" "I") (List.mem_of_getElem? (i := 1) rfl)) rfl dX12_component_18 ?_
      refine lv_icmp_ge (tgt := 116) hx hb dX12_component_21 (by decide) (fun c_21 => ?_) (fun c_21 => ?_)
      · have hf := it_pos c_21 hf
        exact J116 v2  H locs ls  hP hS (lv_sub hl [1] rfl) hf
      · have hf := it_neg c_21 hf
        refine lv_iconst (v := 0) hx hb dX12_component_24 (by decide) ?_
        obtain ⟨v4_25, e_v4_25, hf⟩ := lt_some hf
        refine x_istore (v := v4_25) (lv' := [(4, .int v4_25), (0, .ref h), (2, .int v2), (3, .int v3)]) hx hb dX12_component_25 e_v4_25 hl (by decide) rfl (fun ls hl => ?_)
        exact L27 v3   fu v2 v4_25 H locs ls hP hS (lv_sub hl [1, 2, 3, 0] rfl) hf
  refine lv_aload_n hx hb dX12_component_0 rfl (lv_at hl 0 rfl) ?_
  refine lv_iload_n hx hb dX12_component_1 rfl (lv_at hl 1 rfl) ?_
  obtain ⟨r_2, hr_2, hf⟩ := bd_some hf
  refine x_goi0 (ps := [0]) (x_runV (As := [.int v1]) (rest := []) (ps := [0]) ⟨hx, hb, hml, hown, hts⟩ (k_X12_isObject l D G fu h a_pairs a_above a_sources a_targets a_labels a_lengths a_letters a_distances a_longest a_lengthsTo a_lengthsFrom a_path a_output a_found a_keptLabels a_keptPairs a_input a_sides a_sideLengths a_newLengths a_newLetters a_newSources a_newTargets a_newLabels a_word a_failed a_sizes a_arrays a_savedLengths a_savedSources a_savedTargets a_savedLabels a_savedSideLengths a_savedLetters a_savedSides a_savedPairs objects steps firstStep secondStep pathLength outputLength foundSteps inputLength rules newObjects newSteps wordSize hasSnapshot savedObjects savedSteps savedRules v1 r_2 hr_2) (cwV 1 hts gX12_component_X12_isObject rfl rfl rfl (by decide +kernel) ⟨Nat.le_of_ble_eq_true rfl, Nat.le_of_ble_eq_true rfl⟩) hE hP hN rfl (by decide) 0 rfl rfl rfl hl.1 (Nat.le_of_ble_eq_true rfl) dX12_component_2 ⟨Nat.zero_le _, Nat.zero_le _⟩) hP hN hS rfl (fun H locs hP hS => ?_)
  refine lv_if_ne (tgt := 10) hx hb dX12_component_5 (by decide) (fun c_5 => ?_) (fun c_5 => ?_)
  · have hf := it_pos c_5 hf
    refine lv_iconst (v := 1) hx hb dX12_component_10 (by decide) ?_
    refine lv_iload_n hx hb dX12_component_11 rfl (lv_at hl 1 rfl) ?_
    refine lv_ishl hx hb dX12_component_12 ?_
    obtain ⟨v2_13, e_v2_13, hf⟩ := lt_some hf
    refine x_istore_n (v := v2_13) (lv' := [(2, .int v2_13), (0, .ref h), (1, .int v1)]) hx hb dX12_component_13 e_v2_13 rfl hl (by decide) rfl (fun ls hl => ?_)
    refine lv_iconst (v := 0) hx hb dX12_component_14 (by decide) ?_
    obtain ⟨v3_15, e_v3_15, hf⟩ := lt_some hf
    refine x_istore_n (v := v3_15) (lv' := [(3, .int v3_15), (2, .int v2_13), (0, .ref h), (1, .int v1)]) hx hb dX12_component_15 e_v3_15 rfl hl (by decide) rfl (fun ls hl => ?_)
    exact L16    fu v2_13 v3_15 H locs ls hP hS (lv_sub hl [2, 1, 0] rfl) hf
  · have hf := it_neg (fun h => h c_5) hf
    refine lv_iconst (v := -1) hx hb dX12_component_8 (by decide) ?_
    have hf := Option.some.inj hf
    rewrite [← hQ, ← hf]
    exact x_iret hx hb hr hlocks hP hS dX12_component_9

def f_X12_copyPairs_J32 (rec_2 : (Int32 → (Nat → Nat → Int32) → Option ((Nat → Nat → Int32)))) (v2 : Int32) (p1 : (Nat → Nat → Int32)) : Option ((Nat → Nat → Int32)) :=
  lt (v2 + 1) (fun v2_32 => rec_2 v2_32 p1)
def f_X12_copyPairs_L10 (p0 : (Nat → Nat → Int32)) (n_p0 : Nat) (w_p0 : Nat) (n_p1 : Nat) (w_p1 : Nat) (v2 : Int32) (rec_2 : (Int32 → (Nat → Nat → Int32) → Option ((Nat → Nat → Int32)))) (rec_10 : Int32 → (Nat → Nat → Int32) → Option ((Nat → Nat → Int32))) (v3 : Int32) (p1 : (Nat → Nat → Int32)) : Option ((Nat → Nat → Int32)) :=
  if 8 ≤ v3 then (f_X12_copyPairs_J32 rec_2 v2 p1) else (ck v2 n_p1 (ck v2 n_p0 (ck v3 w_p0 (ck v3 w_p1 (lt (up2 p1 v2.toNatClampNeg v3.toNatClampNeg (vp_nar .boolean (p0 v2.toNatClampNeg v3.toNatClampNeg))) (fun p1_25 => lt (v3 + 1) (fun v3_26 => rec_10 v3_26 p1_25)))))))
def f_X12_copyPairs_L2 (fu : Nat) (p0 : (Nat → Nat → Int32)) (n_p0 : Nat) (w_p0 : Nat) (n_p1 : Nat) (w_p1 : Nat) (rec_2 : Int32 → (Nat → Nat → Int32) → Option ((Nat → Nat → Int32))) (v2 : Int32) (p1 : (Nat → Nat → Int32)) : Option ((Nat → Nat → Int32)) :=
  if 8 ≤ v2 then (some p1) else (lt (0 : Int32) (fun v3_9 => lp (τ := Int32 → (Nat → Nat → Int32) → Option ((Nat → Nat → Int32))) (fun _ _ => none) (f_X12_copyPairs_L10 p0 n_p0 w_p0 n_p1 w_p1 v2 rec_2) fu v3_9 p1))
def f_X12_copyPairs (fu : Nat) (p0 : (Nat → Nat → Int32)) (p1 : (Nat → Nat → Int32)) (n_p0 : Nat) (w_p0 : Nat) (n_p1 : Nat) (w_p1 : Nat) : Option ((Nat → Nat → Int32)) :=
  lt (0 : Int32) (fun v2_1 => lp (τ := Int32 → (Nat → Nat → Int32) → Option ((Nat → Nat → Int32))) (fun _ _ => none) (f_X12_copyPairs_L2 fu p0 n_p0 w_p0 n_p1 w_p1) fu v2_1 p1)
set_option maxHeartbeats 4000000 in
set_option maxRecDepth 100000 in
theorem k_X12_copyPairs (l : Launch) (D : va_G) (G : Nat → ClassId) (fu : Nat) (a_p0 : Nat) (a_p1 : Nat) (r_p0 : Nat → Nat) (r_p1 : Nat → Nat) (p0 : (Nat → Nat → Int32)) (p1 : (Nat → Nat → Int32)) (n_p0 : Nat) (w_p0 : Nat) (n_p1 : Nat) (w_p1 : Nat)  (out : (Nat → Nat → Int32)) (hf : f_X12_copyPairs fu p0 p1 n_p0 w_p0 n_p1 w_p1 = some out) : xMet l yX12_copyPairs wsX12_copyPairs (rM 0 0) D G [.ref a_p0, .ref a_p1] [[gO (G 6) a_p0 r_p0 n_p0], gI (G 2) r_p0 n_p0 w_p0 p0, [gO (G 6) a_p1 r_p1 n_p1], gI (G 2) r_p1 n_p1 w_p1 p1] (xQv D [[gO (G 6) a_p0 r_p0 n_p0], gI (G 2) r_p0 n_p0 w_p0 p0, [gO (G 6) a_p1 r_p1 n_p1], gI (G 2) r_p1 n_p1 w_p1 out]) := by
  refine x_ent (cc := cX12_copyPairs) (maxL := 4) (by decide) rfl (Nat.le_of_ble_eq_true rfl) ?_
  intro p e s m blw meth c aa ls args Q H locs hQ hx hb hr hml hown hts hlocks hE hN hl hP hS
  have hown : s.vm.findClass RX12 = some m.cls := hown
  have hl : lv_has ls 4 [(0, .ref a_p0), (1, .ref a_p1)] := hl
  have L2 : ∀ (n_2 : Nat) (v2 : Int32) (p1 : (Nat → Nat → Int32)) (H : Heap) (locs : List Loc) (ls : Array Slot), xW D aa [[gO (G 6) a_p0 r_p0 n_p0], gI (G 2) r_p0 n_p0 w_p0 p0, [gO (G 6) a_p1 r_p1 n_p1], gI (G 2) r_p1 n_p1 w_p1 p1] H → va_S (xA aa) s.heap H locs → lv_has ls 4 [(0, .ref a_p0), (1, .ref a_p1), (2, .int v2)] → lp (τ := Int32 → (Nat → Nat → Int32) → Option ((Nat → Nat → Int32))) (fun _ _ => none) (f_X12_copyPairs_L2 fu p0 n_p0 w_p0 n_p1 w_p1) n_2 v2 p1 = some out → W p l e (rM 0 0) s m args blw meth c H locs 0 0 Q (F0 m 2 ls []) := by
    intro    n_2
    induction n_2 with
    | zero =>
      intro v2 p1 H locs ls hP hS hl hf
      exact no_some hf
    | succ n_2 ih_2 =>
      intro v2 p1 H locs ls hP hS hl hf
      have hf : f_X12_copyPairs_L2 fu p0 n_p0 w_p0 n_p1 w_p1 (lp (τ := Int32 → (Nat → Nat → Int32) → Option ((Nat → Nat → Int32))) (fun _ _ => none) (f_X12_copyPairs_L2 fu p0 n_p0 w_p0 n_p1 w_p1) n_2) v2 p1 = some out := hf
      have J32 : ∀ (v2 : Int32) (p1 : (Nat → Nat → Int32)) (H : Heap) (locs : List Loc) (ls : Array Slot), xW D aa [[gO (G 6) a_p0 r_p0 n_p0], gI (G 2) r_p0 n_p0 w_p0 p0, [gO (G 6) a_p1 r_p1 n_p1], gI (G 2) r_p1 n_p1 w_p1 p1] H → va_S (xA aa) s.heap H locs → lv_has ls 4 [(0, .ref a_p0), (1, .ref a_p1), (2, .int v2)] → f_X12_copyPairs_J32 (lp (τ := Int32 → (Nat → Nat → Int32) → Option ((Nat → Nat → Int32))) (fun _ _ => none) (f_X12_copyPairs_L2 fu p0 n_p0 w_p0 n_p1 w_p1) n_2) v2 p1 = some out → W p l e (rM 0 0) s m args blw meth c H locs 0 0 Q (F0 m 32 ls []) := by
        intro v2 p1  H locs ls  hP hS hl hf
        obtain ⟨v2_32, e_v2_32, hf⟩ := lt_some hf
        refine lv_iinc (v := v2_32) (lv' := [(2, .int v2_32), (0, .ref a_p0), (1, .ref a_p1)]) hx hb dX12_copyPairs_32 hl (k := 2) rfl (by rw [e_v2_32]; rfl) (by decide) rfl (fun ls hl => ?_)
        refine lv_goto (tgt := 2) hx hb dX12_copyPairs_35 (by decide) ?_
        exact ih_2 v2_32 p1 H locs ls hP hS (lv_sub hl [1, 2, 0] rfl) hf
      have L10 : ∀ (v2 : Int32), ∀ (n_10 : Nat) (v3 : Int32) (p1 : (Nat → Nat → Int32)) (H : Heap) (locs : List Loc) (ls : Array Slot), xW D aa [[gO (G 6) a_p0 r_p0 n_p0], gI (G 2) r_p0 n_p0 w_p0 p0, [gO (G 6) a_p1 r_p1 n_p1], gI (G 2) r_p1 n_p1 w_p1 p1] H → va_S (xA aa) s.heap H locs → lv_has ls 4 [(0, .ref a_p0), (1, .ref a_p1), (2, .int v2), (3, .int v3)] → lp (τ := Int32 → (Nat → Nat → Int32) → Option ((Nat → Nat → Int32))) (fun _ _ => none) (f_X12_copyPairs_L10 p0 n_p0 w_p0 n_p1 w_p1 v2 (lp (τ := Int32 → (Nat → Nat → Int32) → Option ((Nat → Nat → Int32))) (fun _ _ => none) (f_X12_copyPairs_L2 fu p0 n_p0 w_p0 n_p1 w_p1) n_2)) n_10 v3 p1 = some out → W p l e (rM 0 0) s m args blw meth c H locs 0 0 Q (F0 m 10 ls []) := by
        intro v2   n_10
        induction n_10 with
        | zero =>
          intro v3 p1 H locs ls hP hS hl hf
          exact no_some hf
        | succ n_10 ih_10 =>
          intro v3 p1 H locs ls hP hS hl hf
          have hf : f_X12_copyPairs_L10 p0 n_p0 w_p0 n_p1 w_p1 v2 (lp (τ := Int32 → (Nat → Nat → Int32) → Option ((Nat → Nat → Int32))) (fun _ _ => none) (f_X12_copyPairs_L2 fu p0 n_p0 w_p0 n_p1 w_p1) n_2) (lp (τ := Int32 → (Nat → Nat → Int32) → Option ((Nat → Nat → Int32))) (fun _ _ => none) (f_X12_copyPairs_L10 p0 n_p0 w_p0 n_p1 w_p1 v2 (lp (τ := Int32 → (Nat → Nat → Int32) → Option ((Nat → Nat → Int32))) (fun _ _ => none) (f_X12_copyPairs_L2 fu p0 n_p0 w_p0 n_p1 w_p1) n_2)) n_10) v3 p1 = some out := hf
          refine lv_iload_n hx hb dX12_copyPairs_10 rfl (lv_at hl 3 rfl) ?_
          refine lv_bipush (v := 8) hx hb dX12_copyPairs_11 (by decide) ?_
          refine lv_icmp_ge (tgt := 32) hx hb dX12_copyPairs_13 (by decide) (fun c_13 => ?_) (fun c_13 => ?_)
          · have hf := it_pos c_13 hf
            exact J32 v2 p1  H locs ls  hP hS (lv_sub hl [0, 1, 2] rfl) hf
          · have hf := it_neg c_13 hf
            refine lv_aload_n hx hb dX12_copyPairs_16 rfl (lv_at hl 1 rfl) ?_
            refine lv_iload_n hx hb dX12_copyPairs_17 rfl (lv_at hl 2 rfl) ?_
            obtain ⟨hq_18, hf⟩ := ck_some hf
            refine x_aald hx hb hE hP 2 6 rfl rfl hq_18 dX12_copyPairs_18 ?_
            refine lv_iload_n hx hb dX12_copyPairs_19 rfl (lv_at hl 3 rfl) ?_
            refine lv_aload_n hx hb dX12_copyPairs_20 rfl (lv_at hl 0 rfl) ?_
            refine lv_iload_n hx hb dX12_copyPairs_21 rfl (lv_at hl 2 rfl) ?_
            obtain ⟨hq_22, hf⟩ := ck_some hf
            refine x_aald hx hb hE hP 0 6 rfl rfl hq_22 dX12_copyPairs_22 ?_
            refine lv_iload_n hx hb dX12_copyPairs_23 rfl (lv_at hl 3 rfl) ?_
            obtain ⟨hi, hf⟩ := ck_some hf
            refine x_zald2 hx hb hE hP 1 rfl hq_22 hi dX12_copyPairs_24 ?_
            obtain ⟨hi, hf⟩ := ck_some hf
            obtain ⟨p1_25, e_p1_25, hf⟩ := lt_some hf
            refine x_zast2 (I' := [[gO (G 6) a_p0 r_p0 n_p0], gI (G 2) r_p0 n_p0 w_p0 p0, [gO (G 6) a_p1 r_p1 n_p1], gI (G 2) r_p1 n_p1 w_p1 p1_25]) hx hb hE hP hN hS 3 rfl hq_18 hi e_p1_25 rfl dX12_copyPairs_25 (fun H locs hP hS => ?_)
            obtain ⟨v3_26, e_v3_26, hf⟩ := lt_some hf
            refine lv_iinc (v := v3_26) (lv' := [(3, .int v3_26), (0, .ref a_p0), (1, .ref a_p1), (2, .int v2)]) hx hb dX12_copyPairs_26 hl (k := 3) rfl (by rw [e_v3_26]; rfl) (by decide) rfl (fun ls hl => ?_)
            refine lv_goto (tgt := 10) hx hb dX12_copyPairs_29 (by decide) ?_
            exact ih_10 v3_26 p1_25 H locs ls hP hS (lv_sub hl [1, 2, 3, 0] rfl) hf
      refine lv_iload_n hx hb dX12_copyPairs_2 rfl (lv_at hl 2 rfl) ?_
      refine lv_bipush (v := 8) hx hb dX12_copyPairs_3 (by decide) ?_
      refine lv_icmp_ge (tgt := 38) hx hb dX12_copyPairs_5 (by decide) (fun c_5 => ?_) (fun c_5 => ?_)
      · have hf := it_pos c_5 hf
        have hf := Option.some.inj hf
        rewrite [← hQ, ← hf]
        exact x_vret hx hb hr hlocks hP hS dX12_copyPairs_38
      · have hf := it_neg c_5 hf
        refine lv_iconst (v := 0) hx hb dX12_copyPairs_8 (by decide) ?_
        obtain ⟨v3_9, e_v3_9, hf⟩ := lt_some hf
        refine x_istore_n (v := v3_9) (lv' := [(3, .int v3_9), (0, .ref a_p0), (1, .ref a_p1), (2, .int v2)]) hx hb dX12_copyPairs_9 e_v3_9 rfl hl (by decide) rfl (fun ls hl => ?_)
        exact L10 v2   fu v3_9 p1 H locs ls hP hS (lv_sub hl [1, 2, 3, 0] rfl) hf
  refine lv_iconst (v := 0) hx hb dX12_copyPairs_0 (by decide) ?_
  obtain ⟨v2_1, e_v2_1, hf⟩ := lt_some hf
  refine x_istore_n (v := v2_1) (lv' := [(2, .int v2_1), (0, .ref a_p0), (1, .ref a_p1)]) hx hb dX12_copyPairs_1 e_v2_1 rfl hl (by decide) rfl (fun ls hl => ?_)
  exact L2    fu v2_1 p1 H locs ls hP hS (lv_sub hl [1, 2, 0] rfl) hf

def f_X12_copyRow_L2 (p0 : (Nat → Int32)) (n_p0 : Nat) (n_p1 : Nat) (rec_2 : Int32 → (Nat → Int32) → Option ((Nat → Int32))) (v2 : Int32) (p1 : (Nat → Int32)) : Option ((Nat → Int32)) :=
  if (Int32.ofNat n_p0) ≤ v2 then (some p1) else (ck v2 n_p0 (ck v2 n_p1 (lt (upd p1 v2.toNatClampNeg (p0 v2.toNatClampNeg)) (fun p1_13 => lt (v2 + 1) (fun v2_14 => rec_2 v2_14 p1_13)))))
def f_X12_copyRow (fu : Nat) (p0 : (Nat → Int32)) (p1 : (Nat → Int32)) (n_p0 : Nat) (n_p1 : Nat) : Option ((Nat → Int32)) :=
  lt (0 : Int32) (fun v2_1 => lp (τ := Int32 → (Nat → Int32) → Option ((Nat → Int32))) (fun _ _ => none) (f_X12_copyRow_L2 p0 n_p0 n_p1) fu v2_1 p1)
set_option maxHeartbeats 4000000 in
set_option maxRecDepth 100000 in
theorem k_X12_copyRow (l : Launch) (D : va_G) (G : Nat → ClassId) (fu : Nat) (a_p0 : Nat) (a_p1 : Nat) (p0 : (Nat → Int32)) (p1 : (Nat → Int32)) (n_p0 : Nat) (n_p1 : Nat)  (out : (Nat → Int32)) (hf : f_X12_copyRow fu p0 p1 n_p0 n_p1 = some out) : xMet l yX12_copyRow wsX12_copyRow (rM 0 0) D G [.ref a_p0, .ref a_p1] [[(a_p0, .inl (G 0, n_p0, .inl p0))], [(a_p1, .inl (G 0, n_p1, .inl p1))]] (xQv D [[(a_p0, .inl (G 0, n_p0, .inl p0))], [(a_p1, .inl (G 0, n_p1, .inl out))]]) := by
  refine x_ent (cc := cX12_copyRow) (maxL := 3) (by decide) rfl (Nat.le_of_ble_eq_true rfl) ?_
  intro p e s m blw meth c aa ls args Q H locs hQ hx hb hr hml hown hts hlocks hE hN hl hP hS
  have hown : s.vm.findClass RX12 = some m.cls := hown
  have hl : lv_has ls 3 [(0, .ref a_p0), (1, .ref a_p1)] := hl
  have L2 : ∀ (n_2 : Nat) (v2 : Int32) (p1 : (Nat → Int32)) (H : Heap) (locs : List Loc) (ls : Array Slot), xW D aa [[(a_p0, .inl (G 0, n_p0, .inl p0))], [(a_p1, .inl (G 0, n_p1, .inl p1))]] H → va_S (xA aa) s.heap H locs → lv_has ls 3 [(0, .ref a_p0), (1, .ref a_p1), (2, .int v2)] → lp (τ := Int32 → (Nat → Int32) → Option ((Nat → Int32))) (fun _ _ => none) (f_X12_copyRow_L2 p0 n_p0 n_p1) n_2 v2 p1 = some out → W p l e (rM 0 0) s m args blw meth c H locs 0 0 Q (F0 m 2 ls []) := by
    intro    n_2
    induction n_2 with
    | zero =>
      intro v2 p1 H locs ls hP hS hl hf
      exact no_some hf
    | succ n_2 ih_2 =>
      intro v2 p1 H locs ls hP hS hl hf
      have hf : f_X12_copyRow_L2 p0 n_p0 n_p1 (lp (τ := Int32 → (Nat → Int32) → Option ((Nat → Int32))) (fun _ _ => none) (f_X12_copyRow_L2 p0 n_p0 n_p1) n_2) v2 p1 = some out := hf
      refine lv_iload_n hx hb dX12_copyRow_2 rfl (lv_at hl 2 rfl) ?_
      refine lv_aload_n hx hb dX12_copyRow_3 rfl (lv_at hl 0 rfl) ?_
      refine x_alen (v := Int32.ofNat n_p0) hx hb hE hP 0 0 rfl rfl rfl dX12_copyRow_4 ?_
      refine lv_icmp_ge (tgt := 20) hx hb dX12_copyRow_5 (by decide) (fun c_5 => ?_) (fun c_5 => ?_)
      · have hf := it_pos c_5 hf
        have hf := Option.some.inj hf
        rewrite [← hQ, ← hf]
        exact x_vret hx hb hr hlocks hP hS dX12_copyRow_20
      · have hf := it_neg c_5 hf
        refine lv_aload_n hx hb dX12_copyRow_8 rfl (lv_at hl 1 rfl) ?_
        refine lv_iload_n hx hb dX12_copyRow_9 rfl (lv_at hl 2 rfl) ?_
        refine lv_aload_n hx hb dX12_copyRow_10 rfl (lv_at hl 0 rfl) ?_
        refine lv_iload_n hx hb dX12_copyRow_11 rfl (lv_at hl 2 rfl) ?_
        obtain ⟨hi, hf⟩ := ck_some hf
        refine x_iald hx hb hE hP 0 rfl hi dX12_copyRow_12 ?_
        obtain ⟨hi, hf⟩ := ck_some hf
        obtain ⟨p1_13, e_p1_13, hf⟩ := lt_some hf
        refine x_iast (I' := [[(a_p0, .inl (G 0, n_p0, .inl p0))], [(a_p1, .inl (G 0, n_p1, .inl p1_13))]]) hx hb hE hP hN hS 1 rfl hi e_p1_13 rfl dX12_copyRow_13 (fun H locs hP hS => ?_)
        obtain ⟨v2_14, e_v2_14, hf⟩ := lt_some hf
        refine lv_iinc (v := v2_14) (lv' := [(2, .int v2_14), (0, .ref a_p0), (1, .ref a_p1)]) hx hb dX12_copyRow_14 hl (k := 2) rfl (by rw [e_v2_14]; rfl) (by decide) rfl (fun ls hl => ?_)
        refine lv_goto (tgt := 2) hx hb dX12_copyRow_17 (by decide) ?_
        exact ih_2 v2_14 p1_13 H locs ls hP hS (lv_sub hl [1, 2, 0] rfl) hf
  refine lv_iconst (v := 0) hx hb dX12_copyRow_0 (by decide) ?_
  obtain ⟨v2_1, e_v2_1, hf⟩ := lt_some hf
  refine x_istore_n (v := v2_1) (lv' := [(2, .int v2_1), (0, .ref a_p0), (1, .ref a_p1)]) hx hb dX12_copyRow_1 e_v2_1 rfl hl (by decide) rfl (fun ls hl => ?_)
  exact L2    fu v2_1 p1 H locs ls hP hS (lv_sub hl [1, 2, 0] rfl) hf

def f_X12_copyTable_L2 (fu : Nat) (p0 : (Nat → Nat → Int32)) (n_p0 : Nat) (w_p0 : Nat) (n_p1 : Nat) (w_p1 : Nat) (rec_2 : Int32 → (Nat → Nat → Int32) → Option ((Nat → Nat → Int32))) (v2 : Int32) (p1 : (Nat → Nat → Int32)) : Option ((Nat → Nat → Int32)) :=
  if (Int32.ofNat n_p0) ≤ v2 then (some p1) else (ck v2 n_p0 (ck v2 n_p1 ((f_X12_copyRow fu (p0 v2.toNatClampNeg) (p1 v2.toNatClampNeg) w_p0 w_p1).bind (fun r_14 => lt (v2 + 1) (fun v2_17 => rec_2 v2_17 (va_up p1 v2.toNatClampNeg r_14))))))
def f_X12_copyTable (fu : Nat) (p0 : (Nat → Nat → Int32)) (p1 : (Nat → Nat → Int32)) (n_p0 : Nat) (w_p0 : Nat) (n_p1 : Nat) (w_p1 : Nat) : Option ((Nat → Nat → Int32)) :=
  lt (0 : Int32) (fun v2_1 => lp (τ := Int32 → (Nat → Nat → Int32) → Option ((Nat → Nat → Int32))) (fun _ _ => none) (f_X12_copyTable_L2 fu p0 n_p0 w_p0 n_p1 w_p1) fu v2_1 p1)
set_option maxHeartbeats 4000000 in
set_option maxRecDepth 100000 in
theorem k_X12_copyTable (l : Launch) (D : va_G) (G : Nat → ClassId) (fu : Nat) (a_p0 : Nat) (a_p1 : Nat) (r_p0 : Nat → Nat) (r_p1 : Nat → Nat) (p0 : (Nat → Nat → Int32)) (p1 : (Nat → Nat → Int32)) (n_p0 : Nat) (w_p0 : Nat) (n_p1 : Nat) (w_p1 : Nat)  (out : (Nat → Nat → Int32)) (hf : f_X12_copyTable fu p0 p1 n_p0 w_p0 n_p1 w_p1 = some out) : xMet l yX12_copyTable wsX12_copyTable (rM 1 22) D G [.ref a_p0, .ref a_p1] [[gO (G 4) a_p0 r_p0 n_p0], gI (G 0) r_p0 n_p0 w_p0 p0, [gO (G 4) a_p1 r_p1 n_p1], gI (G 0) r_p1 n_p1 w_p1 p1] (xQv D [[gO (G 4) a_p0 r_p0 n_p0], gI (G 0) r_p0 n_p0 w_p0 p0, [gO (G 4) a_p1 r_p1 n_p1], gI (G 0) r_p1 n_p1 w_p1 out]) := by
  refine x_ent (cc := cX12_copyTable) (maxL := 3) (by decide) rfl (Nat.le_of_ble_eq_true rfl) ?_
  intro p e s m blw meth c aa ls args Q H locs hQ hx hb hr hml hown hts hlocks hE hN hl hP hS
  have hown : s.vm.findClass RX12 = some m.cls := hown
  have hl : lv_has ls 3 [(0, .ref a_p0), (1, .ref a_p1)] := hl
  have L2 : ∀ (n_2 : Nat) (v2 : Int32) (p1 : (Nat → Nat → Int32)) (H : Heap) (locs : List Loc) (ls : Array Slot), xW D aa [[gO (G 4) a_p0 r_p0 n_p0], gI (G 0) r_p0 n_p0 w_p0 p0, [gO (G 4) a_p1 r_p1 n_p1], gI (G 0) r_p1 n_p1 w_p1 p1] H → va_S (xA aa) s.heap H locs → lv_has ls 3 [(0, .ref a_p0), (1, .ref a_p1), (2, .int v2)] → lp (τ := Int32 → (Nat → Nat → Int32) → Option ((Nat → Nat → Int32))) (fun _ _ => none) (f_X12_copyTable_L2 fu p0 n_p0 w_p0 n_p1 w_p1) n_2 v2 p1 = some out → W p l e (rM 1 22) s m args blw meth c H locs 0 0 Q (F0 m 2 ls []) := by
    intro    n_2
    induction n_2 with
    | zero =>
      intro v2 p1 H locs ls hP hS hl hf
      exact no_some hf
    | succ n_2 ih_2 =>
      intro v2 p1 H locs ls hP hS hl hf
      have hf : f_X12_copyTable_L2 fu p0 n_p0 w_p0 n_p1 w_p1 (lp (τ := Int32 → (Nat → Nat → Int32) → Option ((Nat → Nat → Int32))) (fun _ _ => none) (f_X12_copyTable_L2 fu p0 n_p0 w_p0 n_p1 w_p1) n_2) v2 p1 = some out := hf
      refine lv_iload_n hx hb dX12_copyTable_2 rfl (lv_at hl 2 rfl) ?_
      refine lv_aload_n hx hb dX12_copyTable_3 rfl (lv_at hl 0 rfl) ?_
      refine x_alen (v := Int32.ofNat n_p0) hx hb hE hP 0 4 rfl rfl rfl dX12_copyTable_4 ?_
      refine lv_icmp_ge (tgt := 23) hx hb dX12_copyTable_5 (by decide) (fun c_5 => ?_) (fun c_5 => ?_)
      · have hf := it_pos c_5 hf
        have hf := Option.some.inj hf
        rewrite [← hQ, ← hf]
        exact x_vret hx hb hr hlocks hP hS dX12_copyTable_23
      · have hf := it_neg c_5 hf
        refine lv_aload_n hx hb dX12_copyTable_8 rfl (lv_at hl 0 rfl) ?_
        refine lv_iload_n hx hb dX12_copyTable_9 rfl (lv_at hl 2 rfl) ?_
        obtain ⟨hq_10, hf⟩ := ck_some hf
        refine x_aald hx hb hE hP 0 4 rfl rfl hq_10 dX12_copyTable_10 ?_
        refine lv_aload_n hx hb dX12_copyTable_11 rfl (lv_at hl 1 rfl) ?_
        refine lv_iload_n hx hb dX12_copyTable_12 rfl (lv_at hl 2 rfl) ?_
        obtain ⟨hq_13, hf⟩ := ck_some hf
        refine x_aald hx hb hE hP 2 4 rfl rfl hq_13 dX12_copyTable_13 ?_
        obtain ⟨r_14, hr_14, hf⟩ := bd_some hf
        obtain ⟨aa0, hP0, hN0, hS0, hb0, hc0⟩ := x_focI 1 hP hN hS rfl hq_10
        have hP0 : xW D aa0 [[gO (G 4) a_p0 r_p0 n_p0], gIx (G 0) r_p0 n_p0 w_p0 p0 v2.toNatClampNeg, [gO (G 4) a_p1 r_p1 n_p1], gI (G 0) r_p1 n_p1 w_p1 p1, [(r_p0 v2.toNatClampNeg, .inl (G 0, w_p0, .inl (p0 v2.toNatClampNeg)))]] H := hP0
        obtain ⟨aa1, hP1, hN1, hS1, hb1, hc1⟩ := x_focI 3 hP0 hN0 hS0 rfl hq_13
        have hP1 : xW D aa1 [[gO (G 4) a_p0 r_p0 n_p0], gIx (G 0) r_p0 n_p0 w_p0 p0 v2.toNatClampNeg, [gO (G 4) a_p1 r_p1 n_p1], gIx (G 0) r_p1 n_p1 w_p1 p1 v2.toNatClampNeg, [(r_p0 v2.toNatClampNeg, .inl (G 0, w_p0, .inl (p0 v2.toNatClampNeg)))], [(r_p1 v2.toNatClampNeg, .inl (G 0, w_p1, .inl (p1 v2.toNatClampNeg)))]] H := hP1
        refine x_gov (ps := [4, 5]) (qs := [0, 1, 2, 3]) (n := 6) (I' := [[gO (G 4) a_p0 r_p0 n_p0], gIx (G 0) r_p0 n_p0 w_p0 p0 v2.toNatClampNeg, [gO (G 4) a_p1 r_p1 n_p1], gIx (G 0) r_p1 n_p1 w_p1 p1 v2.toNatClampNeg, [(r_p0 v2.toNatClampNeg, .inl (G 0, w_p0, .inl (p0 v2.toNatClampNeg)))], [(r_p1 v2.toNatClampNeg, .inl (G 0, w_p1, .inl r_14))]]) (x_runS (As := [.ref (r_p0 v2.toNatClampNeg), .ref (r_p1 v2.toNatClampNeg)]) (rest := []) (ps := [4, 5]) ⟨hx, hb, hml, hown, hts⟩ (k_X12_copyRow l D G fu (r_p0 v2.toNatClampNeg) (r_p1 v2.toNatClampNeg) (p0 v2.toNatClampNeg) (p1 v2.toNatClampNeg) w_p0 w_p1 r_14 hr_14) (va_cwS 2 hts gX12_copyTable_X12_copyRow rfl rfl rfl (by decide +kernel) ⟨Nat.le_of_ble_eq_true rfl, Nat.le_of_ble_eq_true rfl⟩) hE hP1 hN1 rfl (by decide) rfl hl.1 (Nat.le_of_ble_eq_true rfl) dX12_copyTable_14 ⟨Nat.zero_le _, Nat.zero_le _⟩) hP1 hN1 hS1 rfl rfl rfl rfl rfl (by decide) (fun H locs hP1 hS1 => ?_)
        obtain ⟨hP0, hS0⟩ := hb1 [[gO (G 4) a_p0 r_p0 n_p0], gIx (G 0) r_p0 n_p0 w_p0 p0 v2.toNatClampNeg, [gO (G 4) a_p1 r_p1 n_p1], gIx (G 0) r_p1 n_p1 w_p1 p1 v2.toNatClampNeg, [(r_p0 v2.toNatClampNeg, .inl (G 0, w_p0, .inl (p0 v2.toNatClampNeg)))]] r_14 H locs rfl hP1 hS1
        have hP0 : xW D aa0 [[gO (G 4) a_p0 r_p0 n_p0], gIx (G 0) r_p0 n_p0 w_p0 p0 v2.toNatClampNeg, [gO (G 4) a_p1 r_p1 n_p1], gI (G 0) r_p1 n_p1 w_p1 (va_up p1 v2.toNatClampNeg r_14), [(r_p0 v2.toNatClampNeg, .inl (G 0, w_p0, .inl (p0 v2.toNatClampNeg)))]] H := hP0
        obtain ⟨hP, hS⟩ := hc0 [[gO (G 4) a_p0 r_p0 n_p0], gIx (G 0) r_p0 n_p0 w_p0 p0 v2.toNatClampNeg, [gO (G 4) a_p1 r_p1 n_p1], gI (G 0) r_p1 n_p1 w_p1 (va_up p1 v2.toNatClampNeg r_14)] H locs rfl hP0 hS0
        have hP : xW D aa [[gO (G 4) a_p0 r_p0 n_p0], gI (G 0) r_p0 n_p0 w_p0 p0, [gO (G 4) a_p1 r_p1 n_p1], gI (G 0) r_p1 n_p1 w_p1 (va_up p1 v2.toNatClampNeg r_14)] H := hP
        obtain ⟨v2_17, e_v2_17, hf⟩ := lt_some hf
        refine lv_iinc (v := v2_17) (lv' := [(2, .int v2_17), (0, .ref a_p0), (1, .ref a_p1)]) hx hb dX12_copyTable_17 hl (k := 2) rfl (by rw [e_v2_17]; rfl) (by decide) rfl (fun ls hl => ?_)
        refine lv_goto (tgt := 2) hx hb dX12_copyTable_20 (by decide) ?_
        exact ih_2 v2_17 (va_up p1 v2.toNatClampNeg r_14) H locs ls hP hS (lv_sub hl [1, 2, 0] rfl) hf
  refine lv_iconst (v := 0) hx hb dX12_copyTable_0 (by decide) ?_
  obtain ⟨v2_1, e_v2_1, hf⟩ := lt_some hf
  refine x_istore_n (v := v2_1) (lv' := [(2, .int v2_1), (0, .ref a_p0), (1, .ref a_p1)]) hx hb dX12_copyTable_1 e_v2_1 rfl hl (by decide) rfl (fun ls hl => ?_)
  exact L2    fu v2_1 p1 H locs ls hP hS (lv_sub hl [1, 2, 0] rfl) hf

set_option maxRecDepth 20000 in
theorem u_X12_counterexample_X12 : ∀ w ∈ wsX120, w ∈ wsX12_counterexample := xx_pl _ [19, 20, 21, 22, 23, 24, 25, 26, 27, 28, 29, 30, 31, 32, 33, 34, 35, 36, 37, 38, 39, 40, 41, 42, 43, 44, 45, 46, 47, 48, 49, 50, 51, 52, 53, 54, 55, 56, 57, 58, 59, 60, 61, 62, 63, 64, 65, 66, 67, 68, 69, 70] (by decide +kernel)
def f_X12_counterexample_J98 (rec_6 : (Int32 → Option (Int32 × (Nat → Nat → Int32)))) (v1 : Int32) : Option (Int32 × (Nat → Nat → Int32)) :=
  lt (v1 + 1) (fun v1_98 => rec_6 v1_98)
def f_X12_counterexample_J92 (rec_16 : (Int32 → Option (Int32 × (Nat → Nat → Int32)))) (v2 : Int32) : Option (Int32 × (Nat → Nat → Int32)) :=
  lt (v2 + 1) (fun v2_92 => rec_16 v2_92)
def f_X12_counterexample_J86 (rec_28 : (Int32 → Option (Int32 × (Nat → Nat → Int32)))) (v3 : Int32) : Option (Int32 × (Nat → Nat → Int32)) :=
  lt (v3 + 1) (fun v3_86 => rec_28 v3_86)
def f_X12_counterexample_J73  (v1 : Int32) (v2 : Int32) (v3 : Int32) (distances : (Nat → Nat → Int32)) : Option (Int32 × (Nat → Nat → Int32)) :=
  some (((256 * v1) + (16 * v2)) + v3, distances)
def f_X12_counterexample_L28 (fu : Nat) (objects : Int32) (distances : (Nat → Nat → Int32)) (v1 : Int32) (v2 : Int32) (rec_16 : (Int32 → Option (Int32 × (Nat → Nat → Int32)))) (rec_28 : Int32 → Option (Int32 × (Nat → Nat → Int32))) (v3 : Int32) : Option (Int32 × (Nat → Nat → Int32)) :=
  if objects ≤ v3 then (f_X12_counterexample_J92 rec_16 v2) else (ck v1 16 (ck v2 16 (if 1000 ≤ (distances v1.toNatClampNeg v2.toNatClampNeg) then (f_X12_counterexample_J92 rec_16 v2) else (ck v1 16 (ck v3 16 (if 1000 ≤ (distances v1.toNatClampNeg v3.toNatClampNeg) then (f_X12_counterexample_J86 rec_28 v3) else ((f_X12_areJoinable fu objects distances v2 v3).bind (fun r_67 => if ¬ r_67 = 0 then (f_X12_counterexample_J86 rec_28 v3) else (f_X12_counterexample_J73 v1 v2 v3 distances)))))))))
def f_X12_counterexample_L16 (fu : Nat) (objects : Int32) (distances : (Nat → Nat → Int32)) (v1 : Int32) (rec_6 : (Int32 → Option (Int32 × (Nat → Nat → Int32)))) (rec_16 : Int32 → Option (Int32 × (Nat → Nat → Int32))) (v2 : Int32) : Option (Int32 × (Nat → Nat → Int32)) :=
  if objects ≤ v2 then (f_X12_counterexample_J98 rec_6 v1) else (lt (v2 + 1) (fun v3_27 => lp (τ := Int32 → Option (Int32 × (Nat → Nat → Int32))) (fun _ => none) (f_X12_counterexample_L28 fu objects distances v1 v2 rec_16) fu v3_27))
def f_X12_counterexample_L6 (fu : Nat) (objects : Int32) (distances : (Nat → Nat → Int32)) (rec_6 : Int32 → Option (Int32 × (Nat → Nat → Int32))) (v1 : Int32) : Option (Int32 × (Nat → Nat → Int32)) :=
  if objects ≤ v1 then (some ((-2), distances)) else (lt (0 : Int32) (fun v2_15 => lp (τ := Int32 → Option (Int32 × (Nat → Nat → Int32))) (fun _ => none) (f_X12_counterexample_L16 fu objects distances v1 rec_6) fu v2_15))
def f_X12_counterexample (fu : Nat) (objects : Int32) (steps : Int32) (distances : (Nat → Nat → Int32)) (sources : (Nat → Int32)) (targets : (Nat → Int32)) : Option (Int32 × (Nat → Nat → Int32)) :=
  (f_X12_findDistances fu objects steps distances sources targets).bind (fun r_1 => lt (0 : Int32) (fun v1_5 => lp (τ := Int32 → Option (Int32 × (Nat → Nat → Int32))) (fun _ => none) (f_X12_counterexample_L6 fu objects r_1) fu v1_5))
set_option maxHeartbeats 4000000 in
set_option maxRecDepth 100000 in
theorem k_X12_counterexample (l : Launch) (D : va_G) (G : Nat → ClassId) (fu : Nat) (h : Nat) (a_pairs : Nat) (a_above : Nat) (a_sources : Nat) (a_targets : Nat) (a_labels : Nat) (a_lengths : Nat) (a_letters : Nat) (a_distances : Nat) (a_longest : Nat) (a_lengthsTo : Nat) (a_lengthsFrom : Nat) (a_path : Nat) (a_output : Nat) (a_found : Nat) (a_keptLabels : Nat) (a_keptPairs : Nat) (a_input : Nat) (a_sides : Nat) (a_sideLengths : Nat) (a_newLengths : Nat) (a_newLetters : Nat) (a_newSources : Nat) (a_newTargets : Nat) (a_newLabels : Nat) (a_word : Nat) (a_failed : Nat) (a_sizes : Nat) (a_arrays : Nat) (a_savedLengths : Nat) (a_savedSources : Nat) (a_savedTargets : Nat) (a_savedLabels : Nat) (a_savedSideLengths : Nat) (a_savedLetters : Nat) (a_savedSides : Nat) (a_savedPairs : Nat) (r_distances : Nat → Nat) (objects : Int32) (steps : Int32) (firstStep : Int32) (secondStep : Int32) (pathLength : Int32) (outputLength : Int32) (foundSteps : Int32) (inputLength : Int32) (rules : Int32) (newObjects : Int32) (newSteps : Int32) (wordSize : Int32) (hasSnapshot : Int32) (savedObjects : Int32) (savedSteps : Int32) (savedRules : Int32) (distances : (Nat → Nat → Int32)) (sources : (Nat → Int32)) (targets : (Nat → Int32))   (out : Int32 × (Nat → Nat → Int32)) (hf : f_X12_counterexample fu objects steps distances sources targets = some out) : xMet l yX12_counterexample wsX12_counterexample (rM 2 45) D G [.ref h] [[(h, .inr (11, [.ref a_pairs, .ref a_above, .int objects, .int steps, .ref a_sources, .ref a_targets, .ref a_labels, .ref a_lengths, .ref a_letters, .ref a_distances, .ref a_longest, .int firstStep, .int secondStep, .ref a_lengthsTo, .ref a_lengthsFrom, .ref a_path, .int pathLength, .ref a_output, .int outputLength, .ref a_found, .int foundSteps, .ref a_keptLabels, .ref a_keptPairs, .ref a_input, .int inputLength, .int rules, .ref a_sides, .ref a_sideLengths, .int newObjects, .int newSteps, .ref a_newLengths, .ref a_newLetters, .ref a_newSources, .ref a_newTargets, .ref a_newLabels, .ref a_word, .int wordSize, .ref a_failed, .ref a_sizes, .ref a_arrays, .int hasSnapshot, .int savedObjects, .int savedSteps, .int savedRules, .ref a_savedLengths, .ref a_savedSources, .ref a_savedTargets, .ref a_savedLabels, .ref a_savedSideLengths, .ref a_savedLetters, .ref a_savedSides, .ref a_savedPairs]))], [gO (G 4) a_distances r_distances 16], gI (G 0) r_distances 16 16 distances, [(a_sources, .inl (G 0, 32, .inl sources))], [(a_targets, .inl (G 0, 32, .inl targets))]] (xQi D [[(h, .inr (11, [.ref a_pairs, .ref a_above, .int objects, .int steps, .ref a_sources, .ref a_targets, .ref a_labels, .ref a_lengths, .ref a_letters, .ref a_distances, .ref a_longest, .int firstStep, .int secondStep, .ref a_lengthsTo, .ref a_lengthsFrom, .ref a_path, .int pathLength, .ref a_output, .int outputLength, .ref a_found, .int foundSteps, .ref a_keptLabels, .ref a_keptPairs, .ref a_input, .int inputLength, .int rules, .ref a_sides, .ref a_sideLengths, .int newObjects, .int newSteps, .ref a_newLengths, .ref a_newLetters, .ref a_newSources, .ref a_newTargets, .ref a_newLabels, .ref a_word, .int wordSize, .ref a_failed, .ref a_sizes, .ref a_arrays, .int hasSnapshot, .int savedObjects, .int savedSteps, .int savedRules, .ref a_savedLengths, .ref a_savedSources, .ref a_savedTargets, .ref a_savedLabels, .ref a_savedSideLengths, .ref a_savedLetters, .ref a_savedSides, .ref a_savedPairs]))], [gO (G 4) a_distances r_distances 16], gI (G 0) r_distances 16 16 out.2, [(a_sources, .inl (G 0, 32, .inl sources))], [(a_targets, .inl (G 0, 32, .inl targets))]] out.1) := by
  refine x_ent (cc := cX12_counterexample) (maxL := 4) (by decide) rfl (Nat.le_of_ble_eq_true rfl) ?_
  intro p e s m blw meth c aa ls args Q H locs hQ hx hb hr hml hown hts hlocks hE hN hl hP hS
  have hown : s.vm.findClass RX12 = some m.cls := hown
  have hl : lv_has ls 4 [(0, .ref h)] := hl
  have J73 : ∀ (v1 : Int32) (v2 : Int32) (v3 : Int32) (distances : (Nat → Nat → Int32)) (H : Heap) (locs : List Loc) (ls : Array Slot), xW D aa [[(h, .inr (11, [.ref a_pairs, .ref a_above, .int objects, .int steps, .ref a_sources, .ref a_targets, .ref a_labels, .ref a_lengths, .ref a_letters, .ref a_distances, .ref a_longest, .int firstStep, .int secondStep, .ref a_lengthsTo, .ref a_lengthsFrom, .ref a_path, .int pathLength, .ref a_output, .int outputLength, .ref a_found, .int foundSteps, .ref a_keptLabels, .ref a_keptPairs, .ref a_input, .int inputLength, .int rules, .ref a_sides, .ref a_sideLengths, .int newObjects, .int newSteps, .ref a_newLengths, .ref a_newLetters, .ref a_newSources, .ref a_newTargets, .ref a_newLabels, .ref a_word, .int wordSize, .ref a_failed, .ref a_sizes, .ref a_arrays, .int hasSnapshot, .int savedObjects, .int savedSteps, .int savedRules, .ref a_savedLengths, .ref a_savedSources, .ref a_savedTargets, .ref a_savedLabels, .ref a_savedSideLengths, .ref a_savedLetters, .ref a_savedSides, .ref a_savedPairs]))], [gO (G 4) a_distances r_distances 16], gI (G 0) r_distances 16 16 distances, [(a_sources, .inl (G 0, 32, .inl sources))], [(a_targets, .inl (G 0, 32, .inl targets))]] H → va_S (xA aa) s.heap H locs → lv_has ls 4 [(1, .int v1), (2, .int v2), (3, .int v3)] → f_X12_counterexample_J73  v1 v2 v3 distances = some out → W p l e (rM 2 45) s m args blw meth c H locs 0 0 Q (F0 m 73 ls []) := by
    intro v1 v2 v3 distances  H locs ls  hP hS hl hf
    refine lv_sipush (v := 256) hx hb dX12_counterexample_73 (by decide) ?_
    refine lv_iload_n hx hb dX12_counterexample_76 rfl (lv_at hl 0 rfl) ?_
    refine lv_imul hx hb dX12_counterexample_77 ?_
    refine lv_bipush (v := 16) hx hb dX12_counterexample_78 (by decide) ?_
    refine lv_iload_n hx hb dX12_counterexample_80 rfl (lv_at hl 1 rfl) ?_
    refine lv_imul hx hb dX12_counterexample_81 ?_
    refine lv_iadd hx hb dX12_counterexample_82 ?_
    refine lv_iload_n hx hb dX12_counterexample_83 rfl (lv_at hl 2 rfl) ?_
    refine lv_iadd hx hb dX12_counterexample_84 ?_
    have hf := Option.some.inj hf
    rewrite [← hQ, ← hf]
    exact x_iret hx hb hr hlocks hP hS dX12_counterexample_85
  have L6 : ∀ (distances : (Nat → Nat → Int32)), ∀ (n_6 : Nat) (v1 : Int32) (H : Heap) (locs : List Loc) (ls : Array Slot), xW D aa [[(h, .inr (11, [.ref a_pairs, .ref a_above, .int objects, .int steps, .ref a_sources, .ref a_targets, .ref a_labels, .ref a_lengths, .ref a_letters, .ref a_distances, .ref a_longest, .int firstStep, .int secondStep, .ref a_lengthsTo, .ref a_lengthsFrom, .ref a_path, .int pathLength, .ref a_output, .int outputLength, .ref a_found, .int foundSteps, .ref a_keptLabels, .ref a_keptPairs, .ref a_input, .int inputLength, .int rules, .ref a_sides, .ref a_sideLengths, .int newObjects, .int newSteps, .ref a_newLengths, .ref a_newLetters, .ref a_newSources, .ref a_newTargets, .ref a_newLabels, .ref a_word, .int wordSize, .ref a_failed, .ref a_sizes, .ref a_arrays, .int hasSnapshot, .int savedObjects, .int savedSteps, .int savedRules, .ref a_savedLengths, .ref a_savedSources, .ref a_savedTargets, .ref a_savedLabels, .ref a_savedSideLengths, .ref a_savedLetters, .ref a_savedSides, .ref a_savedPairs]))], [gO (G 4) a_distances r_distances 16], gI (G 0) r_distances 16 16 distances, [(a_sources, .inl (G 0, 32, .inl sources))], [(a_targets, .inl (G 0, 32, .inl targets))]] H → va_S (xA aa) s.heap H locs → lv_has ls 4 [(0, .ref h), (1, .int v1)] → lp (τ := Int32 → Option (Int32 × (Nat → Nat → Int32))) (fun _ => none) (f_X12_counterexample_L6 fu objects distances) n_6 v1 = some out → W p l e (rM 2 45) s m args blw meth c H locs 0 0 Q (F0 m 6 ls []) := by
    intro distances   n_6
    induction n_6 with
    | zero =>
      intro v1 H locs ls hP hS hl hf
      exact no_some hf
    | succ n_6 ih_6 =>
      intro v1 H locs ls hP hS hl hf
      have hf : f_X12_counterexample_L6 fu objects distances (lp (τ := Int32 → Option (Int32 × (Nat → Nat → Int32))) (fun _ => none) (f_X12_counterexample_L6 fu objects distances) n_6) v1 = some out := hf
      have J98 : ∀ (v1 : Int32) (H : Heap) (locs : List Loc) (ls : Array Slot), xW D aa [[(h, .inr (11, [.ref a_pairs, .ref a_above, .int objects, .int steps, .ref a_sources, .ref a_targets, .ref a_labels, .ref a_lengths, .ref a_letters, .ref a_distances, .ref a_longest, .int firstStep, .int secondStep, .ref a_lengthsTo, .ref a_lengthsFrom, .ref a_path, .int pathLength, .ref a_output, .int outputLength, .ref a_found, .int foundSteps, .ref a_keptLabels, .ref a_keptPairs, .ref a_input, .int inputLength, .int rules, .ref a_sides, .ref a_sideLengths, .int newObjects, .int newSteps, .ref a_newLengths, .ref a_newLetters, .ref a_newSources, .ref a_newTargets, .ref a_newLabels, .ref a_word, .int wordSize, .ref a_failed, .ref a_sizes, .ref a_arrays, .int hasSnapshot, .int savedObjects, .int savedSteps, .int savedRules, .ref a_savedLengths, .ref a_savedSources, .ref a_savedTargets, .ref a_savedLabels, .ref a_savedSideLengths, .ref a_savedLetters, .ref a_savedSides, .ref a_savedPairs]))], [gO (G 4) a_distances r_distances 16], gI (G 0) r_distances 16 16 distances, [(a_sources, .inl (G 0, 32, .inl sources))], [(a_targets, .inl (G 0, 32, .inl targets))]] H → va_S (xA aa) s.heap H locs → lv_has ls 4 [(0, .ref h), (1, .int v1)] → f_X12_counterexample_J98 (lp (τ := Int32 → Option (Int32 × (Nat → Nat → Int32))) (fun _ => none) (f_X12_counterexample_L6 fu objects distances) n_6) v1 = some out → W p l e (rM 2 45) s m args blw meth c H locs 0 0 Q (F0 m 98 ls []) := by
        intro v1  H locs ls  hP hS hl hf
        obtain ⟨v1_98, e_v1_98, hf⟩ := lt_some hf
        refine lv_iinc (v := v1_98) (lv' := [(1, .int v1_98), (0, .ref h)]) hx hb dX12_counterexample_98 hl (k := 1) rfl (by rw [e_v1_98]; rfl) (by decide) rfl (fun ls hl => ?_)
        refine lv_goto (tgt := 6) hx hb dX12_counterexample_101 (by decide) ?_
        exact ih_6 v1_98 H locs ls hP hS (lv_sub hl [1, 0] rfl) hf
      have L16 : ∀ (v1 : Int32), ∀ (n_16 : Nat) (v2 : Int32) (H : Heap) (locs : List Loc) (ls : Array Slot), xW D aa [[(h, .inr (11, [.ref a_pairs, .ref a_above, .int objects, .int steps, .ref a_sources, .ref a_targets, .ref a_labels, .ref a_lengths, .ref a_letters, .ref a_distances, .ref a_longest, .int firstStep, .int secondStep, .ref a_lengthsTo, .ref a_lengthsFrom, .ref a_path, .int pathLength, .ref a_output, .int outputLength, .ref a_found, .int foundSteps, .ref a_keptLabels, .ref a_keptPairs, .ref a_input, .int inputLength, .int rules, .ref a_sides, .ref a_sideLengths, .int newObjects, .int newSteps, .ref a_newLengths, .ref a_newLetters, .ref a_newSources, .ref a_newTargets, .ref a_newLabels, .ref a_word, .int wordSize, .ref a_failed, .ref a_sizes, .ref a_arrays, .int hasSnapshot, .int savedObjects, .int savedSteps, .int savedRules, .ref a_savedLengths, .ref a_savedSources, .ref a_savedTargets, .ref a_savedLabels, .ref a_savedSideLengths, .ref a_savedLetters, .ref a_savedSides, .ref a_savedPairs]))], [gO (G 4) a_distances r_distances 16], gI (G 0) r_distances 16 16 distances, [(a_sources, .inl (G 0, 32, .inl sources))], [(a_targets, .inl (G 0, 32, .inl targets))]] H → va_S (xA aa) s.heap H locs → lv_has ls 4 [(0, .ref h), (1, .int v1), (2, .int v2)] → lp (τ := Int32 → Option (Int32 × (Nat → Nat → Int32))) (fun _ => none) (f_X12_counterexample_L16 fu objects distances v1 (lp (τ := Int32 → Option (Int32 × (Nat → Nat → Int32))) (fun _ => none) (f_X12_counterexample_L6 fu objects distances) n_6)) n_16 v2 = some out → W p l e (rM 2 45) s m args blw meth c H locs 0 0 Q (F0 m 16 ls []) := by
        intro v1   n_16
        induction n_16 with
        | zero =>
          intro v2 H locs ls hP hS hl hf
          exact no_some hf
        | succ n_16 ih_16 =>
          intro v2 H locs ls hP hS hl hf
          have hf : f_X12_counterexample_L16 fu objects distances v1 (lp (τ := Int32 → Option (Int32 × (Nat → Nat → Int32))) (fun _ => none) (f_X12_counterexample_L6 fu objects distances) n_6) (lp (τ := Int32 → Option (Int32 × (Nat → Nat → Int32))) (fun _ => none) (f_X12_counterexample_L16 fu objects distances v1 (lp (τ := Int32 → Option (Int32 × (Nat → Nat → Int32))) (fun _ => none) (f_X12_counterexample_L6 fu objects distances) n_6)) n_16) v2 = some out := hf
          have J92 : ∀ (v2 : Int32) (H : Heap) (locs : List Loc) (ls : Array Slot), xW D aa [[(h, .inr (11, [.ref a_pairs, .ref a_above, .int objects, .int steps, .ref a_sources, .ref a_targets, .ref a_labels, .ref a_lengths, .ref a_letters, .ref a_distances, .ref a_longest, .int firstStep, .int secondStep, .ref a_lengthsTo, .ref a_lengthsFrom, .ref a_path, .int pathLength, .ref a_output, .int outputLength, .ref a_found, .int foundSteps, .ref a_keptLabels, .ref a_keptPairs, .ref a_input, .int inputLength, .int rules, .ref a_sides, .ref a_sideLengths, .int newObjects, .int newSteps, .ref a_newLengths, .ref a_newLetters, .ref a_newSources, .ref a_newTargets, .ref a_newLabels, .ref a_word, .int wordSize, .ref a_failed, .ref a_sizes, .ref a_arrays, .int hasSnapshot, .int savedObjects, .int savedSteps, .int savedRules, .ref a_savedLengths, .ref a_savedSources, .ref a_savedTargets, .ref a_savedLabels, .ref a_savedSideLengths, .ref a_savedLetters, .ref a_savedSides, .ref a_savedPairs]))], [gO (G 4) a_distances r_distances 16], gI (G 0) r_distances 16 16 distances, [(a_sources, .inl (G 0, 32, .inl sources))], [(a_targets, .inl (G 0, 32, .inl targets))]] H → va_S (xA aa) s.heap H locs → lv_has ls 4 [(0, .ref h), (1, .int v1), (2, .int v2)] → f_X12_counterexample_J92 (lp (τ := Int32 → Option (Int32 × (Nat → Nat → Int32))) (fun _ => none) (f_X12_counterexample_L16 fu objects distances v1 (lp (τ := Int32 → Option (Int32 × (Nat → Nat → Int32))) (fun _ => none) (f_X12_counterexample_L6 fu objects distances) n_6)) n_16) v2 = some out → W p l e (rM 2 45) s m args blw meth c H locs 0 0 Q (F0 m 92 ls []) := by
            intro v2  H locs ls  hP hS hl hf
            obtain ⟨v2_92, e_v2_92, hf⟩ := lt_some hf
            refine lv_iinc (v := v2_92) (lv' := [(2, .int v2_92), (0, .ref h), (1, .int v1)]) hx hb dX12_counterexample_92 hl (k := 2) rfl (by rw [e_v2_92]; rfl) (by decide) rfl (fun ls hl => ?_)
            refine lv_goto (tgt := 16) hx hb dX12_counterexample_95 (by decide) ?_
            exact ih_16 v2_92 H locs ls hP hS (lv_sub hl [1, 2, 0] rfl) hf
          have L28 : ∀ (v2 : Int32), ∀ (n_28 : Nat) (v3 : Int32) (H : Heap) (locs : List Loc) (ls : Array Slot), xW D aa [[(h, .inr (11, [.ref a_pairs, .ref a_above, .int objects, .int steps, .ref a_sources, .ref a_targets, .ref a_labels, .ref a_lengths, .ref a_letters, .ref a_distances, .ref a_longest, .int firstStep, .int secondStep, .ref a_lengthsTo, .ref a_lengthsFrom, .ref a_path, .int pathLength, .ref a_output, .int outputLength, .ref a_found, .int foundSteps, .ref a_keptLabels, .ref a_keptPairs, .ref a_input, .int inputLength, .int rules, .ref a_sides, .ref a_sideLengths, .int newObjects, .int newSteps, .ref a_newLengths, .ref a_newLetters, .ref a_newSources, .ref a_newTargets, .ref a_newLabels, .ref a_word, .int wordSize, .ref a_failed, .ref a_sizes, .ref a_arrays, .int hasSnapshot, .int savedObjects, .int savedSteps, .int savedRules, .ref a_savedLengths, .ref a_savedSources, .ref a_savedTargets, .ref a_savedLabels, .ref a_savedSideLengths, .ref a_savedLetters, .ref a_savedSides, .ref a_savedPairs]))], [gO (G 4) a_distances r_distances 16], gI (G 0) r_distances 16 16 distances, [(a_sources, .inl (G 0, 32, .inl sources))], [(a_targets, .inl (G 0, 32, .inl targets))]] H → va_S (xA aa) s.heap H locs → lv_has ls 4 [(0, .ref h), (1, .int v1), (2, .int v2), (3, .int v3)] → lp (τ := Int32 → Option (Int32 × (Nat → Nat → Int32))) (fun _ => none) (f_X12_counterexample_L28 fu objects distances v1 v2 (lp (τ := Int32 → Option (Int32 × (Nat → Nat → Int32))) (fun _ => none) (f_X12_counterexample_L16 fu objects distances v1 (lp (τ := Int32 → Option (Int32 × (Nat → Nat → Int32))) (fun _ => none) (f_X12_counterexample_L6 fu objects distances) n_6)) n_16)) n_28 v3 = some out → W p l e (rM 2 45) s m args blw meth c H locs 0 0 Q (F0 m 28 ls []) := by
            intro v2   n_28
            induction n_28 with
            | zero =>
              intro v3 H locs ls hP hS hl hf
              exact no_some hf
            | succ n_28 ih_28 =>
              intro v3 H locs ls hP hS hl hf
              have hf : f_X12_counterexample_L28 fu objects distances v1 v2 (lp (τ := Int32 → Option (Int32 × (Nat → Nat → Int32))) (fun _ => none) (f_X12_counterexample_L16 fu objects distances v1 (lp (τ := Int32 → Option (Int32 × (Nat → Nat → Int32))) (fun _ => none) (f_X12_counterexample_L6 fu objects distances) n_6)) n_16) (lp (τ := Int32 → Option (Int32 × (Nat → Nat → Int32))) (fun _ => none) (f_X12_counterexample_L28 fu objects distances v1 v2 (lp (τ := Int32 → Option (Int32 × (Nat → Nat → Int32))) (fun _ => none) (f_X12_counterexample_L16 fu objects distances v1 (lp (τ := Int32 → Option (Int32 × (Nat → Nat → Int32))) (fun _ => none) (f_X12_counterexample_L6 fu objects distances) n_6)) n_16)) n_28) v3 = some out := hf
              have J86 : ∀ (v3 : Int32) (H : Heap) (locs : List Loc) (ls : Array Slot), xW D aa [[(h, .inr (11, [.ref a_pairs, .ref a_above, .int objects, .int steps, .ref a_sources, .ref a_targets, .ref a_labels, .ref a_lengths, .ref a_letters, .ref a_distances, .ref a_longest, .int firstStep, .int secondStep, .ref a_lengthsTo, .ref a_lengthsFrom, .ref a_path, .int pathLength, .ref a_output, .int outputLength, .ref a_found, .int foundSteps, .ref a_keptLabels, .ref a_keptPairs, .ref a_input, .int inputLength, .int rules, .ref a_sides, .ref a_sideLengths, .int newObjects, .int newSteps, .ref a_newLengths, .ref a_newLetters, .ref a_newSources, .ref a_newTargets, .ref a_newLabels, .ref a_word, .int wordSize, .ref a_failed, .ref a_sizes, .ref a_arrays, .int hasSnapshot, .int savedObjects, .int savedSteps, .int savedRules, .ref a_savedLengths, .ref a_savedSources, .ref a_savedTargets, .ref a_savedLabels, .ref a_savedSideLengths, .ref a_savedLetters, .ref a_savedSides, .ref a_savedPairs]))], [gO (G 4) a_distances r_distances 16], gI (G 0) r_distances 16 16 distances, [(a_sources, .inl (G 0, 32, .inl sources))], [(a_targets, .inl (G 0, 32, .inl targets))]] H → va_S (xA aa) s.heap H locs → lv_has ls 4 [(0, .ref h), (1, .int v1), (2, .int v2), (3, .int v3)] → f_X12_counterexample_J86 (lp (τ := Int32 → Option (Int32 × (Nat → Nat → Int32))) (fun _ => none) (f_X12_counterexample_L28 fu objects distances v1 v2 (lp (τ := Int32 → Option (Int32 × (Nat → Nat → Int32))) (fun _ => none) (f_X12_counterexample_L16 fu objects distances v1 (lp (τ := Int32 → Option (Int32 × (Nat → Nat → Int32))) (fun _ => none) (f_X12_counterexample_L6 fu objects distances) n_6)) n_16)) n_28) v3 = some out → W p l e (rM 2 45) s m args blw meth c H locs 0 0 Q (F0 m 86 ls []) := by
                intro v3  H locs ls  hP hS hl hf
                obtain ⟨v3_86, e_v3_86, hf⟩ := lt_some hf
                refine lv_iinc (v := v3_86) (lv' := [(3, .int v3_86), (0, .ref h), (1, .int v1), (2, .int v2)]) hx hb dX12_counterexample_86 hl (k := 3) rfl (by rw [e_v3_86]; rfl) (by decide) rfl (fun ls hl => ?_)
                refine lv_goto (tgt := 28) hx hb dX12_counterexample_89 (by decide) ?_
                exact ih_28 v3_86 H locs ls hP hS (lv_sub hl [1, 2, 3, 0] rfl) hf
              refine lv_iload_n hx hb dX12_counterexample_28 rfl (lv_at hl 3 rfl) ?_
              refine lv_aload_n hx hb dX12_counterexample_29 rfl (lv_at hl 0 rfl) ?_
              refine x_get hx hb hts u_X12_counterexample_X12 hown hE hP 0 rfl rfl 2 (by decide) (hts (.fieldLink RX12 132 "DecreasingDiagramsModel" "objects" "I") (List.mem_of_getElem? (i := 1) rfl)) rfl dX12_counterexample_30 ?_
              refine lv_icmp_ge (tgt := 92) hx hb dX12_counterexample_33 (by decide) (fun c_33 => ?_) (fun c_33 => ?_)
              · have hf := it_pos c_33 hf
                exact J92 v2  H locs ls  hP hS (lv_sub hl [0, 1, 2] rfl) hf
              · have hf := it_neg c_33 hf
                refine lv_aload_n hx hb dX12_counterexample_36 rfl (lv_at hl 0 rfl) ?_
                refine x_get hx hb hts u_X12_counterexample_X12 hown hE hP 0 rfl rfl 9 (by decide) (hts (.fieldLink RX12 35 "DecreasingDiagramsModel" "distances" "[[I") (List.mem_of_getElem? (i := 2) rfl)) rfl dX12_counterexample_37 ?_
                refine lv_iload_n hx hb dX12_counterexample_40 rfl (lv_at hl 1 rfl) ?_
                obtain ⟨hq_41, hf⟩ := ck_some hf
                refine x_aald hx hb hE hP 1 4 rfl rfl hq_41 dX12_counterexample_41 ?_
                refine lv_iload_n hx hb dX12_counterexample_42 rfl (lv_at hl 2 rfl) ?_
                obtain ⟨hi, hf⟩ := ck_some hf
                refine x_iald2 hx hb hE hP 2 rfl hq_41 hi dX12_counterexample_43 ?_
                refine lv_sipush (v := 1000) hx hb dX12_counterexample_44 (by decide) ?_
                refine lv_icmp_ge (tgt := 92) hx hb dX12_counterexample_47 (by decide) (fun c_47 => ?_) (fun c_47 => ?_)
                · have hf := it_pos c_47 hf
                  exact J92 v2  H locs ls  hP hS (lv_sub hl [0, 1, 2] rfl) hf
                · have hf := it_neg c_47 hf
                  refine lv_aload_n hx hb dX12_counterexample_50 rfl (lv_at hl 0 rfl) ?_
                  refine x_get hx hb hts u_X12_counterexample_X12 hown hE hP 0 rfl rfl 9 (by decide) (hts (.fieldLink RX12 35 "DecreasingDiagramsModel" "distances" "[[I") (List.mem_of_getElem? (i := 2) rfl)) rfl dX12_counterexample_51 ?_
                  refine lv_iload_n hx hb dX12_counterexample_54 rfl (lv_at hl 1 rfl) ?_
                  obtain ⟨hq_55, hf⟩ := ck_some hf
                  refine x_aald hx hb hE hP 1 4 rfl rfl hq_55 dX12_counterexample_55 ?_
                  refine lv_iload_n hx hb dX12_counterexample_56 rfl (lv_at hl 3 rfl) ?_
                  obtain ⟨hi, hf⟩ := ck_some hf
                  refine x_iald2 hx hb hE hP 2 rfl hq_55 hi dX12_counterexample_57 ?_
                  refine lv_sipush (v := 1000) hx hb dX12_counterexample_58 (by decide) ?_
                  refine lv_icmp_ge (tgt := 86) hx hb dX12_counterexample_61 (by decide) (fun c_61 => ?_) (fun c_61 => ?_)
                  · have hf := it_pos c_61 hf
                    exact J86 v3  H locs ls  hP hS (lv_sub hl [0, 1, 2, 3] rfl) hf
                  · have hf := it_neg c_61 hf
                    refine lv_aload_n hx hb dX12_counterexample_64 rfl (lv_at hl 0 rfl) ?_
                    refine lv_iload_n hx hb dX12_counterexample_65 rfl (lv_at hl 2 rfl) ?_
                    refine lv_iload_n hx hb dX12_counterexample_66 rfl (lv_at hl 3 rfl) ?_
                    obtain ⟨r_67, hr_67, hf⟩ := bd_some hf
                    refine x_goi0 (ps := [0, 1, 2]) (x_runV (As := [.int v2, .int v3]) (rest := []) (ps := [0, 1, 2]) ⟨hx, hb, hml, hown, hts⟩ (k_X12_areJoinable l D G fu h a_pairs a_above a_sources a_targets a_labels a_lengths a_letters a_distances a_longest a_lengthsTo a_lengthsFrom a_path a_output a_found a_keptLabels a_keptPairs a_input a_sides a_sideLengths a_newLengths a_newLetters a_newSources a_newTargets a_newLabels a_word a_failed a_sizes a_arrays a_savedLengths a_savedSources a_savedTargets a_savedLabels a_savedSideLengths a_savedLetters a_savedSides a_savedPairs r_distances objects steps firstStep secondStep pathLength outputLength foundSteps inputLength rules newObjects newSteps wordSize hasSnapshot savedObjects savedSteps savedRules distances v2 v3 r_67 hr_67) (cwV 2 hts gX12_counterexample_X12_areJoinable rfl rfl rfl (by decide +kernel) ⟨Nat.le_of_ble_eq_true rfl, Nat.le_of_ble_eq_true rfl⟩) hE hP hN rfl (by decide) 0 rfl rfl rfl hl.1 (Nat.le_of_ble_eq_true rfl) dX12_counterexample_67 ⟨Nat.zero_le _, Nat.zero_le _⟩) hP hN hS rfl (fun H locs hP hS => ?_)
                    refine lv_if_ne (tgt := 86) hx hb dX12_counterexample_70 (by decide) (fun c_70 => ?_) (fun c_70 => ?_)
                    · have hf := it_pos c_70 hf
                      exact J86 v3  H locs ls  hP hS (lv_sub hl [0, 1, 2, 3] rfl) hf
                    · have hf := it_neg (fun h => h c_70) hf
                      exact J73 v1 v2 v3 distances  H locs ls  hP hS (lv_sub hl [1, 2, 3] rfl) hf
          refine lv_iload_n hx hb dX12_counterexample_16 rfl (lv_at hl 2 rfl) ?_
          refine lv_aload_n hx hb dX12_counterexample_17 rfl (lv_at hl 0 rfl) ?_
          refine x_get hx hb hts u_X12_counterexample_X12 hown hE hP 0 rfl rfl 2 (by decide) (hts (.fieldLink RX12 132 "DecreasingDiagramsModel" "objects" "I") (List.mem_of_getElem? (i := 1) rfl)) rfl dX12_counterexample_18 ?_
          refine lv_icmp_ge (tgt := 98) hx hb dX12_counterexample_21 (by decide) (fun c_21 => ?_) (fun c_21 => ?_)
          · have hf := it_pos c_21 hf
            exact J98 v1  H locs ls  hP hS (lv_sub hl [0, 1] rfl) hf
          · have hf := it_neg c_21 hf
            refine lv_iload_n hx hb dX12_counterexample_24 rfl (lv_at hl 2 rfl) ?_
            refine lv_iconst (v := 1) hx hb dX12_counterexample_25 (by decide) ?_
            refine lv_iadd hx hb dX12_counterexample_26 ?_
            obtain ⟨v3_27, e_v3_27, hf⟩ := lt_some hf
            refine x_istore_n (v := v3_27) (lv' := [(3, .int v3_27), (0, .ref h), (1, .int v1), (2, .int v2)]) hx hb dX12_counterexample_27 e_v3_27 rfl hl (by decide) rfl (fun ls hl => ?_)
            exact L28 v2   fu v3_27 H locs ls hP hS (lv_sub hl [1, 2, 3, 0] rfl) hf
      refine lv_iload_n hx hb dX12_counterexample_6 rfl (lv_at hl 1 rfl) ?_
      refine lv_aload_n hx hb dX12_counterexample_7 rfl (lv_at hl 0 rfl) ?_
      refine x_get hx hb hts u_X12_counterexample_X12 hown hE hP 0 rfl rfl 2 (by decide) (hts (.fieldLink RX12 132 "DecreasingDiagramsModel" "objects" "I") (List.mem_of_getElem? (i := 1) rfl)) rfl dX12_counterexample_8 ?_
      refine lv_icmp_ge (tgt := 104) hx hb dX12_counterexample_11 (by decide) (fun c_11 => ?_) (fun c_11 => ?_)
      · have hf := it_pos c_11 hf
        refine lv_bipush (v := -2) hx hb dX12_counterexample_104 (by decide) ?_
        have hf := Option.some.inj hf
        rewrite [← hQ, ← hf]
        exact x_iret hx hb hr hlocks hP hS dX12_counterexample_106
      · have hf := it_neg c_11 hf
        refine lv_iconst (v := 0) hx hb dX12_counterexample_14 (by decide) ?_
        obtain ⟨v2_15, e_v2_15, hf⟩ := lt_some hf
        refine x_istore_n (v := v2_15) (lv' := [(2, .int v2_15), (0, .ref h), (1, .int v1)]) hx hb dX12_counterexample_15 e_v2_15 rfl hl (by decide) rfl (fun ls hl => ?_)
        exact L16 v1   fu v2_15 H locs ls hP hS (lv_sub hl [1, 2, 0] rfl) hf
  refine lv_aload_n hx hb dX12_counterexample_0 rfl (lv_at hl 0 rfl) ?_
  obtain ⟨r_1, hr_1, hf⟩ := bd_some hf
  refine x_gov (ps := [0, 1, 2, 3, 4]) (qs := []) (n := 5) (I' := [[(h, .inr (11, [.ref a_pairs, .ref a_above, .int objects, .int steps, .ref a_sources, .ref a_targets, .ref a_labels, .ref a_lengths, .ref a_letters, .ref a_distances, .ref a_longest, .int firstStep, .int secondStep, .ref a_lengthsTo, .ref a_lengthsFrom, .ref a_path, .int pathLength, .ref a_output, .int outputLength, .ref a_found, .int foundSteps, .ref a_keptLabels, .ref a_keptPairs, .ref a_input, .int inputLength, .int rules, .ref a_sides, .ref a_sideLengths, .int newObjects, .int newSteps, .ref a_newLengths, .ref a_newLetters, .ref a_newSources, .ref a_newTargets, .ref a_newLabels, .ref a_word, .int wordSize, .ref a_failed, .ref a_sizes, .ref a_arrays, .int hasSnapshot, .int savedObjects, .int savedSteps, .int savedRules, .ref a_savedLengths, .ref a_savedSources, .ref a_savedTargets, .ref a_savedLabels, .ref a_savedSideLengths, .ref a_savedLetters, .ref a_savedSides, .ref a_savedPairs]))], [gO (G 4) a_distances r_distances 16], gI (G 0) r_distances 16 16 r_1, [(a_sources, .inl (G 0, 32, .inl sources))], [(a_targets, .inl (G 0, 32, .inl targets))]]) (x_runV (As := []) (rest := []) (ps := [0, 1, 2, 3, 4]) ⟨hx, hb, hml, hown, hts⟩ (k_X12_findDistances l D G fu h a_pairs a_above a_sources a_targets a_labels a_lengths a_letters a_distances a_longest a_lengthsTo a_lengthsFrom a_path a_output a_found a_keptLabels a_keptPairs a_input a_sides a_sideLengths a_newLengths a_newLetters a_newSources a_newTargets a_newLabels a_word a_failed a_sizes a_arrays a_savedLengths a_savedSources a_savedTargets a_savedLabels a_savedSideLengths a_savedLetters a_savedSides a_savedPairs r_distances objects steps firstStep secondStep pathLength outputLength foundSteps inputLength rules newObjects newSteps wordSize hasSnapshot savedObjects savedSteps savedRules distances sources targets r_1 hr_1) (cwV 0 hts gX12_counterexample_X12_findDistances rfl rfl rfl (by decide +kernel) ⟨Nat.le_of_ble_eq_true rfl, Nat.le_of_ble_eq_true rfl⟩) hE hP hN rfl (by decide) 0 rfl rfl rfl hl.1 (Nat.le_of_ble_eq_true rfl) dX12_counterexample_1 ⟨Nat.zero_le _, Nat.zero_le _⟩) hP hN hS rfl rfl rfl rfl rfl (by decide) (fun H locs hP hS => ?_)
  refine lv_iconst (v := 0) hx hb dX12_counterexample_4 (by decide) ?_
  obtain ⟨v1_5, e_v1_5, hf⟩ := lt_some hf
  refine x_istore_n (v := v1_5) (lv' := [(1, .int v1_5), (0, .ref h)]) hx hb dX12_counterexample_5 e_v1_5 rfl hl (by decide) rfl (fun ls hl => ?_)
  exact L6 r_1   fu v1_5 H locs ls hP hS (lv_sub hl [1, 0] rfl) hf

set_option maxRecDepth 20000 in
theorem u_X12_stepOf_X12 : ∀ w ∈ wsX120, w ∈ wsX12_stepOf := xx_pl _ [3, 4, 5, 6, 7, 8, 9, 10, 11, 12, 13, 14, 15, 16, 17, 18, 19, 20, 21, 22, 23, 24, 25, 26, 27, 28, 29, 30, 31, 32, 33, 34, 35, 36, 37, 38, 39, 40, 41, 42, 43, 44, 45, 46, 47, 48, 49, 50, 51, 52, 53, 54] (by decide +kernel)
def f_X12_stepOf (firstStep : Int32) (secondStep : Int32) (v1 : Int32) : Option (Int32) :=
  if ¬ v1 = 0 then (some secondStep) else (some firstStep)
set_option maxHeartbeats 4000000 in
set_option maxRecDepth 100000 in
theorem k_X12_stepOf (l : Launch) (D : va_G) (G : Nat → ClassId) (fu : Nat) (h : Nat) (a_pairs : Nat) (a_above : Nat) (a_sources : Nat) (a_targets : Nat) (a_labels : Nat) (a_lengths : Nat) (a_letters : Nat) (a_distances : Nat) (a_longest : Nat) (a_lengthsTo : Nat) (a_lengthsFrom : Nat) (a_path : Nat) (a_output : Nat) (a_found : Nat) (a_keptLabels : Nat) (a_keptPairs : Nat) (a_input : Nat) (a_sides : Nat) (a_sideLengths : Nat) (a_newLengths : Nat) (a_newLetters : Nat) (a_newSources : Nat) (a_newTargets : Nat) (a_newLabels : Nat) (a_word : Nat) (a_failed : Nat) (a_sizes : Nat) (a_arrays : Nat) (a_savedLengths : Nat) (a_savedSources : Nat) (a_savedTargets : Nat) (a_savedLabels : Nat) (a_savedSideLengths : Nat) (a_savedLetters : Nat) (a_savedSides : Nat) (a_savedPairs : Nat) (objects : Int32) (steps : Int32) (firstStep : Int32) (secondStep : Int32) (pathLength : Int32) (outputLength : Int32) (foundSteps : Int32) (inputLength : Int32) (rules : Int32) (newObjects : Int32) (newSteps : Int32) (wordSize : Int32) (hasSnapshot : Int32) (savedObjects : Int32) (savedSteps : Int32) (savedRules : Int32)  (v1 : Int32) (out : Int32) (hf : f_X12_stepOf firstStep secondStep v1 = some out) : xMet l yX12_stepOf wsX12_stepOf (rM 0 0) D G [.ref h, .int v1] [[(h, .inr (11, [.ref a_pairs, .ref a_above, .int objects, .int steps, .ref a_sources, .ref a_targets, .ref a_labels, .ref a_lengths, .ref a_letters, .ref a_distances, .ref a_longest, .int firstStep, .int secondStep, .ref a_lengthsTo, .ref a_lengthsFrom, .ref a_path, .int pathLength, .ref a_output, .int outputLength, .ref a_found, .int foundSteps, .ref a_keptLabels, .ref a_keptPairs, .ref a_input, .int inputLength, .int rules, .ref a_sides, .ref a_sideLengths, .int newObjects, .int newSteps, .ref a_newLengths, .ref a_newLetters, .ref a_newSources, .ref a_newTargets, .ref a_newLabels, .ref a_word, .int wordSize, .ref a_failed, .ref a_sizes, .ref a_arrays, .int hasSnapshot, .int savedObjects, .int savedSteps, .int savedRules, .ref a_savedLengths, .ref a_savedSources, .ref a_savedTargets, .ref a_savedLabels, .ref a_savedSideLengths, .ref a_savedLetters, .ref a_savedSides, .ref a_savedPairs]))]] (xQi D [[(h, .inr (11, [.ref a_pairs, .ref a_above, .int objects, .int steps, .ref a_sources, .ref a_targets, .ref a_labels, .ref a_lengths, .ref a_letters, .ref a_distances, .ref a_longest, .int firstStep, .int secondStep, .ref a_lengthsTo, .ref a_lengthsFrom, .ref a_path, .int pathLength, .ref a_output, .int outputLength, .ref a_found, .int foundSteps, .ref a_keptLabels, .ref a_keptPairs, .ref a_input, .int inputLength, .int rules, .ref a_sides, .ref a_sideLengths, .int newObjects, .int newSteps, .ref a_newLengths, .ref a_newLetters, .ref a_newSources, .ref a_newTargets, .ref a_newLabels, .ref a_word, .int wordSize, .ref a_failed, .ref a_sizes, .ref a_arrays, .int hasSnapshot, .int savedObjects, .int savedSteps, .int savedRules, .ref a_savedLengths, .ref a_savedSources, .ref a_savedTargets, .ref a_savedLabels, .ref a_savedSideLengths, .ref a_savedLetters, .ref a_savedSides, .ref a_savedPairs]))]] out) := by
  refine x_ent (cc := cX12_stepOf) (maxL := 2) (by decide) rfl (Nat.le_of_ble_eq_true rfl) ?_
  intro p e s m blw meth c aa ls args Q H locs hQ hx hb hr hml hown hts hlocks hE hN hl hP hS
  have hown : s.vm.findClass RX12 = some m.cls := hown
  have hl : lv_has ls 2 [(0, .ref h), (1, .int v1)] := hl
  refine lv_iload_n hx hb dX12_stepOf_0 rfl (lv_at hl 1 rfl) ?_
  refine lv_if_ne (tgt := 11) hx hb dX12_stepOf_1 (by decide) (fun c_1 => ?_) (fun c_1 => ?_)
  · have hf := it_pos c_1 hf
    refine lv_aload_n hx hb dX12_stepOf_11 rfl (lv_at hl 0 rfl) ?_
    refine x_get hx hb hts u_X12_stepOf_X12 hown hE hP 0 rfl rfl 12 (by decide) (hts (.fieldLink RX12 175 "DecreasingDiagramsModel" "secondStep" "I") (List.mem_of_getElem? (i := 2) rfl)) rfl dX12_stepOf_12 ?_
    have hf := Option.some.inj hf
    rewrite [← hQ, ← hf]
    exact x_iret hx hb hr hlocks hP hS dX12_stepOf_15
  · have hf := it_neg (fun h => h c_1) hf
    refine lv_aload_n hx hb dX12_stepOf_4 rfl (lv_at hl 0 rfl) ?_
    refine x_get hx hb hts u_X12_stepOf_X12 hown hE hP 0 rfl rfl 11 (by decide) (hts (.fieldLink RX12 172 "DecreasingDiagramsModel" "firstStep" "I") (List.mem_of_getElem? (i := 1) rfl)) rfl dX12_stepOf_5 ?_
    refine lv_goto (tgt := 15) hx hb dX12_stepOf_8 (by decide) ?_
    have hf := Option.some.inj hf
    rewrite [← hQ, ← hf]
    exact x_iret hx hb hr hlocks hP hS dX12_stepOf_15

set_option maxRecDepth 20000 in
theorem u_X12_leads_X12 : ∀ w ∈ wsX120, w ∈ wsX12_leads := xx_pl _ [3, 4, 5, 6, 7, 8, 9, 10, 11, 12, 13, 14, 15, 16, 17, 18, 19, 20, 21, 22, 23, 24, 25, 26, 27, 28, 29, 30, 31, 32, 33, 34, 35, 36, 37, 38, 39, 40, 41, 42, 43, 44, 45, 46, 47, 48, 49, 50, 51, 52, 53, 54] (by decide +kernel)
def f_X12_leads_J81   : Option (Int32) :=
  some 1
def f_X12_leads_J47 (above : (Nat → Nat → Int32)) (labels : (Nat → Int32)) (v1 : Int32) (v3 : Int32) (v5 : Int32) (t0 : Int32) (v6 : Int32) : Option (Int32) :=
  lt t0 (fun v7_47 => if ¬ v3 = 1 then (some 0) else (if ¬ v6 = 0 then (f_X12_leads_J81) else (ck v5 8 (ck v1 32 (ck (labels v1.toNatClampNeg) 8 (if ¬ (above v5.toNatClampNeg (labels v1.toNatClampNeg).toNatClampNeg) = 0 then (f_X12_leads_J81) else (if v7_47 = 0 then (some 0) else (f_X12_leads_J81))))))))
def f_X12_leads_J46 (above : (Nat → Nat → Int32)) (labels : (Nat → Int32)) (v1 : Int32) (v3 : Int32) (v5 : Int32) (v6 : Int32) : Option (Int32) :=
  f_X12_leads_J47 above labels v1 v3 v5 0 v6
def f_X12_leads_J27 (above : (Nat → Nat → Int32)) (labels : (Nat → Int32)) (v1 : Int32) (v2 : Int32) (v3 : Int32) (v5 : Int32) (v6 : Int32) : Option (Int32) :=
  if ¬ v2 = 0 then (f_X12_leads_J46 above labels v1 v3 v5 v6) else (ck v1 32 (if ¬ (labels v1.toNatClampNeg) = v5 then (f_X12_leads_J46 above labels v1 v3 v5 v6) else (f_X12_leads_J47 above labels v1 v3 v5 1 v6)))
def f_X12_leads (above : (Nat → Nat → Int32)) (labels : (Nat → Int32)) (v1 : Int32) (v2 : Int32) (v3 : Int32) (v4 : Int32) (v5 : Int32) : Option (Int32) :=
  ck v4 8 (ck v1 32 (ck (labels v1.toNatClampNeg) 8 (lt (above v4.toNatClampNeg (labels v1.toNatClampNeg).toNatClampNeg) (fun v6_14 => if ¬ v2 = 0 then (f_X12_leads_J27 above labels v1 v2 v3 v5 v6_14) else (if ¬ v3 = 0 then (f_X12_leads_J27 above labels v1 v2 v3 v5 v6_14) else (ckb v6_14 (some v6_14)))))))
set_option maxHeartbeats 4000000 in
set_option maxRecDepth 100000 in
theorem k_X12_leads (l : Launch) (D : va_G) (G : Nat → ClassId) (fu : Nat) (h : Nat) (a_pairs : Nat) (a_above : Nat) (a_sources : Nat) (a_targets : Nat) (a_labels : Nat) (a_lengths : Nat) (a_letters : Nat) (a_distances : Nat) (a_longest : Nat) (a_lengthsTo : Nat) (a_lengthsFrom : Nat) (a_path : Nat) (a_output : Nat) (a_found : Nat) (a_keptLabels : Nat) (a_keptPairs : Nat) (a_input : Nat) (a_sides : Nat) (a_sideLengths : Nat) (a_newLengths : Nat) (a_newLetters : Nat) (a_newSources : Nat) (a_newTargets : Nat) (a_newLabels : Nat) (a_word : Nat) (a_failed : Nat) (a_sizes : Nat) (a_arrays : Nat) (a_savedLengths : Nat) (a_savedSources : Nat) (a_savedTargets : Nat) (a_savedLabels : Nat) (a_savedSideLengths : Nat) (a_savedLetters : Nat) (a_savedSides : Nat) (a_savedPairs : Nat) (r_above : Nat → Nat) (objects : Int32) (steps : Int32) (firstStep : Int32) (secondStep : Int32) (pathLength : Int32) (outputLength : Int32) (foundSteps : Int32) (inputLength : Int32) (rules : Int32) (newObjects : Int32) (newSteps : Int32) (wordSize : Int32) (hasSnapshot : Int32) (savedObjects : Int32) (savedSteps : Int32) (savedRules : Int32) (above : (Nat → Nat → Int32)) (labels : (Nat → Int32))  (v1 : Int32) (v2 : Int32) (v3 : Int32) (v4 : Int32) (v5 : Int32) (out : Int32) (hf : f_X12_leads above labels v1 v2 v3 v4 v5 = some out) : xMet l yX12_leads wsX12_leads (rM 0 0) D G [.ref h, .int v1, .int v2, .int v3, .int v4, .int v5] [[(h, .inr (11, [.ref a_pairs, .ref a_above, .int objects, .int steps, .ref a_sources, .ref a_targets, .ref a_labels, .ref a_lengths, .ref a_letters, .ref a_distances, .ref a_longest, .int firstStep, .int secondStep, .ref a_lengthsTo, .ref a_lengthsFrom, .ref a_path, .int pathLength, .ref a_output, .int outputLength, .ref a_found, .int foundSteps, .ref a_keptLabels, .ref a_keptPairs, .ref a_input, .int inputLength, .int rules, .ref a_sides, .ref a_sideLengths, .int newObjects, .int newSteps, .ref a_newLengths, .ref a_newLetters, .ref a_newSources, .ref a_newTargets, .ref a_newLabels, .ref a_word, .int wordSize, .ref a_failed, .ref a_sizes, .ref a_arrays, .int hasSnapshot, .int savedObjects, .int savedSteps, .int savedRules, .ref a_savedLengths, .ref a_savedSources, .ref a_savedTargets, .ref a_savedLabels, .ref a_savedSideLengths, .ref a_savedLetters, .ref a_savedSides, .ref a_savedPairs]))], [gO (G 6) a_above r_above 8], gI (G 2) r_above 8 8 above, [(a_labels, .inl (G 0, 32, .inl labels))]] (xQi D [[(h, .inr (11, [.ref a_pairs, .ref a_above, .int objects, .int steps, .ref a_sources, .ref a_targets, .ref a_labels, .ref a_lengths, .ref a_letters, .ref a_distances, .ref a_longest, .int firstStep, .int secondStep, .ref a_lengthsTo, .ref a_lengthsFrom, .ref a_path, .int pathLength, .ref a_output, .int outputLength, .ref a_found, .int foundSteps, .ref a_keptLabels, .ref a_keptPairs, .ref a_input, .int inputLength, .int rules, .ref a_sides, .ref a_sideLengths, .int newObjects, .int newSteps, .ref a_newLengths, .ref a_newLetters, .ref a_newSources, .ref a_newTargets, .ref a_newLabels, .ref a_word, .int wordSize, .ref a_failed, .ref a_sizes, .ref a_arrays, .int hasSnapshot, .int savedObjects, .int savedSteps, .int savedRules, .ref a_savedLengths, .ref a_savedSources, .ref a_savedTargets, .ref a_savedLabels, .ref a_savedSideLengths, .ref a_savedLetters, .ref a_savedSides, .ref a_savedPairs]))], [gO (G 6) a_above r_above 8], gI (G 2) r_above 8 8 above, [(a_labels, .inl (G 0, 32, .inl labels))]] out) := by
  refine x_ent (cc := cX12_leads) (maxL := 8) (by decide) rfl (Nat.le_of_ble_eq_true rfl) ?_
  intro p e s m blw meth c aa ls args Q H locs hQ hx hb hr hml hown hts hlocks hE hN hl hP hS
  have hown : s.vm.findClass RX12 = some m.cls := hown
  have hl : lv_has ls 8 [(0, .ref h), (1, .int v1), (2, .int v2), (3, .int v3), (4, .int v4), (5, .int v5)] := hl
  have J81 : ∀ (H : Heap) (locs : List Loc) (ls : Array Slot), xW D aa [[(h, .inr (11, [.ref a_pairs, .ref a_above, .int objects, .int steps, .ref a_sources, .ref a_targets, .ref a_labels, .ref a_lengths, .ref a_letters, .ref a_distances, .ref a_longest, .int firstStep, .int secondStep, .ref a_lengthsTo, .ref a_lengthsFrom, .ref a_path, .int pathLength, .ref a_output, .int outputLength, .ref a_found, .int foundSteps, .ref a_keptLabels, .ref a_keptPairs, .ref a_input, .int inputLength, .int rules, .ref a_sides, .ref a_sideLengths, .int newObjects, .int newSteps, .ref a_newLengths, .ref a_newLetters, .ref a_newSources, .ref a_newTargets, .ref a_newLabels, .ref a_word, .int wordSize, .ref a_failed, .ref a_sizes, .ref a_arrays, .int hasSnapshot, .int savedObjects, .int savedSteps, .int savedRules, .ref a_savedLengths, .ref a_savedSources, .ref a_savedTargets, .ref a_savedLabels, .ref a_savedSideLengths, .ref a_savedLetters, .ref a_savedSides, .ref a_savedPairs]))], [gO (G 6) a_above r_above 8], gI (G 2) r_above 8 8 above, [(a_labels, .inl (G 0, 32, .inl labels))]] H → va_S (xA aa) s.heap H locs → lv_has ls 8 [] → f_X12_leads_J81   = some out → W p l e (rM 0 0) s m args blw meth c H locs 0 0 Q (F0 m 81 ls []) := by
    intro   H locs ls  hP hS hl hf
    refine lv_iconst (v := 1) hx hb dX12_leads_81 (by decide) ?_
    refine lv_goto (tgt := 86) hx hb dX12_leads_82 (by decide) ?_
    have hf := Option.some.inj hf
    rewrite [← hQ, ← hf]
    exact x_zret (r := 1) hx hb hr hlocks rfl hP hS dX12_leads_86
  have J47 : ∀ (t0 : Int32) (v6 : Int32) (H : Heap) (locs : List Loc) (ls : Array Slot), xW D aa [[(h, .inr (11, [.ref a_pairs, .ref a_above, .int objects, .int steps, .ref a_sources, .ref a_targets, .ref a_labels, .ref a_lengths, .ref a_letters, .ref a_distances, .ref a_longest, .int firstStep, .int secondStep, .ref a_lengthsTo, .ref a_lengthsFrom, .ref a_path, .int pathLength, .ref a_output, .int outputLength, .ref a_found, .int foundSteps, .ref a_keptLabels, .ref a_keptPairs, .ref a_input, .int inputLength, .int rules, .ref a_sides, .ref a_sideLengths, .int newObjects, .int newSteps, .ref a_newLengths, .ref a_newLetters, .ref a_newSources, .ref a_newTargets, .ref a_newLabels, .ref a_word, .int wordSize, .ref a_failed, .ref a_sizes, .ref a_arrays, .int hasSnapshot, .int savedObjects, .int savedSteps, .int savedRules, .ref a_savedLengths, .ref a_savedSources, .ref a_savedTargets, .ref a_savedLabels, .ref a_savedSideLengths, .ref a_savedLetters, .ref a_savedSides, .ref a_savedPairs]))], [gO (G 6) a_above r_above 8], gI (G 2) r_above 8 8 above, [(a_labels, .inl (G 0, 32, .inl labels))]] H → va_S (xA aa) s.heap H locs → lv_has ls 8 [(0, .ref h), (1, .int v1), (3, .int v3), (5, .int v5), (6, .int v6)] → f_X12_leads_J47 above labels v1 v3 v5 t0 v6 = some out → W p l e (rM 0 0) s m args blw meth c H locs 0 0 Q (F0 m 47 ls [.int t0]) := by
    intro t0 v6  H locs ls  hP hS hl hf
    obtain ⟨v7_47, e_v7_47, hf⟩ := lt_some hf
    refine x_istore (v := v7_47) (lv' := [(7, .int v7_47), (0, .ref h), (1, .int v1), (3, .int v3), (5, .int v5), (6, .int v6)]) hx hb dX12_leads_47 e_v7_47 hl (by decide) rfl (fun ls hl => ?_)
    refine lv_iload_n hx hb dX12_leads_49 rfl (lv_at hl 3 rfl) ?_
    refine lv_iconst (v := 1) hx hb dX12_leads_50 (by decide) ?_
    refine lv_icmp_ne (tgt := 85) hx hb dX12_leads_51 (by decide) (fun c_51 => ?_) (fun c_51 => ?_)
    · have hf := it_pos c_51 hf
      refine lv_iconst (v := 0) hx hb dX12_leads_85 (by decide) ?_
      have hf := Option.some.inj hf
      rewrite [← hQ, ← hf]
      exact x_zret (r := 0) hx hb hr hlocks rfl hP hS dX12_leads_86
    · have hf := it_neg (fun h => h c_51) hf
      refine lv_iload hx hb dX12_leads_54 (lv_at hl 5 rfl) ?_
      refine lv_if_ne (tgt := 81) hx hb dX12_leads_56 (by decide) (fun c_56 => ?_) (fun c_56 => ?_)
      · have hf := it_pos c_56 hf
        exact J81   H locs ls  hP hS (lv_sub hl [] rfl) hf
      · have hf := it_neg (fun h => h c_56) hf
        refine lv_aload_n hx hb dX12_leads_59 rfl (lv_at hl 1 rfl) ?_
        refine x_get hx hb hts u_X12_leads_X12 hown hE hP 0 rfl rfl 1 (by decide) (hts (.fieldLink RX12 14 "DecreasingDiagramsModel" "above" "[[Z") (List.mem_of_getElem? (i := 1) rfl)) rfl dX12_leads_60 ?_
        refine lv_iload hx hb dX12_leads_63 (lv_at hl 4 rfl) ?_
        obtain ⟨hq_65, hf⟩ := ck_some hf
        refine x_aald hx hb hE hP 1 6 rfl rfl hq_65 dX12_leads_65 ?_
        refine lv_aload_n hx hb dX12_leads_66 rfl (lv_at hl 1 rfl) ?_
        refine x_get hx hb hts u_X12_leads_X12 hown hE hP 0 rfl rfl 6 (by decide) (hts (.fieldLink RX12 24 "DecreasingDiagramsModel" "labels" "[I") (List.mem_of_getElem? (i := 2) rfl)) rfl dX12_leads_67 ?_
        refine lv_iload_n hx hb dX12_leads_70 rfl (lv_at hl 2 rfl) ?_
        obtain ⟨hi, hf⟩ := ck_some hf
        refine x_iald hx hb hE hP 3 rfl hi dX12_leads_71 ?_
        obtain ⟨hi, hf⟩ := ck_some hf
        refine x_zald2 hx hb hE hP 2 rfl hq_65 hi dX12_leads_72 ?_
        refine lv_if_ne (tgt := 81) hx hb dX12_leads_73 (by decide) (fun c_73 => ?_) (fun c_73 => ?_)
        · have hf := it_pos c_73 hf
          exact J81   H locs ls  hP hS (lv_sub hl [] rfl) hf
        · have hf := it_neg (fun h => h c_73) hf
          refine lv_iload hx hb dX12_leads_76 (lv_at hl 0 rfl) ?_
          refine lv_if_eq (tgt := 85) hx hb dX12_leads_78 (by decide) (fun c_78 => ?_) (fun c_78 => ?_)
          · have hf := it_pos c_78 hf
            refine lv_iconst (v := 0) hx hb dX12_leads_85 (by decide) ?_
            have hf := Option.some.inj hf
            rewrite [← hQ, ← hf]
            exact x_zret (r := 0) hx hb hr hlocks rfl hP hS dX12_leads_86
          · have hf := it_neg c_78 hf
            exact J81   H locs ls  hP hS (lv_sub hl [] rfl) hf
  have J46 : ∀ (v6 : Int32) (H : Heap) (locs : List Loc) (ls : Array Slot), xW D aa [[(h, .inr (11, [.ref a_pairs, .ref a_above, .int objects, .int steps, .ref a_sources, .ref a_targets, .ref a_labels, .ref a_lengths, .ref a_letters, .ref a_distances, .ref a_longest, .int firstStep, .int secondStep, .ref a_lengthsTo, .ref a_lengthsFrom, .ref a_path, .int pathLength, .ref a_output, .int outputLength, .ref a_found, .int foundSteps, .ref a_keptLabels, .ref a_keptPairs, .ref a_input, .int inputLength, .int rules, .ref a_sides, .ref a_sideLengths, .int newObjects, .int newSteps, .ref a_newLengths, .ref a_newLetters, .ref a_newSources, .ref a_newTargets, .ref a_newLabels, .ref a_word, .int wordSize, .ref a_failed, .ref a_sizes, .ref a_arrays, .int hasSnapshot, .int savedObjects, .int savedSteps, .int savedRules, .ref a_savedLengths, .ref a_savedSources, .ref a_savedTargets, .ref a_savedLabels, .ref a_savedSideLengths, .ref a_savedLetters, .ref a_savedSides, .ref a_savedPairs]))], [gO (G 6) a_above r_above 8], gI (G 2) r_above 8 8 above, [(a_labels, .inl (G 0, 32, .inl labels))]] H → va_S (xA aa) s.heap H locs → lv_has ls 8 [(0, .ref h), (1, .int v1), (3, .int v3), (5, .int v5), (6, .int v6)] → f_X12_leads_J46 above labels v1 v3 v5 v6 = some out → W p l e (rM 0 0) s m args blw meth c H locs 0 0 Q (F0 m 46 ls []) := by
    intro v6  H locs ls  hP hS hl hf
    refine lv_iconst (v := 0) hx hb dX12_leads_46 (by decide) ?_
    exact J47 0 v6  H locs ls  hP hS (lv_sub hl [0, 1, 2, 3, 4] rfl) hf
  have J27 : ∀ (v6 : Int32) (H : Heap) (locs : List Loc) (ls : Array Slot), xW D aa [[(h, .inr (11, [.ref a_pairs, .ref a_above, .int objects, .int steps, .ref a_sources, .ref a_targets, .ref a_labels, .ref a_lengths, .ref a_letters, .ref a_distances, .ref a_longest, .int firstStep, .int secondStep, .ref a_lengthsTo, .ref a_lengthsFrom, .ref a_path, .int pathLength, .ref a_output, .int outputLength, .ref a_found, .int foundSteps, .ref a_keptLabels, .ref a_keptPairs, .ref a_input, .int inputLength, .int rules, .ref a_sides, .ref a_sideLengths, .int newObjects, .int newSteps, .ref a_newLengths, .ref a_newLetters, .ref a_newSources, .ref a_newTargets, .ref a_newLabels, .ref a_word, .int wordSize, .ref a_failed, .ref a_sizes, .ref a_arrays, .int hasSnapshot, .int savedObjects, .int savedSteps, .int savedRules, .ref a_savedLengths, .ref a_savedSources, .ref a_savedTargets, .ref a_savedLabels, .ref a_savedSideLengths, .ref a_savedLetters, .ref a_savedSides, .ref a_savedPairs]))], [gO (G 6) a_above r_above 8], gI (G 2) r_above 8 8 above, [(a_labels, .inl (G 0, 32, .inl labels))]] H → va_S (xA aa) s.heap H locs → lv_has ls 8 [(0, .ref h), (1, .int v1), (2, .int v2), (3, .int v3), (5, .int v5), (6, .int v6)] → f_X12_leads_J27 above labels v1 v2 v3 v5 v6 = some out → W p l e (rM 0 0) s m args blw meth c H locs 0 0 Q (F0 m 27 ls []) := by
    intro v6  H locs ls  hP hS hl hf
    refine lv_iload_n hx hb dX12_leads_27 rfl (lv_at hl 2 rfl) ?_
    refine lv_if_ne (tgt := 46) hx hb dX12_leads_28 (by decide) (fun c_28 => ?_) (fun c_28 => ?_)
    · have hf := it_pos c_28 hf
      exact J46 v6  H locs ls  hP hS (lv_sub hl [0, 1, 3, 4, 5] rfl) hf
    · have hf := it_neg (fun h => h c_28) hf
      refine lv_aload_n hx hb dX12_leads_31 rfl (lv_at hl 0 rfl) ?_
      refine x_get hx hb hts u_X12_leads_X12 hown hE hP 0 rfl rfl 6 (by decide) (hts (.fieldLink RX12 24 "DecreasingDiagramsModel" "labels" "[I") (List.mem_of_getElem? (i := 2) rfl)) rfl dX12_leads_32 ?_
      refine lv_iload_n hx hb dX12_leads_35 rfl (lv_at hl 1 rfl) ?_
      obtain ⟨hi, hf⟩ := ck_some hf
      refine x_iald hx hb hE hP 3 rfl hi dX12_leads_36 ?_
      refine lv_iload hx hb dX12_leads_37 (lv_at hl 4 rfl) ?_
      refine lv_icmp_ne (tgt := 46) hx hb dX12_leads_39 (by decide) (fun c_39 => ?_) (fun c_39 => ?_)
      · have hf := it_pos c_39 hf
        exact J46 v6  H locs ls  hP hS (lv_sub hl [0, 1, 3, 4, 5] rfl) hf
      · have hf := it_neg (fun h => h c_39) hf
        refine lv_iconst (v := 1) hx hb dX12_leads_42 (by decide) ?_
        refine lv_goto (tgt := 47) hx hb dX12_leads_43 (by decide) ?_
        exact J47 1 v6  H locs ls  hP hS (lv_sub hl [0, 1, 3, 4, 5] rfl) hf
  refine lv_aload_n hx hb dX12_leads_0 rfl (lv_at hl 0 rfl) ?_
  refine x_get hx hb hts u_X12_leads_X12 hown hE hP 0 rfl rfl 1 (by decide) (hts (.fieldLink RX12 14 "DecreasingDiagramsModel" "above" "[[Z") (List.mem_of_getElem? (i := 1) rfl)) rfl dX12_leads_1 ?_
  refine lv_iload hx hb dX12_leads_4 (lv_at hl 4 rfl) ?_
  obtain ⟨hq_6, hf⟩ := ck_some hf
  refine x_aald hx hb hE hP 1 6 rfl rfl hq_6 dX12_leads_6 ?_
  refine lv_aload_n hx hb dX12_leads_7 rfl (lv_at hl 0 rfl) ?_
  refine x_get hx hb hts u_X12_leads_X12 hown hE hP 0 rfl rfl 6 (by decide) (hts (.fieldLink RX12 24 "DecreasingDiagramsModel" "labels" "[I") (List.mem_of_getElem? (i := 2) rfl)) rfl dX12_leads_8 ?_
  refine lv_iload_n hx hb dX12_leads_11 rfl (lv_at hl 1 rfl) ?_
  obtain ⟨hi, hf⟩ := ck_some hf
  refine x_iald hx hb hE hP 3 rfl hi dX12_leads_12 ?_
  obtain ⟨hi, hf⟩ := ck_some hf
  refine x_zald2 hx hb hE hP 2 rfl hq_6 hi dX12_leads_13 ?_
  obtain ⟨v6_14, e_v6_14, hf⟩ := lt_some hf
  refine x_istore (v := v6_14) (lv' := [(6, .int v6_14), (0, .ref h), (1, .int v1), (2, .int v2), (3, .int v3), (4, .int v4), (5, .int v5)]) hx hb dX12_leads_14 e_v6_14 hl (by decide) rfl (fun ls hl => ?_)
  refine lv_iload_n hx hb dX12_leads_16 rfl (lv_at hl 3 rfl) ?_
  refine lv_if_ne (tgt := 27) hx hb dX12_leads_17 (by decide) (fun c_17 => ?_) (fun c_17 => ?_)
  · have hf := it_pos c_17 hf
    exact J27 v6_14  H locs ls  hP hS (lv_sub hl [1, 2, 3, 4, 6, 0] rfl) hf
  · have hf := it_neg (fun h => h c_17) hf
    refine lv_iload_n hx hb dX12_leads_20 rfl (lv_at hl 4 rfl) ?_
    refine lv_if_ne (tgt := 27) hx hb dX12_leads_21 (by decide) (fun c_21 => ?_) (fun c_21 => ?_)
    · have hf := it_pos c_21 hf
      exact J27 v6_14  H locs ls  hP hS (lv_sub hl [1, 2, 3, 4, 6, 0] rfl) hf
    · have hf := it_neg (fun h => h c_21) hf
      refine lv_iload hx hb dX12_leads_24 (lv_at hl 0 rfl) ?_
      obtain ⟨hz, hf⟩ := ckb_some hf
      have hf := Option.some.inj hf
      rewrite [← hQ, ← hf]
      exact x_zret (r := v6_14) hx hb hr hlocks hz hP hS dX12_leads_26

set_option maxRecDepth 20000 in
theorem u_X12_findSide_X12 : ∀ w ∈ wsX120, w ∈ wsX12_findSide := xx_pl _ [18, 19, 20, 21, 22, 23, 24, 25, 26, 27, 28, 29, 30, 31, 32, 33, 34, 35, 36, 37, 38, 39, 40, 41, 42, 43, 44, 45, 46, 47, 48, 49, 50, 51, 52, 53, 54, 55, 56, 57, 58, 59, 60, 61, 62, 63, 64, 65, 66, 67, 68, 69] (by decide +kernel)
def f_X12_findSide_J197 (rec_75 : (Int32 → (Nat → Nat → Int32) → Option ((Nat → Nat → Int32)))) (v5 : Int32) (lengthsTo : (Nat → Nat → Int32)) : Option ((Nat → Nat → Int32)) :=
  rec_75 v5 lengthsTo
def f_X12_findSide_J191 (rec_86 : (Int32 → Int32 → (Nat → Nat → Int32) → Option ((Nat → Nat → Int32)))) (v5 : Int32) (v6 : Int32) (lengthsTo : (Nat → Nat → Int32)) : Option ((Nat → Nat → Int32)) :=
  lt (v6 + 1) (fun v6_191 => rec_86 v5 v6_191 lengthsTo)
def f_X12_findSide_J185 (rec_98 : (Int32 → Int32 → (Nat → Nat → Int32) → Option ((Nat → Nat → Int32)))) (v5 : Int32) (v7 : Int32) (lengthsTo : (Nat → Nat → Int32)) : Option ((Nat → Nat → Int32)) :=
  lt (v7 + 1) (fun v7_185 => rec_98 v5 v7_185 lengthsTo)
def f_X12_findSide_L98 (above : (Nat → Nat → Int32)) (labels : (Nat → Int32)) (sources : (Nat → Int32)) (targets : (Nat → Int32)) (v2 : Int32) (v3 : Int32) (v6 : Int32) (v4_row : Int32) (rec_86 : (Int32 → Int32 → (Nat → Nat → Int32) → Option ((Nat → Nat → Int32)))) (rec_98 : Int32 → Int32 → (Nat → Nat → Int32) → Option ((Nat → Nat → Int32))) (v5 : Int32) (v7 : Int32) (lengthsTo : (Nat → Nat → Int32)) : Option ((Nat → Nat → Int32)) :=
  if 4 ≤ v7 then (f_X12_findSide_J191 rec_86 v5 v6 lengthsTo) else (ck v6 32 (lt ((2 * (sources v6.toNatClampNeg)) + (v7 / 2)) (fun v8_118 => ck v6 32 (lt ((2 * (targets v6.toNatClampNeg)) + (v7 - v7 / 2 * 2)) (fun v9_134 => ck v8_118 32 (ck v9_134 32 (if (lengthsTo v4_row.toNatClampNeg v9_134.toNatClampNeg) ≤ ((lengthsTo v4_row.toNatClampNeg v8_118.toNatClampNeg) + 1) then (f_X12_findSide_J185 rec_98 v5 v7 lengthsTo) else ((f_X12_leads above labels v6 (v7 / 2) (v7 - v7 / 2 * 2) v2 v3).bind (fun r_164 => if r_164 = 0 then (f_X12_findSide_J185 rec_98 v5 v7 lengthsTo) else (ck v8_118 32 (ck v9_134 32 (lt (up2 lengthsTo v4_row.toNatClampNeg v9_134.toNatClampNeg ((lengthsTo v4_row.toNatClampNeg v8_118.toNatClampNeg) + 1)) (fun lengthsTo_181 => lt (1 : Int32) (fun v5_183 => f_X12_findSide_J185 rec_98 v5_183 v7 lengthsTo_181))))))))))))))
def f_X12_findSide_L86 (fu : Nat) (steps : Int32) (above : (Nat → Nat → Int32)) (labels : (Nat → Int32)) (sources : (Nat → Int32)) (targets : (Nat → Int32)) (v2 : Int32) (v3 : Int32) (v4_row : Int32) (rec_75 : (Int32 → (Nat → Nat → Int32) → Option ((Nat → Nat → Int32)))) (rec_86 : Int32 → Int32 → (Nat → Nat → Int32) → Option ((Nat → Nat → Int32))) (v5 : Int32) (v6 : Int32) (lengthsTo : (Nat → Nat → Int32)) : Option ((Nat → Nat → Int32)) :=
  if steps ≤ v6 then (f_X12_findSide_J197 rec_75 v5 lengthsTo) else (lt (0 : Int32) (fun v7_96 => lp (τ := Int32 → Int32 → (Nat → Nat → Int32) → Option ((Nat → Nat → Int32))) (fun _ _ _ => none) (f_X12_findSide_L98 above labels sources targets v2 v3 v6 v4_row rec_86) fu v5 v7_96 lengthsTo))
def f_X12_findSide_L75 (fu : Nat) (steps : Int32) (above : (Nat → Nat → Int32)) (labels : (Nat → Int32)) (sources : (Nat → Int32)) (targets : (Nat → Int32)) (v2 : Int32) (v3 : Int32) (v4_row : Int32) (rec_75 : Int32 → (Nat → Nat → Int32) → Option ((Nat → Nat → Int32))) (v5 : Int32) (lengthsTo : (Nat → Nat → Int32)) : Option ((Nat → Nat → Int32)) :=
  if v5 = 0 then (some lengthsTo) else (lt (0 : Int32) (fun v5_81 => lt (0 : Int32) (fun v6_84 => lp (τ := Int32 → Int32 → (Nat → Nat → Int32) → Option ((Nat → Nat → Int32))) (fun _ _ _ => none) (f_X12_findSide_L86 fu steps above labels sources targets v2 v3 v4_row rec_75) fu v5_81 v6_84 lengthsTo)))
def f_X12_findSide_J56 (fu : Nat) (steps : Int32) (firstStep : Int32) (secondStep : Int32) (above : (Nat → Nat → Int32)) (labels : (Nat → Int32)) (sources : (Nat → Int32)) (targets : (Nat → Int32)) (v1 : Int32) (v4_row : Int32) (v2 : Int32) (v3 : Int32) (lengthsTo : (Nat → Nat → Int32)) : Option ((Nat → Nat → Int32)) :=
  (f_X12_stepOf firstStep secondStep v1).bind (fun r_65 => ck r_65 32 (ck (2 * (targets r_65.toNatClampNeg)) 32 (lt (up2 lengthsTo v4_row.toNatClampNeg (2 * (targets r_65.toNatClampNeg)).toNatClampNeg 0) (fun lengthsTo_71 => lt (1 : Int32) (fun v5_73 => lp (τ := Int32 → (Nat → Nat → Int32) → Option ((Nat → Nat → Int32))) (fun _ _ => none) (f_X12_findSide_L75 fu steps above labels sources targets v2 v3 v4_row) fu v5_73 lengthsTo_71)))))
def f_X12_findSide_L35 (fu : Nat) (steps : Int32) (firstStep : Int32) (secondStep : Int32) (above : (Nat → Nat → Int32)) (labels : (Nat → Int32)) (sources : (Nat → Int32)) (targets : (Nat → Int32)) (v1 : Int32) (v2 : Int32) (v3 : Int32) (v4_row : Int32) (rec_35 : Int32 → (Nat → Nat → Int32) → Option ((Nat → Nat → Int32))) (v5 : Int32) (lengthsTo : (Nat → Nat → Int32)) : Option ((Nat → Nat → Int32)) :=
  if 32 ≤ v5 then (f_X12_findSide_J56 fu steps firstStep secondStep above labels sources targets v1 v4_row v2 v3 lengthsTo) else (ck v5 32 (lt (up2 lengthsTo v4_row.toNatClampNeg v5.toNatClampNeg 1000) (fun lengthsTo_49 => lt (v5 + 1) (fun v5_50 => rec_35 v5_50 lengthsTo_49))))
def f_X12_findSide (fu : Nat) (steps : Int32) (firstStep : Int32) (secondStep : Int32) (above : (Nat → Nat → Int32)) (labels : (Nat → Int32)) (lengthsTo : (Nat → Nat → Int32)) (sources : (Nat → Int32)) (targets : (Nat → Int32)) (v1 : Int32) : Option ((Nat → Nat → Int32)) :=
  (f_X12_stepOf firstStep secondStep v1).bind (fun r_6 => ck r_6 32 (lt (labels r_6.toNatClampNeg) (fun v2_10 => (f_X12_stepOf firstStep secondStep (1 - v1)).bind (fun r_19 => ck r_19 32 (lt (labels r_19.toNatClampNeg) (fun v3_23 => ck v1 2 (lt (0 : Int32) (fun v5_33 => lp (τ := Int32 → (Nat → Nat → Int32) → Option ((Nat → Nat → Int32))) (fun _ _ => none) (f_X12_findSide_L35 fu steps firstStep secondStep above labels sources targets v1 v2_10 v3_23 v1) fu v5_33 lengthsTo))))))))
set_option maxHeartbeats 4000000 in
set_option maxRecDepth 100000 in
theorem k_X12_findSide (l : Launch) (D : va_G) (G : Nat → ClassId) (fu : Nat) (h : Nat) (a_pairs : Nat) (a_above : Nat) (a_sources : Nat) (a_targets : Nat) (a_labels : Nat) (a_lengths : Nat) (a_letters : Nat) (a_distances : Nat) (a_longest : Nat) (a_lengthsTo : Nat) (a_lengthsFrom : Nat) (a_path : Nat) (a_output : Nat) (a_found : Nat) (a_keptLabels : Nat) (a_keptPairs : Nat) (a_input : Nat) (a_sides : Nat) (a_sideLengths : Nat) (a_newLengths : Nat) (a_newLetters : Nat) (a_newSources : Nat) (a_newTargets : Nat) (a_newLabels : Nat) (a_word : Nat) (a_failed : Nat) (a_sizes : Nat) (a_arrays : Nat) (a_savedLengths : Nat) (a_savedSources : Nat) (a_savedTargets : Nat) (a_savedLabels : Nat) (a_savedSideLengths : Nat) (a_savedLetters : Nat) (a_savedSides : Nat) (a_savedPairs : Nat) (r_above : Nat → Nat) (r_lengthsTo : Nat → Nat) (objects : Int32) (steps : Int32) (firstStep : Int32) (secondStep : Int32) (pathLength : Int32) (outputLength : Int32) (foundSteps : Int32) (inputLength : Int32) (rules : Int32) (newObjects : Int32) (newSteps : Int32) (wordSize : Int32) (hasSnapshot : Int32) (savedObjects : Int32) (savedSteps : Int32) (savedRules : Int32) (above : (Nat → Nat → Int32)) (labels : (Nat → Int32)) (lengthsTo : (Nat → Nat → Int32)) (sources : (Nat → Int32)) (targets : (Nat → Int32))  (v1 : Int32) (out : (Nat → Nat → Int32)) (hf : f_X12_findSide fu steps firstStep secondStep above labels lengthsTo sources targets v1 = some out) : xMet l yX12_findSide wsX12_findSide (rM 1 27) D G [.ref h, .int v1] [[(h, .inr (11, [.ref a_pairs, .ref a_above, .int objects, .int steps, .ref a_sources, .ref a_targets, .ref a_labels, .ref a_lengths, .ref a_letters, .ref a_distances, .ref a_longest, .int firstStep, .int secondStep, .ref a_lengthsTo, .ref a_lengthsFrom, .ref a_path, .int pathLength, .ref a_output, .int outputLength, .ref a_found, .int foundSteps, .ref a_keptLabels, .ref a_keptPairs, .ref a_input, .int inputLength, .int rules, .ref a_sides, .ref a_sideLengths, .int newObjects, .int newSteps, .ref a_newLengths, .ref a_newLetters, .ref a_newSources, .ref a_newTargets, .ref a_newLabels, .ref a_word, .int wordSize, .ref a_failed, .ref a_sizes, .ref a_arrays, .int hasSnapshot, .int savedObjects, .int savedSteps, .int savedRules, .ref a_savedLengths, .ref a_savedSources, .ref a_savedTargets, .ref a_savedLabels, .ref a_savedSideLengths, .ref a_savedLetters, .ref a_savedSides, .ref a_savedPairs]))], [gO (G 6) a_above r_above 8], gI (G 2) r_above 8 8 above, [(a_labels, .inl (G 0, 32, .inl labels))], [gO (G 4) a_lengthsTo r_lengthsTo 2], gI (G 0) r_lengthsTo 2 32 lengthsTo, [(a_sources, .inl (G 0, 32, .inl sources))], [(a_targets, .inl (G 0, 32, .inl targets))]] (xQv D [[(h, .inr (11, [.ref a_pairs, .ref a_above, .int objects, .int steps, .ref a_sources, .ref a_targets, .ref a_labels, .ref a_lengths, .ref a_letters, .ref a_distances, .ref a_longest, .int firstStep, .int secondStep, .ref a_lengthsTo, .ref a_lengthsFrom, .ref a_path, .int pathLength, .ref a_output, .int outputLength, .ref a_found, .int foundSteps, .ref a_keptLabels, .ref a_keptPairs, .ref a_input, .int inputLength, .int rules, .ref a_sides, .ref a_sideLengths, .int newObjects, .int newSteps, .ref a_newLengths, .ref a_newLetters, .ref a_newSources, .ref a_newTargets, .ref a_newLabels, .ref a_word, .int wordSize, .ref a_failed, .ref a_sizes, .ref a_arrays, .int hasSnapshot, .int savedObjects, .int savedSteps, .int savedRules, .ref a_savedLengths, .ref a_savedSources, .ref a_savedTargets, .ref a_savedLabels, .ref a_savedSideLengths, .ref a_savedLetters, .ref a_savedSides, .ref a_savedPairs]))], [gO (G 6) a_above r_above 8], gI (G 2) r_above 8 8 above, [(a_labels, .inl (G 0, 32, .inl labels))], [gO (G 4) a_lengthsTo r_lengthsTo 2], gI (G 0) r_lengthsTo 2 32 out, [(a_sources, .inl (G 0, 32, .inl sources))], [(a_targets, .inl (G 0, 32, .inl targets))]]) := by
  refine x_ent (cc := cX12_findSide) (maxL := 10) (by decide) rfl (Nat.le_of_ble_eq_true rfl) ?_
  intro p e s m blw meth c aa ls args Q H locs hQ hx hb hr hml hown hts hlocks hE hN hl hP hS
  have hown : s.vm.findClass RX12 = some m.cls := hown
  have hl : lv_has ls 10 [(0, .ref h), (1, .int v1)] := hl
  have L75 : ∀ (v2 : Int32) (v3 : Int32) (v4_row : Int32), vp_in v4_row 2 → ∀ (n_75 : Nat) (v5 : Int32) (lengthsTo : (Nat → Nat → Int32)) (H : Heap) (locs : List Loc) (ls : Array Slot), xW D aa [[(h, .inr (11, [.ref a_pairs, .ref a_above, .int objects, .int steps, .ref a_sources, .ref a_targets, .ref a_labels, .ref a_lengths, .ref a_letters, .ref a_distances, .ref a_longest, .int firstStep, .int secondStep, .ref a_lengthsTo, .ref a_lengthsFrom, .ref a_path, .int pathLength, .ref a_output, .int outputLength, .ref a_found, .int foundSteps, .ref a_keptLabels, .ref a_keptPairs, .ref a_input, .int inputLength, .int rules, .ref a_sides, .ref a_sideLengths, .int newObjects, .int newSteps, .ref a_newLengths, .ref a_newLetters, .ref a_newSources, .ref a_newTargets, .ref a_newLabels, .ref a_word, .int wordSize, .ref a_failed, .ref a_sizes, .ref a_arrays, .int hasSnapshot, .int savedObjects, .int savedSteps, .int savedRules, .ref a_savedLengths, .ref a_savedSources, .ref a_savedTargets, .ref a_savedLabels, .ref a_savedSideLengths, .ref a_savedLetters, .ref a_savedSides, .ref a_savedPairs]))], [gO (G 6) a_above r_above 8], gI (G 2) r_above 8 8 above, [(a_labels, .inl (G 0, 32, .inl labels))], [gO (G 4) a_lengthsTo r_lengthsTo 2], gI (G 0) r_lengthsTo 2 32 lengthsTo, [(a_sources, .inl (G 0, 32, .inl sources))], [(a_targets, .inl (G 0, 32, .inl targets))]] H → va_S (xA aa) s.heap H locs → lv_has ls 10 [(0, .ref h), (2, .int v2), (3, .int v3), (4, .ref (r_lengthsTo v4_row.toNatClampNeg)), (5, .int v5)] → lp (τ := Int32 → (Nat → Nat → Int32) → Option ((Nat → Nat → Int32))) (fun _ _ => none) (f_X12_findSide_L75 fu steps above labels sources targets v2 v3 v4_row) n_75 v5 lengthsTo = some out → W p l e (rM 1 27) s m args blw meth c H locs 0 0 Q (F0 m 75 ls []) := by
    intro v2 v3 v4_row hv4_row n_75
    induction n_75 with
    | zero =>
      intro v5 lengthsTo H locs ls hP hS hl hf
      exact no_some hf
    | succ n_75 ih_75 =>
      intro v5 lengthsTo H locs ls hP hS hl hf
      have hf : f_X12_findSide_L75 fu steps above labels sources targets v2 v3 v4_row (lp (τ := Int32 → (Nat → Nat → Int32) → Option ((Nat → Nat → Int32))) (fun _ _ => none) (f_X12_findSide_L75 fu steps above labels sources targets v2 v3 v4_row) n_75) v5 lengthsTo = some out := hf
      have J197 : ∀ (v5 : Int32) (lengthsTo : (Nat → Nat → Int32)) (H : Heap) (locs : List Loc) (ls : Array Slot), xW D aa [[(h, .inr (11, [.ref a_pairs, .ref a_above, .int objects, .int steps, .ref a_sources, .ref a_targets, .ref a_labels, .ref a_lengths, .ref a_letters, .ref a_distances, .ref a_longest, .int firstStep, .int secondStep, .ref a_lengthsTo, .ref a_lengthsFrom, .ref a_path, .int pathLength, .ref a_output, .int outputLength, .ref a_found, .int foundSteps, .ref a_keptLabels, .ref a_keptPairs, .ref a_input, .int inputLength, .int rules, .ref a_sides, .ref a_sideLengths, .int newObjects, .int newSteps, .ref a_newLengths, .ref a_newLetters, .ref a_newSources, .ref a_newTargets, .ref a_newLabels, .ref a_word, .int wordSize, .ref a_failed, .ref a_sizes, .ref a_arrays, .int hasSnapshot, .int savedObjects, .int savedSteps, .int savedRules, .ref a_savedLengths, .ref a_savedSources, .ref a_savedTargets, .ref a_savedLabels, .ref a_savedSideLengths, .ref a_savedLetters, .ref a_savedSides, .ref a_savedPairs]))], [gO (G 6) a_above r_above 8], gI (G 2) r_above 8 8 above, [(a_labels, .inl (G 0, 32, .inl labels))], [gO (G 4) a_lengthsTo r_lengthsTo 2], gI (G 0) r_lengthsTo 2 32 lengthsTo, [(a_sources, .inl (G 0, 32, .inl sources))], [(a_targets, .inl (G 0, 32, .inl targets))]] H → va_S (xA aa) s.heap H locs → lv_has ls 10 [(0, .ref h), (2, .int v2), (3, .int v3), (4, .ref (r_lengthsTo v4_row.toNatClampNeg)), (5, .int v5)] → f_X12_findSide_J197 (lp (τ := Int32 → (Nat → Nat → Int32) → Option ((Nat → Nat → Int32))) (fun _ _ => none) (f_X12_findSide_L75 fu steps above labels sources targets v2 v3 v4_row) n_75) v5 lengthsTo = some out → W p l e (rM 1 27) s m args blw meth c H locs 0 0 Q (F0 m 197 ls []) := by
        intro v5 lengthsTo  H locs ls  hP hS hl hf
        refine lv_goto (tgt := 75) hx hb dX12_findSide_197 (by decide) ?_
        exact ih_75 v5 lengthsTo H locs ls hP hS (lv_sub hl [0, 1, 2, 3, 4] rfl) hf
      have L86 : ∀ (n_86 : Nat) (v5 : Int32) (v6 : Int32) (lengthsTo : (Nat → Nat → Int32)) (H : Heap) (locs : List Loc) (ls : Array Slot), xW D aa [[(h, .inr (11, [.ref a_pairs, .ref a_above, .int objects, .int steps, .ref a_sources, .ref a_targets, .ref a_labels, .ref a_lengths, .ref a_letters, .ref a_distances, .ref a_longest, .int firstStep, .int secondStep, .ref a_lengthsTo, .ref a_lengthsFrom, .ref a_path, .int pathLength, .ref a_output, .int outputLength, .ref a_found, .int foundSteps, .ref a_keptLabels, .ref a_keptPairs, .ref a_input, .int inputLength, .int rules, .ref a_sides, .ref a_sideLengths, .int newObjects, .int newSteps, .ref a_newLengths, .ref a_newLetters, .ref a_newSources, .ref a_newTargets, .ref a_newLabels, .ref a_word, .int wordSize, .ref a_failed, .ref a_sizes, .ref a_arrays, .int hasSnapshot, .int savedObjects, .int savedSteps, .int savedRules, .ref a_savedLengths, .ref a_savedSources, .ref a_savedTargets, .ref a_savedLabels, .ref a_savedSideLengths, .ref a_savedLetters, .ref a_savedSides, .ref a_savedPairs]))], [gO (G 6) a_above r_above 8], gI (G 2) r_above 8 8 above, [(a_labels, .inl (G 0, 32, .inl labels))], [gO (G 4) a_lengthsTo r_lengthsTo 2], gI (G 0) r_lengthsTo 2 32 lengthsTo, [(a_sources, .inl (G 0, 32, .inl sources))], [(a_targets, .inl (G 0, 32, .inl targets))]] H → va_S (xA aa) s.heap H locs → lv_has ls 10 [(0, .ref h), (2, .int v2), (3, .int v3), (4, .ref (r_lengthsTo v4_row.toNatClampNeg)), (5, .int v5), (6, .int v6)] → lp (τ := Int32 → Int32 → (Nat → Nat → Int32) → Option ((Nat → Nat → Int32))) (fun _ _ _ => none) (f_X12_findSide_L86 fu steps above labels sources targets v2 v3 v4_row (lp (τ := Int32 → (Nat → Nat → Int32) → Option ((Nat → Nat → Int32))) (fun _ _ => none) (f_X12_findSide_L75 fu steps above labels sources targets v2 v3 v4_row) n_75)) n_86 v5 v6 lengthsTo = some out → W p l e (rM 1 27) s m args blw meth c H locs 0 0 Q (F0 m 86 ls []) := by
        intro    n_86
        induction n_86 with
        | zero =>
          intro v5 v6 lengthsTo H locs ls hP hS hl hf
          exact no_some hf
        | succ n_86 ih_86 =>
          intro v5 v6 lengthsTo H locs ls hP hS hl hf
          have hf : f_X12_findSide_L86 fu steps above labels sources targets v2 v3 v4_row (lp (τ := Int32 → (Nat → Nat → Int32) → Option ((Nat → Nat → Int32))) (fun _ _ => none) (f_X12_findSide_L75 fu steps above labels sources targets v2 v3 v4_row) n_75) (lp (τ := Int32 → Int32 → (Nat → Nat → Int32) → Option ((Nat → Nat → Int32))) (fun _ _ _ => none) (f_X12_findSide_L86 fu steps above labels sources targets v2 v3 v4_row (lp (τ := Int32 → (Nat → Nat → Int32) → Option ((Nat → Nat → Int32))) (fun _ _ => none) (f_X12_findSide_L75 fu steps above labels sources targets v2 v3 v4_row) n_75)) n_86) v5 v6 lengthsTo = some out := hf
          have J191 : ∀ (v5 : Int32) (v6 : Int32) (lengthsTo : (Nat → Nat → Int32)) (H : Heap) (locs : List Loc) (ls : Array Slot), xW D aa [[(h, .inr (11, [.ref a_pairs, .ref a_above, .int objects, .int steps, .ref a_sources, .ref a_targets, .ref a_labels, .ref a_lengths, .ref a_letters, .ref a_distances, .ref a_longest, .int firstStep, .int secondStep, .ref a_lengthsTo, .ref a_lengthsFrom, .ref a_path, .int pathLength, .ref a_output, .int outputLength, .ref a_found, .int foundSteps, .ref a_keptLabels, .ref a_keptPairs, .ref a_input, .int inputLength, .int rules, .ref a_sides, .ref a_sideLengths, .int newObjects, .int newSteps, .ref a_newLengths, .ref a_newLetters, .ref a_newSources, .ref a_newTargets, .ref a_newLabels, .ref a_word, .int wordSize, .ref a_failed, .ref a_sizes, .ref a_arrays, .int hasSnapshot, .int savedObjects, .int savedSteps, .int savedRules, .ref a_savedLengths, .ref a_savedSources, .ref a_savedTargets, .ref a_savedLabels, .ref a_savedSideLengths, .ref a_savedLetters, .ref a_savedSides, .ref a_savedPairs]))], [gO (G 6) a_above r_above 8], gI (G 2) r_above 8 8 above, [(a_labels, .inl (G 0, 32, .inl labels))], [gO (G 4) a_lengthsTo r_lengthsTo 2], gI (G 0) r_lengthsTo 2 32 lengthsTo, [(a_sources, .inl (G 0, 32, .inl sources))], [(a_targets, .inl (G 0, 32, .inl targets))]] H → va_S (xA aa) s.heap H locs → lv_has ls 10 [(0, .ref h), (2, .int v2), (3, .int v3), (4, .ref (r_lengthsTo v4_row.toNatClampNeg)), (5, .int v5), (6, .int v6)] → f_X12_findSide_J191 (lp (τ := Int32 → Int32 → (Nat → Nat → Int32) → Option ((Nat → Nat → Int32))) (fun _ _ _ => none) (f_X12_findSide_L86 fu steps above labels sources targets v2 v3 v4_row (lp (τ := Int32 → (Nat → Nat → Int32) → Option ((Nat → Nat → Int32))) (fun _ _ => none) (f_X12_findSide_L75 fu steps above labels sources targets v2 v3 v4_row) n_75)) n_86) v5 v6 lengthsTo = some out → W p l e (rM 1 27) s m args blw meth c H locs 0 0 Q (F0 m 191 ls []) := by
            intro v5 v6 lengthsTo  H locs ls  hP hS hl hf
            obtain ⟨v6_191, e_v6_191, hf⟩ := lt_some hf
            refine lv_iinc (v := v6_191) (lv' := [(6, .int v6_191), (0, .ref h), (2, .int v2), (3, .int v3), (4, .ref (r_lengthsTo v4_row.toNatClampNeg)), (5, .int v5)]) hx hb dX12_findSide_191 hl (k := 5) rfl (by rw [e_v6_191]; rfl) (by decide) rfl (fun ls hl => ?_)
            refine lv_goto (tgt := 86) hx hb dX12_findSide_194 (by decide) ?_
            exact ih_86 v5 v6_191 lengthsTo H locs ls hP hS (lv_sub hl [1, 2, 3, 4, 5, 0] rfl) hf
          have L98 : ∀ (v6 : Int32), ∀ (n_98 : Nat) (v5 : Int32) (v7 : Int32) (lengthsTo : (Nat → Nat → Int32)) (H : Heap) (locs : List Loc) (ls : Array Slot), xW D aa [[(h, .inr (11, [.ref a_pairs, .ref a_above, .int objects, .int steps, .ref a_sources, .ref a_targets, .ref a_labels, .ref a_lengths, .ref a_letters, .ref a_distances, .ref a_longest, .int firstStep, .int secondStep, .ref a_lengthsTo, .ref a_lengthsFrom, .ref a_path, .int pathLength, .ref a_output, .int outputLength, .ref a_found, .int foundSteps, .ref a_keptLabels, .ref a_keptPairs, .ref a_input, .int inputLength, .int rules, .ref a_sides, .ref a_sideLengths, .int newObjects, .int newSteps, .ref a_newLengths, .ref a_newLetters, .ref a_newSources, .ref a_newTargets, .ref a_newLabels, .ref a_word, .int wordSize, .ref a_failed, .ref a_sizes, .ref a_arrays, .int hasSnapshot, .int savedObjects, .int savedSteps, .int savedRules, .ref a_savedLengths, .ref a_savedSources, .ref a_savedTargets, .ref a_savedLabels, .ref a_savedSideLengths, .ref a_savedLetters, .ref a_savedSides, .ref a_savedPairs]))], [gO (G 6) a_above r_above 8], gI (G 2) r_above 8 8 above, [(a_labels, .inl (G 0, 32, .inl labels))], [gO (G 4) a_lengthsTo r_lengthsTo 2], gI (G 0) r_lengthsTo 2 32 lengthsTo, [(a_sources, .inl (G 0, 32, .inl sources))], [(a_targets, .inl (G 0, 32, .inl targets))]] H → va_S (xA aa) s.heap H locs → lv_has ls 10 [(0, .ref h), (2, .int v2), (3, .int v3), (4, .ref (r_lengthsTo v4_row.toNatClampNeg)), (5, .int v5), (6, .int v6), (7, .int v7)] → lp (τ := Int32 → Int32 → (Nat → Nat → Int32) → Option ((Nat → Nat → Int32))) (fun _ _ _ => none) (f_X12_findSide_L98 above labels sources targets v2 v3 v6 v4_row (lp (τ := Int32 → Int32 → (Nat → Nat → Int32) → Option ((Nat → Nat → Int32))) (fun _ _ _ => none) (f_X12_findSide_L86 fu steps above labels sources targets v2 v3 v4_row (lp (τ := Int32 → (Nat → Nat → Int32) → Option ((Nat → Nat → Int32))) (fun _ _ => none) (f_X12_findSide_L75 fu steps above labels sources targets v2 v3 v4_row) n_75)) n_86)) n_98 v5 v7 lengthsTo = some out → W p l e (rM 1 27) s m args blw meth c H locs 0 0 Q (F0 m 98 ls []) := by
            intro v6   n_98
            induction n_98 with
            | zero =>
              intro v5 v7 lengthsTo H locs ls hP hS hl hf
              exact no_some hf
            | succ n_98 ih_98 =>
              intro v5 v7 lengthsTo H locs ls hP hS hl hf
              have hf : f_X12_findSide_L98 above labels sources targets v2 v3 v6 v4_row (lp (τ := Int32 → Int32 → (Nat → Nat → Int32) → Option ((Nat → Nat → Int32))) (fun _ _ _ => none) (f_X12_findSide_L86 fu steps above labels sources targets v2 v3 v4_row (lp (τ := Int32 → (Nat → Nat → Int32) → Option ((Nat → Nat → Int32))) (fun _ _ => none) (f_X12_findSide_L75 fu steps above labels sources targets v2 v3 v4_row) n_75)) n_86) (lp (τ := Int32 → Int32 → (Nat → Nat → Int32) → Option ((Nat → Nat → Int32))) (fun _ _ _ => none) (f_X12_findSide_L98 above labels sources targets v2 v3 v6 v4_row (lp (τ := Int32 → Int32 → (Nat → Nat → Int32) → Option ((Nat → Nat → Int32))) (fun _ _ _ => none) (f_X12_findSide_L86 fu steps above labels sources targets v2 v3 v4_row (lp (τ := Int32 → (Nat → Nat → Int32) → Option ((Nat → Nat → Int32))) (fun _ _ => none) (f_X12_findSide_L75 fu steps above labels sources targets v2 v3 v4_row) n_75)) n_86)) n_98) v5 v7 lengthsTo = some out := hf
              have J185 : ∀ (v5 : Int32) (v7 : Int32) (lengthsTo : (Nat → Nat → Int32)) (H : Heap) (locs : List Loc) (ls : Array Slot), xW D aa [[(h, .inr (11, [.ref a_pairs, .ref a_above, .int objects, .int steps, .ref a_sources, .ref a_targets, .ref a_labels, .ref a_lengths, .ref a_letters, .ref a_distances, .ref a_longest, .int firstStep, .int secondStep, .ref a_lengthsTo, .ref a_lengthsFrom, .ref a_path, .int pathLength, .ref a_output, .int outputLength, .ref a_found, .int foundSteps, .ref a_keptLabels, .ref a_keptPairs, .ref a_input, .int inputLength, .int rules, .ref a_sides, .ref a_sideLengths, .int newObjects, .int newSteps, .ref a_newLengths, .ref a_newLetters, .ref a_newSources, .ref a_newTargets, .ref a_newLabels, .ref a_word, .int wordSize, .ref a_failed, .ref a_sizes, .ref a_arrays, .int hasSnapshot, .int savedObjects, .int savedSteps, .int savedRules, .ref a_savedLengths, .ref a_savedSources, .ref a_savedTargets, .ref a_savedLabels, .ref a_savedSideLengths, .ref a_savedLetters, .ref a_savedSides, .ref a_savedPairs]))], [gO (G 6) a_above r_above 8], gI (G 2) r_above 8 8 above, [(a_labels, .inl (G 0, 32, .inl labels))], [gO (G 4) a_lengthsTo r_lengthsTo 2], gI (G 0) r_lengthsTo 2 32 lengthsTo, [(a_sources, .inl (G 0, 32, .inl sources))], [(a_targets, .inl (G 0, 32, .inl targets))]] H → va_S (xA aa) s.heap H locs → lv_has ls 10 [(0, .ref h), (2, .int v2), (3, .int v3), (4, .ref (r_lengthsTo v4_row.toNatClampNeg)), (5, .int v5), (6, .int v6), (7, .int v7)] → f_X12_findSide_J185 (lp (τ := Int32 → Int32 → (Nat → Nat → Int32) → Option ((Nat → Nat → Int32))) (fun _ _ _ => none) (f_X12_findSide_L98 above labels sources targets v2 v3 v6 v4_row (lp (τ := Int32 → Int32 → (Nat → Nat → Int32) → Option ((Nat → Nat → Int32))) (fun _ _ _ => none) (f_X12_findSide_L86 fu steps above labels sources targets v2 v3 v4_row (lp (τ := Int32 → (Nat → Nat → Int32) → Option ((Nat → Nat → Int32))) (fun _ _ => none) (f_X12_findSide_L75 fu steps above labels sources targets v2 v3 v4_row) n_75)) n_86)) n_98) v5 v7 lengthsTo = some out → W p l e (rM 1 27) s m args blw meth c H locs 0 0 Q (F0 m 185 ls []) := by
                intro v5 v7 lengthsTo  H locs ls  hP hS hl hf
                obtain ⟨v7_185, e_v7_185, hf⟩ := lt_some hf
                refine lv_iinc (v := v7_185) (lv' := [(7, .int v7_185), (0, .ref h), (2, .int v2), (3, .int v3), (4, .ref (r_lengthsTo v4_row.toNatClampNeg)), (5, .int v5), (6, .int v6)]) hx hb dX12_findSide_185 hl (k := 6) rfl (by rw [e_v7_185]; rfl) (by decide) rfl (fun ls hl => ?_)
                refine lv_goto (tgt := 98) hx hb dX12_findSide_188 (by decide) ?_
                exact ih_98 v5 v7_185 lengthsTo H locs ls hP hS (lv_sub hl [1, 2, 3, 4, 5, 6, 0] rfl) hf
              refine lv_iload hx hb dX12_findSide_98 (lv_at hl 6 rfl) ?_
              refine lv_iconst (v := 4) hx hb dX12_findSide_100 (by decide) ?_
              refine lv_icmp_ge (tgt := 191) hx hb dX12_findSide_101 (by decide) (fun c_101 => ?_) (fun c_101 => ?_)
              · have hf := it_pos c_101 hf
                exact J191 v5 v6 lengthsTo  H locs ls  hP hS (lv_sub hl [0, 1, 2, 3, 4, 5] rfl) hf
              · have hf := it_neg c_101 hf
                refine lv_iconst (v := 2) hx hb dX12_findSide_104 (by decide) ?_
                refine lv_aload_n hx hb dX12_findSide_105 rfl (lv_at hl 0 rfl) ?_
                refine x_get hx hb hts u_X12_findSide_X12 hown hE hP 0 rfl rfl 4 (by decide) (hts (.fieldLink RX12 17 "DecreasingDiagramsModel" "sources" "[I") (List.mem_of_getElem? (i := 5) rfl)) rfl dX12_findSide_106 ?_
                refine lv_iload hx hb dX12_findSide_109 (lv_at hl 5 rfl) ?_
                obtain ⟨hi, hf⟩ := ck_some hf
                refine x_iald hx hb hE hP 6 rfl hi dX12_findSide_111 ?_
                refine lv_imul hx hb dX12_findSide_112 ?_
                refine lv_iload hx hb dX12_findSide_113 (lv_at hl 6 rfl) ?_
                refine lv_iconst (v := 2) hx hb dX12_findSide_115 (by decide) ?_
                refine lv_idiv hx hb dX12_findSide_116 (by decide) ?_
                refine lv_iadd hx hb dX12_findSide_117 ?_
                obtain ⟨v8_118, e_v8_118, hf⟩ := lt_some hf
                refine x_istore (v := v8_118) (lv' := [(8, .int v8_118), (0, .ref h), (2, .int v2), (3, .int v3), (4, .ref (r_lengthsTo v4_row.toNatClampNeg)), (5, .int v5), (6, .int v6), (7, .int v7)]) hx hb dX12_findSide_118 e_v8_118 hl (by decide) rfl (fun ls hl => ?_)
                refine lv_iconst (v := 2) hx hb dX12_findSide_120 (by decide) ?_
                refine lv_aload_n hx hb dX12_findSide_121 rfl (lv_at hl 1 rfl) ?_
                refine x_get hx hb hts u_X12_findSide_X12 hown hE hP 0 rfl rfl 5 (by decide) (hts (.fieldLink RX12 21 "DecreasingDiagramsModel" "targets" "[I") (List.mem_of_getElem? (i := 3) rfl)) rfl dX12_findSide_122 ?_
                refine lv_iload hx hb dX12_findSide_125 (lv_at hl 6 rfl) ?_
                obtain ⟨hi, hf⟩ := ck_some hf
                refine x_iald hx hb hE hP 7 rfl hi dX12_findSide_127 ?_
                refine lv_imul hx hb dX12_findSide_128 ?_
                refine lv_iload hx hb dX12_findSide_129 (lv_at hl 7 rfl) ?_
                refine lv_iconst (v := 2) hx hb dX12_findSide_131 (by decide) ?_
                refine lv_irem hx hb dX12_findSide_132 (by decide) ?_
                refine lv_iadd hx hb dX12_findSide_133 ?_
                obtain ⟨v9_134, e_v9_134, hf⟩ := lt_some hf
                refine x_istore (v := v9_134) (lv' := [(9, .int v9_134), (8, .int v8_118), (0, .ref h), (2, .int v2), (3, .int v3), (4, .ref (r_lengthsTo v4_row.toNatClampNeg)), (5, .int v5), (6, .int v6), (7, .int v7)]) hx hb dX12_findSide_134 e_v9_134 hl (by decide) rfl (fun ls hl => ?_)
                refine lv_aload hx hb dX12_findSide_136 (lv_at hl 5 rfl) ?_
                refine lv_iload hx hb dX12_findSide_138 (lv_at hl 1 rfl) ?_
                obtain ⟨hi, hf⟩ := ck_some hf
                refine x_iald2 hx hb hE hP 5 rfl hv4_row hi dX12_findSide_140 ?_
                refine lv_iconst (v := 1) hx hb dX12_findSide_141 (by decide) ?_
                refine lv_iadd hx hb dX12_findSide_142 ?_
                refine lv_aload hx hb dX12_findSide_143 (lv_at hl 5 rfl) ?_
                refine lv_iload hx hb dX12_findSide_145 (lv_at hl 0 rfl) ?_
                obtain ⟨hi, hf⟩ := ck_some hf
                refine x_iald2 hx hb hE hP 5 rfl hv4_row hi dX12_findSide_147 ?_
                refine lv_icmp_ge (tgt := 185) hx hb dX12_findSide_148 (by decide) (fun c_148 => ?_) (fun c_148 => ?_)
                · have hf := it_pos c_148 hf
                  exact J185 v5 v7 lengthsTo  H locs ls  hP hS (lv_sub hl [2, 3, 4, 5, 6, 7, 8] rfl) hf
                · have hf := it_neg c_148 hf
                  refine lv_aload_n hx hb dX12_findSide_151 rfl (lv_at hl 2 rfl) ?_
                  refine lv_iload hx hb dX12_findSide_152 (lv_at hl 7 rfl) ?_
                  refine lv_iload hx hb dX12_findSide_154 (lv_at hl 8 rfl) ?_
                  refine lv_iconst (v := 2) hx hb dX12_findSide_156 (by decide) ?_
                  refine lv_idiv hx hb dX12_findSide_157 (by decide) ?_
                  refine lv_iload hx hb dX12_findSide_158 (lv_at hl 8 rfl) ?_
                  refine lv_iconst (v := 2) hx hb dX12_findSide_160 (by decide) ?_
                  refine lv_irem hx hb dX12_findSide_161 (by decide) ?_
                  refine lv_iload_n hx hb dX12_findSide_162 rfl (lv_at hl 3 rfl) ?_
                  refine lv_iload_n hx hb dX12_findSide_163 rfl (lv_at hl 4 rfl) ?_
                  obtain ⟨r_164, hr_164, hf⟩ := bd_some hf
                  refine x_goi0 (ps := [0, 1, 2, 3]) (x_runV (As := [.int v6, .int (v7 / 2), .int (v7 - v7 / 2 * 2), .int v2, .int v3]) (rest := []) (ps := [0, 1, 2, 3]) ⟨hx, hb, hml, hown, hts⟩ (k_X12_leads l D G fu h a_pairs a_above a_sources a_targets a_labels a_lengths a_letters a_distances a_longest a_lengthsTo a_lengthsFrom a_path a_output a_found a_keptLabels a_keptPairs a_input a_sides a_sideLengths a_newLengths a_newLetters a_newSources a_newTargets a_newLabels a_word a_failed a_sizes a_arrays a_savedLengths a_savedSources a_savedTargets a_savedLabels a_savedSideLengths a_savedLetters a_savedSides a_savedPairs r_above objects steps firstStep secondStep pathLength outputLength foundSteps inputLength rules newObjects newSteps wordSize hasSnapshot savedObjects savedSteps savedRules above labels v6 (v7 / 2) (v7 - v7 / 2 * 2) v2 v3 r_164 hr_164) (cwV 5 hts gX12_findSide_X12_leads rfl rfl rfl (by decide +kernel) ⟨Nat.le_of_ble_eq_true rfl, Nat.le_of_ble_eq_true rfl⟩) hE hP hN rfl (by decide) 0 rfl rfl rfl hl.1 (Nat.le_of_ble_eq_true rfl) dX12_findSide_164 ⟨Nat.zero_le _, Nat.zero_le _⟩) hP hN hS rfl (fun H locs hP hS => ?_)
                  refine lv_if_eq (tgt := 185) hx hb dX12_findSide_167 (by decide) (fun c_167 => ?_) (fun c_167 => ?_)
                  · have hf := it_pos c_167 hf
                    exact J185 v5 v7 lengthsTo  H locs ls  hP hS (lv_sub hl [2, 3, 4, 5, 6, 7, 8] rfl) hf
                  · have hf := it_neg c_167 hf
                    refine lv_aload hx hb dX12_findSide_170 (lv_at hl 5 rfl) ?_
                    refine lv_iload hx hb dX12_findSide_172 (lv_at hl 0 rfl) ?_
                    refine lv_aload hx hb dX12_findSide_174 (lv_at hl 5 rfl) ?_
                    refine lv_iload hx hb dX12_findSide_176 (lv_at hl 1 rfl) ?_
                    obtain ⟨hi, hf⟩ := ck_some hf
                    refine x_iald2 hx hb hE hP 5 rfl hv4_row hi dX12_findSide_178 ?_
                    refine lv_iconst (v := 1) hx hb dX12_findSide_179 (by decide) ?_
                    refine lv_iadd hx hb dX12_findSide_180 ?_
                    obtain ⟨hi, hf⟩ := ck_some hf
                    obtain ⟨lengthsTo_181, e_lengthsTo_181, hf⟩ := lt_some hf
                    refine x_iast2 (I' := [[(h, .inr (11, [.ref a_pairs, .ref a_above, .int objects, .int steps, .ref a_sources, .ref a_targets, .ref a_labels, .ref a_lengths, .ref a_letters, .ref a_distances, .ref a_longest, .int firstStep, .int secondStep, .ref a_lengthsTo, .ref a_lengthsFrom, .ref a_path, .int pathLength, .ref a_output, .int outputLength, .ref a_found, .int foundSteps, .ref a_keptLabels, .ref a_keptPairs, .ref a_input, .int inputLength, .int rules, .ref a_sides, .ref a_sideLengths, .int newObjects, .int newSteps, .ref a_newLengths, .ref a_newLetters, .ref a_newSources, .ref a_newTargets, .ref a_newLabels, .ref a_word, .int wordSize, .ref a_failed, .ref a_sizes, .ref a_arrays, .int hasSnapshot, .int savedObjects, .int savedSteps, .int savedRules, .ref a_savedLengths, .ref a_savedSources, .ref a_savedTargets, .ref a_savedLabels, .ref a_savedSideLengths, .ref a_savedLetters, .ref a_savedSides, .ref a_savedPairs]))], [gO (G 6) a_above r_above 8], gI (G 2) r_above 8 8 above, [(a_labels, .inl (G 0, 32, .inl labels))], [gO (G 4) a_lengthsTo r_lengthsTo 2], gI (G 0) r_lengthsTo 2 32 lengthsTo_181, [(a_sources, .inl (G 0, 32, .inl sources))], [(a_targets, .inl (G 0, 32, .inl targets))]]) hx hb hE hP hN hS 5 rfl hv4_row hi e_lengthsTo_181 rfl dX12_findSide_181 (fun H locs hP hS => ?_)
                    refine lv_iconst (v := 1) hx hb dX12_findSide_182 (by decide) ?_
                    obtain ⟨v5_183, e_v5_183, hf⟩ := lt_some hf
                    refine x_istore (v := v5_183) (lv' := [(5, .int v5_183), (9, .int v9_134), (8, .int v8_118), (0, .ref h), (2, .int v2), (3, .int v3), (4, .ref (r_lengthsTo v4_row.toNatClampNeg)), (6, .int v6), (7, .int v7)]) hx hb dX12_findSide_183 e_v5_183 hl (by decide) rfl (fun ls hl => ?_)
                    exact J185 v5_183 v7 lengthsTo_181  H locs ls  hP hS (lv_sub hl [3, 4, 5, 6, 0, 7, 8] rfl) hf
          refine lv_iload hx hb dX12_findSide_86 (lv_at hl 5 rfl) ?_
          refine lv_aload_n hx hb dX12_findSide_88 rfl (lv_at hl 0 rfl) ?_
          refine x_get hx hb hts u_X12_findSide_X12 hown hE hP 0 rfl rfl 3 (by decide) (hts (.fieldLink RX12 135 "DecreasingDiagramsModel" "steps" "I") (List.mem_of_getElem? (i := 4) rfl)) rfl dX12_findSide_89 ?_
          refine lv_icmp_ge (tgt := 197) hx hb dX12_findSide_92 (by decide) (fun c_92 => ?_) (fun c_92 => ?_)
          · have hf := it_pos c_92 hf
            exact J197 v5 lengthsTo  H locs ls  hP hS (lv_sub hl [0, 1, 2, 3, 4] rfl) hf
          · have hf := it_neg c_92 hf
            refine lv_iconst (v := 0) hx hb dX12_findSide_95 (by decide) ?_
            obtain ⟨v7_96, e_v7_96, hf⟩ := lt_some hf
            refine x_istore (v := v7_96) (lv' := [(7, .int v7_96), (0, .ref h), (2, .int v2), (3, .int v3), (4, .ref (r_lengthsTo v4_row.toNatClampNeg)), (5, .int v5), (6, .int v6)]) hx hb dX12_findSide_96 e_v7_96 hl (by decide) rfl (fun ls hl => ?_)
            exact L98 v6   fu v5 v7_96 lengthsTo H locs ls hP hS (lv_sub hl [1, 2, 3, 4, 5, 6, 0] rfl) hf
      refine lv_iload hx hb dX12_findSide_75 (lv_at hl 4 rfl) ?_
      refine lv_if_eq (tgt := 200) hx hb dX12_findSide_77 (by decide) (fun c_77 => ?_) (fun c_77 => ?_)
      · have hf := it_pos c_77 hf
        have hf := Option.some.inj hf
        rewrite [← hQ, ← hf]
        exact x_vret hx hb hr hlocks hP hS dX12_findSide_200
      · have hf := it_neg c_77 hf
        refine lv_iconst (v := 0) hx hb dX12_findSide_80 (by decide) ?_
        obtain ⟨v5_81, e_v5_81, hf⟩ := lt_some hf
        refine x_istore (v := v5_81) (lv' := [(5, .int v5_81), (0, .ref h), (2, .int v2), (3, .int v3), (4, .ref (r_lengthsTo v4_row.toNatClampNeg))]) hx hb dX12_findSide_81 e_v5_81 hl (by decide) rfl (fun ls hl => ?_)
        refine lv_iconst (v := 0) hx hb dX12_findSide_83 (by decide) ?_
        obtain ⟨v6_84, e_v6_84, hf⟩ := lt_some hf
        refine x_istore (v := v6_84) (lv' := [(6, .int v6_84), (5, .int v5_81), (0, .ref h), (2, .int v2), (3, .int v3), (4, .ref (r_lengthsTo v4_row.toNatClampNeg))]) hx hb dX12_findSide_84 e_v6_84 hl (by decide) rfl (fun ls hl => ?_)
        exact L86    fu v5_81 v6_84 lengthsTo H locs ls hP hS (lv_sub hl [2, 3, 4, 5, 1, 0] rfl) hf
  have J56 : ∀ (v2 : Int32) (v3 : Int32) (lengthsTo : (Nat → Nat → Int32)) (v4_row : Int32) (H : Heap) (locs : List Loc) (ls : Array Slot), vp_in v4_row 2 → xW D aa [[(h, .inr (11, [.ref a_pairs, .ref a_above, .int objects, .int steps, .ref a_sources, .ref a_targets, .ref a_labels, .ref a_lengths, .ref a_letters, .ref a_distances, .ref a_longest, .int firstStep, .int secondStep, .ref a_lengthsTo, .ref a_lengthsFrom, .ref a_path, .int pathLength, .ref a_output, .int outputLength, .ref a_found, .int foundSteps, .ref a_keptLabels, .ref a_keptPairs, .ref a_input, .int inputLength, .int rules, .ref a_sides, .ref a_sideLengths, .int newObjects, .int newSteps, .ref a_newLengths, .ref a_newLetters, .ref a_newSources, .ref a_newTargets, .ref a_newLabels, .ref a_word, .int wordSize, .ref a_failed, .ref a_sizes, .ref a_arrays, .int hasSnapshot, .int savedObjects, .int savedSteps, .int savedRules, .ref a_savedLengths, .ref a_savedSources, .ref a_savedTargets, .ref a_savedLabels, .ref a_savedSideLengths, .ref a_savedLetters, .ref a_savedSides, .ref a_savedPairs]))], [gO (G 6) a_above r_above 8], gI (G 2) r_above 8 8 above, [(a_labels, .inl (G 0, 32, .inl labels))], [gO (G 4) a_lengthsTo r_lengthsTo 2], gI (G 0) r_lengthsTo 2 32 lengthsTo, [(a_sources, .inl (G 0, 32, .inl sources))], [(a_targets, .inl (G 0, 32, .inl targets))]] H → va_S (xA aa) s.heap H locs → lv_has ls 10 [(0, .ref h), (1, .int v1), (2, .int v2), (3, .int v3), (4, .ref (r_lengthsTo v4_row.toNatClampNeg))] → f_X12_findSide_J56 fu steps firstStep secondStep above labels sources targets v1 v4_row v2 v3 lengthsTo = some out → W p l e (rM 1 27) s m args blw meth c H locs 0 0 Q (F0 m 56 ls []) := by
    intro v2 v3 lengthsTo v4_row H locs ls hv4_row hP hS hl hf
    refine lv_aload hx hb dX12_findSide_56 (lv_at hl 4 rfl) ?_
    refine lv_iconst (v := 2) hx hb dX12_findSide_58 (by decide) ?_
    refine lv_aload_n hx hb dX12_findSide_59 rfl (lv_at hl 0 rfl) ?_
    refine x_get hx hb hts u_X12_findSide_X12 hown hE hP 0 rfl rfl 5 (by decide) (hts (.fieldLink RX12 21 "DecreasingDiagramsModel" "targets" "[I") (List.mem_of_getElem? (i := 3) rfl)) rfl dX12_findSide_60 ?_
    refine lv_aload_n hx hb dX12_findSide_63 rfl (lv_at hl 0 rfl) ?_
    refine lv_iload_n hx hb dX12_findSide_64 rfl (lv_at hl 1 rfl) ?_
    obtain ⟨r_65, hr_65, hf⟩ := bd_some hf
    refine x_goi0 (ps := [0]) (x_runV (As := [.int v1]) (rest := [.ref a_targets, .int 2, .ref (r_lengthsTo v4_row.toNatClampNeg)]) (ps := [0]) ⟨hx, hb, hml, hown, hts⟩ (k_X12_stepOf l D G fu h a_pairs a_above a_sources a_targets a_labels a_lengths a_letters a_distances a_longest a_lengthsTo a_lengthsFrom a_path a_output a_found a_keptLabels a_keptPairs a_input a_sides a_sideLengths a_newLengths a_newLetters a_newSources a_newTargets a_newLabels a_word a_failed a_sizes a_arrays a_savedLengths a_savedSources a_savedTargets a_savedLabels a_savedSideLengths a_savedLetters a_savedSides a_savedPairs objects steps firstStep secondStep pathLength outputLength foundSteps inputLength rules newObjects newSteps wordSize hasSnapshot savedObjects savedSteps savedRules v1 r_65 hr_65) (cwV 1 hts gX12_findSide_X12_stepOf rfl rfl rfl (by decide +kernel) ⟨Nat.le_of_ble_eq_true rfl, Nat.le_of_ble_eq_true rfl⟩) hE hP hN rfl (by decide) 0 rfl rfl rfl hl.1 (Nat.le_of_ble_eq_true rfl) dX12_findSide_65 ⟨Nat.zero_le _, Nat.zero_le _⟩) hP hN hS rfl (fun H locs hP hS => ?_)
    obtain ⟨hi, hf⟩ := ck_some hf
    refine x_iald hx hb hE hP 7 rfl hi dX12_findSide_68 ?_
    refine lv_imul hx hb dX12_findSide_69 ?_
    refine lv_iconst (v := 0) hx hb dX12_findSide_70 (by decide) ?_
    obtain ⟨hi, hf⟩ := ck_some hf
    obtain ⟨lengthsTo_71, e_lengthsTo_71, hf⟩ := lt_some hf
    refine x_iast2 (I' := [[(h, .inr (11, [.ref a_pairs, .ref a_above, .int objects, .int steps, .ref a_sources, .ref a_targets, .ref a_labels, .ref a_lengths, .ref a_letters, .ref a_distances, .ref a_longest, .int firstStep, .int secondStep, .ref a_lengthsTo, .ref a_lengthsFrom, .ref a_path, .int pathLength, .ref a_output, .int outputLength, .ref a_found, .int foundSteps, .ref a_keptLabels, .ref a_keptPairs, .ref a_input, .int inputLength, .int rules, .ref a_sides, .ref a_sideLengths, .int newObjects, .int newSteps, .ref a_newLengths, .ref a_newLetters, .ref a_newSources, .ref a_newTargets, .ref a_newLabels, .ref a_word, .int wordSize, .ref a_failed, .ref a_sizes, .ref a_arrays, .int hasSnapshot, .int savedObjects, .int savedSteps, .int savedRules, .ref a_savedLengths, .ref a_savedSources, .ref a_savedTargets, .ref a_savedLabels, .ref a_savedSideLengths, .ref a_savedLetters, .ref a_savedSides, .ref a_savedPairs]))], [gO (G 6) a_above r_above 8], gI (G 2) r_above 8 8 above, [(a_labels, .inl (G 0, 32, .inl labels))], [gO (G 4) a_lengthsTo r_lengthsTo 2], gI (G 0) r_lengthsTo 2 32 lengthsTo_71, [(a_sources, .inl (G 0, 32, .inl sources))], [(a_targets, .inl (G 0, 32, .inl targets))]]) hx hb hE hP hN hS 5 rfl hv4_row hi e_lengthsTo_71 rfl dX12_findSide_71 (fun H locs hP hS => ?_)
    refine lv_iconst (v := 1) hx hb dX12_findSide_72 (by decide) ?_
    obtain ⟨v5_73, e_v5_73, hf⟩ := lt_some hf
    refine x_istore (v := v5_73) (lv' := [(5, .int v5_73), (0, .ref h), (1, .int v1), (2, .int v2), (3, .int v3), (4, .ref (r_lengthsTo v4_row.toNatClampNeg))]) hx hb dX12_findSide_73 e_v5_73 hl (by decide) rfl (fun ls hl => ?_)
    exact L75 v2 v3 v4_row hv4_row fu v5_73 lengthsTo_71 H locs ls hP hS (lv_sub hl [1, 3, 4, 5, 0] rfl) hf
  have L35 : ∀ (v2 : Int32) (v3 : Int32) (v4_row : Int32), vp_in v4_row 2 → ∀ (n_35 : Nat) (v5 : Int32) (lengthsTo : (Nat → Nat → Int32)) (H : Heap) (locs : List Loc) (ls : Array Slot), xW D aa [[(h, .inr (11, [.ref a_pairs, .ref a_above, .int objects, .int steps, .ref a_sources, .ref a_targets, .ref a_labels, .ref a_lengths, .ref a_letters, .ref a_distances, .ref a_longest, .int firstStep, .int secondStep, .ref a_lengthsTo, .ref a_lengthsFrom, .ref a_path, .int pathLength, .ref a_output, .int outputLength, .ref a_found, .int foundSteps, .ref a_keptLabels, .ref a_keptPairs, .ref a_input, .int inputLength, .int rules, .ref a_sides, .ref a_sideLengths, .int newObjects, .int newSteps, .ref a_newLengths, .ref a_newLetters, .ref a_newSources, .ref a_newTargets, .ref a_newLabels, .ref a_word, .int wordSize, .ref a_failed, .ref a_sizes, .ref a_arrays, .int hasSnapshot, .int savedObjects, .int savedSteps, .int savedRules, .ref a_savedLengths, .ref a_savedSources, .ref a_savedTargets, .ref a_savedLabels, .ref a_savedSideLengths, .ref a_savedLetters, .ref a_savedSides, .ref a_savedPairs]))], [gO (G 6) a_above r_above 8], gI (G 2) r_above 8 8 above, [(a_labels, .inl (G 0, 32, .inl labels))], [gO (G 4) a_lengthsTo r_lengthsTo 2], gI (G 0) r_lengthsTo 2 32 lengthsTo, [(a_sources, .inl (G 0, 32, .inl sources))], [(a_targets, .inl (G 0, 32, .inl targets))]] H → va_S (xA aa) s.heap H locs → lv_has ls 10 [(0, .ref h), (1, .int v1), (2, .int v2), (3, .int v3), (4, .ref (r_lengthsTo v4_row.toNatClampNeg)), (5, .int v5)] → lp (τ := Int32 → (Nat → Nat → Int32) → Option ((Nat → Nat → Int32))) (fun _ _ => none) (f_X12_findSide_L35 fu steps firstStep secondStep above labels sources targets v1 v2 v3 v4_row) n_35 v5 lengthsTo = some out → W p l e (rM 1 27) s m args blw meth c H locs 0 0 Q (F0 m 35 ls []) := by
    intro v2 v3 v4_row hv4_row n_35
    induction n_35 with
    | zero =>
      intro v5 lengthsTo H locs ls hP hS hl hf
      exact no_some hf
    | succ n_35 ih_35 =>
      intro v5 lengthsTo H locs ls hP hS hl hf
      have hf : f_X12_findSide_L35 fu steps firstStep secondStep above labels sources targets v1 v2 v3 v4_row (lp (τ := Int32 → (Nat → Nat → Int32) → Option ((Nat → Nat → Int32))) (fun _ _ => none) (f_X12_findSide_L35 fu steps firstStep secondStep above labels sources targets v1 v2 v3 v4_row) n_35) v5 lengthsTo = some out := hf
      refine lv_iload hx hb dX12_findSide_35 (lv_at hl 5 rfl) ?_
      refine lv_bipush (v := 32) hx hb dX12_findSide_37 (by decide) ?_
      refine lv_icmp_ge (tgt := 56) hx hb dX12_findSide_39 (by decide) (fun c_39 => ?_) (fun c_39 => ?_)
      · have hf := it_pos c_39 hf
        exact J56 v2 v3 lengthsTo v4_row H locs ls hv4_row hP hS (lv_sub hl [0, 1, 2, 3, 4] rfl) hf
      · have hf := it_neg c_39 hf
        refine lv_aload hx hb dX12_findSide_42 (lv_at hl 4 rfl) ?_
        refine lv_iload hx hb dX12_findSide_44 (lv_at hl 5 rfl) ?_
        refine lv_sipush (v := 1000) hx hb dX12_findSide_46 (by decide) ?_
        obtain ⟨hi, hf⟩ := ck_some hf
        obtain ⟨lengthsTo_49, e_lengthsTo_49, hf⟩ := lt_some hf
        refine x_iast2 (I' := [[(h, .inr (11, [.ref a_pairs, .ref a_above, .int objects, .int steps, .ref a_sources, .ref a_targets, .ref a_labels, .ref a_lengths, .ref a_letters, .ref a_distances, .ref a_longest, .int firstStep, .int secondStep, .ref a_lengthsTo, .ref a_lengthsFrom, .ref a_path, .int pathLength, .ref a_output, .int outputLength, .ref a_found, .int foundSteps, .ref a_keptLabels, .ref a_keptPairs, .ref a_input, .int inputLength, .int rules, .ref a_sides, .ref a_sideLengths, .int newObjects, .int newSteps, .ref a_newLengths, .ref a_newLetters, .ref a_newSources, .ref a_newTargets, .ref a_newLabels, .ref a_word, .int wordSize, .ref a_failed, .ref a_sizes, .ref a_arrays, .int hasSnapshot, .int savedObjects, .int savedSteps, .int savedRules, .ref a_savedLengths, .ref a_savedSources, .ref a_savedTargets, .ref a_savedLabels, .ref a_savedSideLengths, .ref a_savedLetters, .ref a_savedSides, .ref a_savedPairs]))], [gO (G 6) a_above r_above 8], gI (G 2) r_above 8 8 above, [(a_labels, .inl (G 0, 32, .inl labels))], [gO (G 4) a_lengthsTo r_lengthsTo 2], gI (G 0) r_lengthsTo 2 32 lengthsTo_49, [(a_sources, .inl (G 0, 32, .inl sources))], [(a_targets, .inl (G 0, 32, .inl targets))]]) hx hb hE hP hN hS 5 rfl hv4_row hi e_lengthsTo_49 rfl dX12_findSide_49 (fun H locs hP hS => ?_)
        obtain ⟨v5_50, e_v5_50, hf⟩ := lt_some hf
        refine lv_iinc (v := v5_50) (lv' := [(5, .int v5_50), (0, .ref h), (1, .int v1), (2, .int v2), (3, .int v3), (4, .ref (r_lengthsTo v4_row.toNatClampNeg))]) hx hb dX12_findSide_50 hl (k := 5) rfl (by rw [e_v5_50]; rfl) (by decide) rfl (fun ls hl => ?_)
        refine lv_goto (tgt := 35) hx hb dX12_findSide_53 (by decide) ?_
        exact ih_35 v5_50 lengthsTo_49 H locs ls hP hS (lv_sub hl [1, 2, 3, 4, 5, 0] rfl) hf
  refine lv_aload_n hx hb dX12_findSide_0 rfl (lv_at hl 0 rfl) ?_
  refine x_get hx hb hts u_X12_findSide_X12 hown hE hP 0 rfl rfl 6 (by decide) (hts (.fieldLink RX12 24 "DecreasingDiagramsModel" "labels" "[I") (List.mem_of_getElem? (i := 1) rfl)) rfl dX12_findSide_1 ?_
  refine lv_aload_n hx hb dX12_findSide_4 rfl (lv_at hl 0 rfl) ?_
  refine lv_iload_n hx hb dX12_findSide_5 rfl (lv_at hl 1 rfl) ?_
  obtain ⟨r_6, hr_6, hf⟩ := bd_some hf
  refine x_goi0 (ps := [0]) (x_runV (As := [.int v1]) (rest := [.ref a_labels]) (ps := [0]) ⟨hx, hb, hml, hown, hts⟩ (k_X12_stepOf l D G fu h a_pairs a_above a_sources a_targets a_labels a_lengths a_letters a_distances a_longest a_lengthsTo a_lengthsFrom a_path a_output a_found a_keptLabels a_keptPairs a_input a_sides a_sideLengths a_newLengths a_newLetters a_newSources a_newTargets a_newLabels a_word a_failed a_sizes a_arrays a_savedLengths a_savedSources a_savedTargets a_savedLabels a_savedSideLengths a_savedLetters a_savedSides a_savedPairs objects steps firstStep secondStep pathLength outputLength foundSteps inputLength rules newObjects newSteps wordSize hasSnapshot savedObjects savedSteps savedRules v1 r_6 hr_6) (cwV 1 hts gX12_findSide_X12_stepOf rfl rfl rfl (by decide +kernel) ⟨Nat.le_of_ble_eq_true rfl, Nat.le_of_ble_eq_true rfl⟩) hE hP hN rfl (by decide) 0 rfl rfl rfl hl.1 (Nat.le_of_ble_eq_true rfl) dX12_findSide_6 ⟨Nat.zero_le _, Nat.zero_le _⟩) hP hN hS rfl (fun H locs hP hS => ?_)
  obtain ⟨hi, hf⟩ := ck_some hf
  refine x_iald hx hb hE hP 3 rfl hi dX12_findSide_9 ?_
  obtain ⟨v2_10, e_v2_10, hf⟩ := lt_some hf
  refine x_istore_n (v := v2_10) (lv' := [(2, .int v2_10), (0, .ref h), (1, .int v1)]) hx hb dX12_findSide_10 e_v2_10 rfl hl (by decide) rfl (fun ls hl => ?_)
  refine lv_aload_n hx hb dX12_findSide_11 rfl (lv_at hl 1 rfl) ?_
  refine x_get hx hb hts u_X12_findSide_X12 hown hE hP 0 rfl rfl 6 (by decide) (hts (.fieldLink RX12 24 "DecreasingDiagramsModel" "labels" "[I") (List.mem_of_getElem? (i := 1) rfl)) rfl dX12_findSide_12 ?_
  refine lv_aload_n hx hb dX12_findSide_15 rfl (lv_at hl 1 rfl) ?_
  refine lv_iconst (v := 1) hx hb dX12_findSide_16 (by decide) ?_
  refine lv_iload_n hx hb dX12_findSide_17 rfl (lv_at hl 2 rfl) ?_
  refine lv_isub hx hb dX12_findSide_18 ?_
  obtain ⟨r_19, hr_19, hf⟩ := bd_some hf
  refine x_goi0 (ps := [0]) (x_runV (As := [.int (1 - v1)]) (rest := [.ref a_labels]) (ps := [0]) ⟨hx, hb, hml, hown, hts⟩ (k_X12_stepOf l D G fu h a_pairs a_above a_sources a_targets a_labels a_lengths a_letters a_distances a_longest a_lengthsTo a_lengthsFrom a_path a_output a_found a_keptLabels a_keptPairs a_input a_sides a_sideLengths a_newLengths a_newLetters a_newSources a_newTargets a_newLabels a_word a_failed a_sizes a_arrays a_savedLengths a_savedSources a_savedTargets a_savedLabels a_savedSideLengths a_savedLetters a_savedSides a_savedPairs objects steps firstStep secondStep pathLength outputLength foundSteps inputLength rules newObjects newSteps wordSize hasSnapshot savedObjects savedSteps savedRules (1 - v1) r_19 hr_19) (cwV 1 hts gX12_findSide_X12_stepOf rfl rfl rfl (by decide +kernel) ⟨Nat.le_of_ble_eq_true rfl, Nat.le_of_ble_eq_true rfl⟩) hE hP hN rfl (by decide) 0 rfl rfl rfl hl.1 (Nat.le_of_ble_eq_true rfl) dX12_findSide_19 ⟨Nat.zero_le _, Nat.zero_le _⟩) hP hN hS rfl (fun H locs hP hS => ?_)
  obtain ⟨hi, hf⟩ := ck_some hf
  refine x_iald hx hb hE hP 3 rfl hi dX12_findSide_22 ?_
  obtain ⟨v3_23, e_v3_23, hf⟩ := lt_some hf
  refine x_istore_n (v := v3_23) (lv' := [(3, .int v3_23), (2, .int v2_10), (0, .ref h), (1, .int v1)]) hx hb dX12_findSide_23 e_v3_23 rfl hl (by decide) rfl (fun ls hl => ?_)
  refine lv_aload_n hx hb dX12_findSide_24 rfl (lv_at hl 2 rfl) ?_
  refine x_get hx hb hts u_X12_findSide_X12 hown hE hP 0 rfl rfl 13 (by decide) (hts (.fieldLink RX12 41 "DecreasingDiagramsModel" "lengthsTo" "[[I") (List.mem_of_getElem? (i := 2) rfl)) rfl dX12_findSide_25 ?_
  refine lv_iload_n hx hb dX12_findSide_28 rfl (lv_at hl 3 rfl) ?_
  obtain ⟨hq_29, hf⟩ := ck_some hf
  refine x_aald hx hb hE hP 4 4 rfl rfl hq_29 dX12_findSide_29 ?_
  refine lv_astore (lv' := [(4, .ref (r_lengthsTo v1.toNatClampNeg)), (3, .int v3_23), (2, .int v2_10), (0, .ref h), (1, .int v1)]) hx hb dX12_findSide_30 hl (by decide) rfl (fun ls hl => ?_)
  refine lv_iconst (v := 0) hx hb dX12_findSide_32 (by decide) ?_
  obtain ⟨v5_33, e_v5_33, hf⟩ := lt_some hf
  refine x_istore (v := v5_33) (lv' := [(5, .int v5_33), (4, .ref (r_lengthsTo v1.toNatClampNeg)), (3, .int v3_23), (2, .int v2_10), (0, .ref h), (1, .int v1)]) hx hb dX12_findSide_33 e_v5_33 hl (by decide) rfl (fun ls hl => ?_)
  exact L35 v2_10 v3_23 v1 hq_29 fu v5_33 lengthsTo H locs ls hP hS (lv_sub hl [4, 5, 3, 2, 1, 0] rfl) hf
