def f_X12_isBetween (v0 : Int32) (v1 : Int32) (v2 : Int32) : Option (Int32) :=
  if v0 < v1 then (some 0) else (if v2 < v0 then (some 0) else (some 1))
set_option maxHeartbeats 4000000 in
set_option maxRecDepth 100000 in
theorem k_X12_isBetween (l : Launch) (D : va_G) (G : Nat → ClassId) (fu : Nat)    (v0 : Int32) (v1 : Int32) (v2 : Int32) (out : Int32) (hf : f_X12_isBetween v0 v1 v2 = some out) : xMet l yX12_isBetween wsX12_isBetween (rM 0 0) D G [.int v0, .int v1, .int v2] [] (xQi D [] out) := by
  refine x_ent (cc := cX12_isBetween) (maxL := 3) (by decide) rfl (Nat.le_of_ble_eq_true rfl) ?_
  intro p e s m blw meth c aa ls args Q H locs hQ hx hb hr hml hown hts hlocks hE hN hl hP hS
  have hown : s.vm.findClass RX12 = some m.cls := hown
  have hl : lv_has ls 3 [(0, .int v0), (1, .int v1), (2, .int v2)] := hl
  refine lv_iload_n hx hb dX12_isBetween_0 rfl (lv_at hl 0 rfl) ?_
  refine lv_iload_n hx hb dX12_isBetween_1 rfl (lv_at hl 1 rfl) ?_
  refine lv_icmp_lt (tgt := 14) hx hb dX12_isBetween_2 (by decide) (fun c_2 => ?_) (fun c_2 => ?_)
  · have hf := it_pos c_2 hf
    refine lv_iconst (v := 0) hx hb dX12_isBetween_14 (by decide) ?_
    have hf := Option.some.inj hf
    rewrite [← hQ, ← hf]
    exact x_zret (r := 0) hx hb hr hlocks rfl hP hS dX12_isBetween_15
  · have hf := it_neg c_2 hf
    refine lv_iload_n hx hb dX12_isBetween_5 rfl (lv_at hl 0 rfl) ?_
    refine lv_iload_n hx hb dX12_isBetween_6 rfl (lv_at hl 2 rfl) ?_
    refine lv_icmp_gt (tgt := 14) hx hb dX12_isBetween_7 (by decide) (fun c_7 => ?_) (fun c_7 => ?_)
    · have hf := it_pos c_7 hf
      refine lv_iconst (v := 0) hx hb dX12_isBetween_14 (by decide) ?_
      have hf := Option.some.inj hf
      rewrite [← hQ, ← hf]
      exact x_zret (r := 0) hx hb hr hlocks rfl hP hS dX12_isBetween_15
    · have hf := it_neg c_7 hf
      refine lv_iconst (v := 1) hx hb dX12_isBetween_10 (by decide) ?_
      refine lv_goto (tgt := 15) hx hb dX12_isBetween_11 (by decide) ?_
      have hf := Option.some.inj hf
      rewrite [← hQ, ← hf]
      exact x_zret (r := 1) hx hb hr hlocks rfl hP hS dX12_isBetween_15

def f_X12_isLabel (v0 : Int32) : Option (Int32) :=
  (f_X12_isBetween v0 0 7).bind (fun r_4 => ckb r_4 (some r_4))
set_option maxHeartbeats 4000000 in
set_option maxRecDepth 100000 in
theorem k_X12_isLabel (l : Launch) (D : va_G) (G : Nat → ClassId) (fu : Nat)    (v0 : Int32) (out : Int32) (hf : f_X12_isLabel v0 = some out) : xMet l yX12_isLabel wsX12_isLabel (rM 1 22) D G [.int v0] [] (xQi D [] out) := by
  refine x_ent (cc := cX12_isLabel) (maxL := 1) (by decide) rfl (Nat.le_of_ble_eq_true rfl) ?_
  intro p e s m blw meth c aa ls args Q H locs hQ hx hb hr hml hown hts hlocks hE hN hl hP hS
  have hown : s.vm.findClass RX12 = some m.cls := hown
  have hl : lv_has ls 1 [(0, .int v0)] := hl
  refine lv_iload_n hx hb dX12_isLabel_0 rfl (lv_at hl 0 rfl) ?_
  refine lv_iconst (v := 0) hx hb dX12_isLabel_1 (by decide) ?_
  refine lv_bipush (v := 7) hx hb dX12_isLabel_2 (by decide) ?_
  obtain ⟨r_4, hr_4, hf⟩ := bd_some hf
  refine x_goi0 (ps := []) (x_runS (As := [.int v0, .int 0, .int 7]) (rest := []) (ps := []) ⟨hx, hb, hml, hown, hts⟩ (k_X12_isBetween l D G fu v0 0 7 r_4 hr_4) (va_cwS 3 hts gX12_isLabel_X12_isBetween rfl rfl rfl (by decide +kernel) ⟨Nat.le_of_ble_eq_true rfl, Nat.le_of_ble_eq_true rfl⟩) hE hP hN rfl (by decide) rfl hl.1 (Nat.le_of_ble_eq_true rfl) dX12_isLabel_4 ⟨Nat.zero_le _, Nat.zero_le _⟩) hP hN hS rfl (fun H locs hP hS => ?_)
  obtain ⟨hz, hf⟩ := ckb_some hf
  have hf := Option.some.inj hf
  rewrite [← hQ, ← hf]
  exact x_zret (r := r_4) hx hb hr hlocks hz hP hS dX12_isLabel_7

set_option maxRecDepth 20000 in
theorem u_X12_closeOrder_X12 : ∀ w ∈ wsX120, w ∈ wsX12_closeOrder := xx_pl _ [3, 4, 5, 6, 7, 8, 9, 10, 11, 12, 13, 14, 15, 16, 17, 18, 19, 20, 21, 22, 23, 24, 25, 26, 27, 28, 29, 30, 31, 32, 33, 34, 35, 36, 37, 38, 39, 40, 41, 42, 43, 44, 45, 46, 47, 48, 49, 50, 51, 52, 53, 54] (by decide +kernel)
def f_X12_closeOrder_J118 (rec_46 : (Int32 → (Nat → Nat → Int32) → Option ((Nat → Nat → Int32)))) (v1 : Int32) (above : (Nat → Nat → Int32)) : Option ((Nat → Nat → Int32)) :=
  lt (v1 + 1) (fun v1_118 => rec_46 v1_118 above)
def f_X12_closeOrder_J112 (rec_54 : (Int32 → (Nat → Nat → Int32) → Option ((Nat → Nat → Int32)))) (v2 : Int32) (above : (Nat → Nat → Int32)) : Option ((Nat → Nat → Int32)) :=
  lt (v2 + 1) (fun v2_112 => rec_54 v2_112 above)
def f_X12_closeOrder_J104 (t0_row : Int32) (rec_62 : (Int32 → (Nat → Nat → Int32) → Option ((Nat → Nat → Int32)))) (t1 : Int32) (t2 : Int32) (t3 : Int32) (v3 : Int32) (above : (Nat → Nat → Int32)) : Option ((Nat → Nat → Int32)) :=
  ck t1 8 (lt (up2 above t0_row.toNatClampNeg t1.toNatClampNeg (vp_nar .boolean (t2 ||| t3))) (fun above_105 => lt (v3 + 1) (fun v3_106 => rec_62 v3_106 above_105)))
def f_X12_closeOrder_J103 (t0_row : Int32) (rec_62 : (Int32 → (Nat → Nat → Int32) → Option ((Nat → Nat → Int32)))) (t1 : Int32) (t2 : Int32) (v3 : Int32) (above : (Nat → Nat → Int32)) : Option ((Nat → Nat → Int32)) :=
  f_X12_closeOrder_J104 t0_row rec_62 t1 t2 0 v3 above
def f_X12_closeOrder_L62 (v1 : Int32) (v2 : Int32) (rec_54 : (Int32 → (Nat → Nat → Int32) → Option ((Nat → Nat → Int32)))) (rec_62 : Int32 → (Nat → Nat → Int32) → Option ((Nat → Nat → Int32))) (v3 : Int32) (above : (Nat → Nat → Int32)) : Option ((Nat → Nat → Int32)) :=
  if 8 ≤ v3 then (f_X12_closeOrder_J112 rec_54 v2 above) else (ck v2 8 (ck v3 8 (ck v2 8 (ck v1 8 (if (above v2.toNatClampNeg v1.toNatClampNeg) = 0 then (f_X12_closeOrder_J103 v2 rec_62 v3 (above v2.toNatClampNeg v3.toNatClampNeg) v3 above) else (ck v1 8 (ck v3 8 (if (above v1.toNatClampNeg v3.toNatClampNeg) = 0 then (f_X12_closeOrder_J103 v2 rec_62 v3 (above v2.toNatClampNeg v3.toNatClampNeg) v3 above) else (f_X12_closeOrder_J104 v2 rec_62 v3 (above v2.toNatClampNeg v3.toNatClampNeg) 1 v3 above)))))))))
def f_X12_closeOrder_L54 (fu : Nat) (v1 : Int32) (rec_46 : (Int32 → (Nat → Nat → Int32) → Option ((Nat → Nat → Int32)))) (rec_54 : Int32 → (Nat → Nat → Int32) → Option ((Nat → Nat → Int32))) (v2 : Int32) (above : (Nat → Nat → Int32)) : Option ((Nat → Nat → Int32)) :=
  if 8 ≤ v2 then (f_X12_closeOrder_J118 rec_46 v1 above) else (lt (0 : Int32) (fun v3_61 => lp (τ := Int32 → (Nat → Nat → Int32) → Option ((Nat → Nat → Int32))) (fun _ _ => none) (f_X12_closeOrder_L62 v1 v2 rec_54) fu v3_61 above))
def f_X12_closeOrder_L46 (fu : Nat) (rec_46 : Int32 → (Nat → Nat → Int32) → Option ((Nat → Nat → Int32))) (v1 : Int32) (above : (Nat → Nat → Int32)) : Option ((Nat → Nat → Int32)) :=
  if 8 ≤ v1 then (some above) else (lt (0 : Int32) (fun v2_53 => lp (τ := Int32 → (Nat → Nat → Int32) → Option ((Nat → Nat → Int32))) (fun _ _ => none) (f_X12_closeOrder_L54 fu v1 rec_46) fu v2_53 above))
def f_X12_closeOrder_J44 (fu : Nat) (above : (Nat → Nat → Int32)) : Option ((Nat → Nat → Int32)) :=
  lt (0 : Int32) (fun v1_45 => lp (τ := Int32 → (Nat → Nat → Int32) → Option ((Nat → Nat → Int32))) (fun _ _ => none) (f_X12_closeOrder_L46 fu) fu v1_45 above)
def f_X12_closeOrder_J38 (rec_2 : (Int32 → (Nat → Nat → Int32) → Option ((Nat → Nat → Int32)))) (v1 : Int32) (above : (Nat → Nat → Int32)) : Option ((Nat → Nat → Int32)) :=
  lt (v1 + 1) (fun v1_38 => rec_2 v1_38 above)
def f_X12_closeOrder_L10 (pairs : (Nat → Nat → Int32)) (v1 : Int32) (rec_2 : (Int32 → (Nat → Nat → Int32) → Option ((Nat → Nat → Int32)))) (rec_10 : Int32 → (Nat → Nat → Int32) → Option ((Nat → Nat → Int32))) (v2 : Int32) (above : (Nat → Nat → Int32)) : Option ((Nat → Nat → Int32)) :=
  if 8 ≤ v2 then (f_X12_closeOrder_J38 rec_2 v1 above) else (ck v1 8 (ck v1 8 (ck v2 8 (ck v2 8 (lt (up2 above v1.toNatClampNeg v2.toNatClampNeg (vp_nar .boolean (pairs v1.toNatClampNeg v2.toNatClampNeg))) (fun above_31 => lt (v2 + 1) (fun v2_32 => rec_10 v2_32 above_31)))))))
def f_X12_closeOrder_L2 (fu : Nat) (pairs : (Nat → Nat → Int32)) (rec_2 : Int32 → (Nat → Nat → Int32) → Option ((Nat → Nat → Int32))) (v1 : Int32) (above : (Nat → Nat → Int32)) : Option ((Nat → Nat → Int32)) :=
  if 8 ≤ v1 then (f_X12_closeOrder_J44 fu above) else (lt (0 : Int32) (fun v2_9 => lp (τ := Int32 → (Nat → Nat → Int32) → Option ((Nat → Nat → Int32))) (fun _ _ => none) (f_X12_closeOrder_L10 pairs v1 rec_2) fu v2_9 above))
def f_X12_closeOrder (fu : Nat) (above : (Nat → Nat → Int32)) (pairs : (Nat → Nat → Int32)) : Option ((Nat → Nat → Int32)) :=
  lt (0 : Int32) (fun v1_1 => lp (τ := Int32 → (Nat → Nat → Int32) → Option ((Nat → Nat → Int32))) (fun _ _ => none) (f_X12_closeOrder_L2 fu pairs) fu v1_1 above)
set_option maxHeartbeats 4000000 in
set_option maxRecDepth 100000 in
theorem k_X12_closeOrder (l : Launch) (D : va_G) (G : Nat → ClassId) (fu : Nat) (h : Nat) (a_pairs : Nat) (a_above : Nat) (a_sources : Nat) (a_targets : Nat) (a_labels : Nat) (a_lengths : Nat) (a_letters : Nat) (a_distances : Nat) (a_longest : Nat) (a_lengthsTo : Nat) (a_lengthsFrom : Nat) (a_path : Nat) (a_output : Nat) (a_found : Nat) (a_keptLabels : Nat) (a_keptPairs : Nat) (a_input : Nat) (a_sides : Nat) (a_sideLengths : Nat) (a_newLengths : Nat) (a_newLetters : Nat) (a_newSources : Nat) (a_newTargets : Nat) (a_newLabels : Nat) (a_word : Nat) (a_failed : Nat) (a_sizes : Nat) (a_arrays : Nat) (a_savedLengths : Nat) (a_savedSources : Nat) (a_savedTargets : Nat) (a_savedLabels : Nat) (a_savedSideLengths : Nat) (a_savedLetters : Nat) (a_savedSides : Nat) (a_savedPairs : Nat) (r_above : Nat → Nat) (r_pairs : Nat → Nat) (objects : Int32) (steps : Int32) (firstStep : Int32) (secondStep : Int32) (pathLength : Int32) (outputLength : Int32) (foundSteps : Int32) (inputLength : Int32) (rules : Int32) (newObjects : Int32) (newSteps : Int32) (wordSize : Int32) (hasSnapshot : Int32) (savedObjects : Int32) (savedSteps : Int32) (savedRules : Int32) (above : (Nat → Nat → Int32)) (pairs : (Nat → Nat → Int32))   (out : (Nat → Nat → Int32)) (hf : f_X12_closeOrder fu above pairs = some out) : xMet l yX12_closeOrder wsX12_closeOrder (rM 0 0) D G [.ref h] [[(h, .inr (11, [.ref a_pairs, .ref a_above, .int objects, .int steps, .ref a_sources, .ref a_targets, .ref a_labels, .ref a_lengths, .ref a_letters, .ref a_distances, .ref a_longest, .int firstStep, .int secondStep, .ref a_lengthsTo, .ref a_lengthsFrom, .ref a_path, .int pathLength, .ref a_output, .int outputLength, .ref a_found, .int foundSteps, .ref a_keptLabels, .ref a_keptPairs, .ref a_input, .int inputLength, .int rules, .ref a_sides, .ref a_sideLengths, .int newObjects, .int newSteps, .ref a_newLengths, .ref a_newLetters, .ref a_newSources, .ref a_newTargets, .ref a_newLabels, .ref a_word, .int wordSize, .ref a_failed, .ref a_sizes, .ref a_arrays, .int hasSnapshot, .int savedObjects, .int savedSteps, .int savedRules, .ref a_savedLengths, .ref a_savedSources, .ref a_savedTargets, .ref a_savedLabels, .ref a_savedSideLengths, .ref a_savedLetters, .ref a_savedSides, .ref a_savedPairs]))], [gO (G 6) a_above r_above 8], gI (G 2) r_above 8 8 above, [gO (G 6) a_pairs r_pairs 8], gI (G 2) r_pairs 8 8 pairs] (xQv D [[(h, .inr (11, [.ref a_pairs, .ref a_above, .int objects, .int steps, .ref a_sources, .ref a_targets, .ref a_labels, .ref a_lengths, .ref a_letters, .ref a_distances, .ref a_longest, .int firstStep, .int secondStep, .ref a_lengthsTo, .ref a_lengthsFrom, .ref a_path, .int pathLength, .ref a_output, .int outputLength, .ref a_found, .int foundSteps, .ref a_keptLabels, .ref a_keptPairs, .ref a_input, .int inputLength, .int rules, .ref a_sides, .ref a_sideLengths, .int newObjects, .int newSteps, .ref a_newLengths, .ref a_newLetters, .ref a_newSources, .ref a_newTargets, .ref a_newLabels, .ref a_word, .int wordSize, .ref a_failed, .ref a_sizes, .ref a_arrays, .int hasSnapshot, .int savedObjects, .int savedSteps, .int savedRules, .ref a_savedLengths, .ref a_savedSources, .ref a_savedTargets, .ref a_savedLabels, .ref a_savedSideLengths, .ref a_savedLetters, .ref a_savedSides, .ref a_savedPairs]))], [gO (G 6) a_above r_above 8], gI (G 2) r_above 8 8 out, [gO (G 6) a_pairs r_pairs 8], gI (G 2) r_pairs 8 8 pairs]) := by
  refine x_ent (cc := cX12_closeOrder) (maxL := 4) (by decide) rfl (Nat.le_of_ble_eq_true rfl) ?_
  intro p e s m blw meth c aa ls args Q H locs hQ hx hb hr hml hown hts hlocks hE hN hl hP hS
  have hown : s.vm.findClass RX12 = some m.cls := hown
  have hl : lv_has ls 4 [(0, .ref h)] := hl
  have L46 : ∀ (n_46 : Nat) (v1 : Int32) (above : (Nat → Nat → Int32)) (H : Heap) (locs : List Loc) (ls : Array Slot), xW D aa [[(h, .inr (11, [.ref a_pairs, .ref a_above, .int objects, .int steps, .ref a_sources, .ref a_targets, .ref a_labels, .ref a_lengths, .ref a_letters, .ref a_distances, .ref a_longest, .int firstStep, .int secondStep, .ref a_lengthsTo, .ref a_lengthsFrom, .ref a_path, .int pathLength, .ref a_output, .int outputLength, .ref a_found, .int foundSteps, .ref a_keptLabels, .ref a_keptPairs, .ref a_input, .int inputLength, .int rules, .ref a_sides, .ref a_sideLengths, .int newObjects, .int newSteps, .ref a_newLengths, .ref a_newLetters, .ref a_newSources, .ref a_newTargets, .ref a_newLabels, .ref a_word, .int wordSize, .ref a_failed, .ref a_sizes, .ref a_arrays, .int hasSnapshot, .int savedObjects, .int savedSteps, .int savedRules, .ref a_savedLengths, .ref a_savedSources, .ref a_savedTargets, .ref a_savedLabels, .ref a_savedSideLengths, .ref a_savedLetters, .ref a_savedSides, .ref a_savedPairs]))], [gO (G 6) a_above r_above 8], gI (G 2) r_above 8 8 above, [gO (G 6) a_pairs r_pairs 8], gI (G 2) r_pairs 8 8 pairs] H → va_S (xA aa) s.heap H locs → lv_has ls 4 [(0, .ref h), (1, .int v1)] → lp (τ := Int32 → (Nat → Nat → Int32) → Option ((Nat → Nat → Int32))) (fun _ _ => none) (f_X12_closeOrder_L46 fu) n_46 v1 above = some out → W p l e (rM 0 0) s m args blw meth c H locs 0 0 Q (F0 m 46 ls []) := by
    intro    n_46
    induction n_46 with
    | zero =>
      intro v1 above H locs ls hP hS hl hf
      exact no_some hf
    | succ n_46 ih_46 =>
      intro v1 above H locs ls hP hS hl hf
      have hf : f_X12_closeOrder_L46 fu (lp (τ := Int32 → (Nat → Nat → Int32) → Option ((Nat → Nat → Int32))) (fun _ _ => none) (f_X12_closeOrder_L46 fu) n_46) v1 above = some out := hf
      have J118 : ∀ (v1 : Int32) (above : (Nat → Nat → Int32)) (H : Heap) (locs : List Loc) (ls : Array Slot), xW D aa [[(h, .inr (11, [.ref a_pairs, .ref a_above, .int objects, .int steps, .ref a_sources, .ref a_targets, .ref a_labels, .ref a_lengths, .ref a_letters, .ref a_distances, .ref a_longest, .int firstStep, .int secondStep, .ref a_lengthsTo, .ref a_lengthsFrom, .ref a_path, .int pathLength, .ref a_output, .int outputLength, .ref a_found, .int foundSteps, .ref a_keptLabels, .ref a_keptPairs, .ref a_input, .int inputLength, .int rules, .ref a_sides, .ref a_sideLengths, .int newObjects, .int newSteps, .ref a_newLengths, .ref a_newLetters, .ref a_newSources, .ref a_newTargets, .ref a_newLabels, .ref a_word, .int wordSize, .ref a_failed, .ref a_sizes, .ref a_arrays, .int hasSnapshot, .int savedObjects, .int savedSteps, .int savedRules, .ref a_savedLengths, .ref a_savedSources, .ref a_savedTargets, .ref a_savedLabels, .ref a_savedSideLengths, .ref a_savedLetters, .ref a_savedSides, .ref a_savedPairs]))], [gO (G 6) a_above r_above 8], gI (G 2) r_above 8 8 above, [gO (G 6) a_pairs r_pairs 8], gI (G 2) r_pairs 8 8 pairs] H → va_S (xA aa) s.heap H locs → lv_has ls 4 [(0, .ref h), (1, .int v1)] → f_X12_closeOrder_J118 (lp (τ := Int32 → (Nat → Nat → Int32) → Option ((Nat → Nat → Int32))) (fun _ _ => none) (f_X12_closeOrder_L46 fu) n_46) v1 above = some out → W p l e (rM 0 0) s m args blw meth c H locs 0 0 Q (F0 m 118 ls []) := by
        intro v1 above  H locs ls  hP hS hl hf
        obtain ⟨v1_118, e_v1_118, hf⟩ := lt_some hf
        refine lv_iinc (v := v1_118) (lv' := [(1, .int v1_118), (0, .ref h)]) hx hb dX12_closeOrder_118 hl (k := 1) rfl (by rw [e_v1_118]; rfl) (by decide) rfl (fun ls hl => ?_)
        refine lv_goto (tgt := 46) hx hb dX12_closeOrder_121 (by decide) ?_
        exact ih_46 v1_118 above H locs ls hP hS (lv_sub hl [1, 0] rfl) hf
      have L54 : ∀ (v1 : Int32), ∀ (n_54 : Nat) (v2 : Int32) (above : (Nat → Nat → Int32)) (H : Heap) (locs : List Loc) (ls : Array Slot), xW D aa [[(h, .inr (11, [.ref a_pairs, .ref a_above, .int objects, .int steps, .ref a_sources, .ref a_targets, .ref a_labels, .ref a_lengths, .ref a_letters, .ref a_distances, .ref a_longest, .int firstStep, .int secondStep, .ref a_lengthsTo, .ref a_lengthsFrom, .ref a_path, .int pathLength, .ref a_output, .int outputLength, .ref a_found, .int foundSteps, .ref a_keptLabels, .ref a_keptPairs, .ref a_input, .int inputLength, .int rules, .ref a_sides, .ref a_sideLengths, .int newObjects, .int newSteps, .ref a_newLengths, .ref a_newLetters, .ref a_newSources, .ref a_newTargets, .ref a_newLabels, .ref a_word, .int wordSize, .ref a_failed, .ref a_sizes, .ref a_arrays, .int hasSnapshot, .int savedObjects, .int savedSteps, .int savedRules, .ref a_savedLengths, .ref a_savedSources, .ref a_savedTargets, .ref a_savedLabels, .ref a_savedSideLengths, .ref a_savedLetters, .ref a_savedSides, .ref a_savedPairs]))], [gO (G 6) a_above r_above 8], gI (G 2) r_above 8 8 above, [gO (G 6) a_pairs r_pairs 8], gI (G 2) r_pairs 8 8 pairs] H → va_S (xA aa) s.heap H locs → lv_has ls 4 [(0, .ref h), (1, .int v1), (2, .int v2)] → lp (τ := Int32 → (Nat → Nat → Int32) → Option ((Nat → Nat → Int32))) (fun _ _ => none) (f_X12_closeOrder_L54 fu v1 (lp (τ := Int32 → (Nat → Nat → Int32) → Option ((Nat → Nat → Int32))) (fun _ _ => none) (f_X12_closeOrder_L46 fu) n_46)) n_54 v2 above = some out → W p l e (rM 0 0) s m args blw meth c H locs 0 0 Q (F0 m 54 ls []) := by
        intro v1   n_54
        induction n_54 with
        | zero =>
          intro v2 above H locs ls hP hS hl hf
          exact no_some hf
        | succ n_54 ih_54 =>
          intro v2 above H locs ls hP hS hl hf
          have hf : f_X12_closeOrder_L54 fu v1 (lp (τ := Int32 → (Nat → Nat → Int32) → Option ((Nat → Nat → Int32))) (fun _ _ => none) (f_X12_closeOrder_L46 fu) n_46) (lp (τ := Int32 → (Nat → Nat → Int32) → Option ((Nat → Nat → Int32))) (fun _ _ => none) (f_X12_closeOrder_L54 fu v1 (lp (τ := Int32 → (Nat → Nat → Int32) → Option ((Nat → Nat → Int32))) (fun _ _ => none) (f_X12_closeOrder_L46 fu) n_46)) n_54) v2 above = some out := hf
          have J112 : ∀ (v2 : Int32) (above : (Nat → Nat → Int32)) (H : Heap) (locs : List Loc) (ls : Array Slot), xW D aa [[(h, .inr (11, [.ref a_pairs, .ref a_above, .int objects, .int steps, .ref a_sources, .ref a_targets, .ref a_labels, .ref a_lengths, .ref a_letters, .ref a_distances, .ref a_longest, .int firstStep, .int secondStep, .ref a_lengthsTo, .ref a_lengthsFrom, .ref a_path, .int pathLength, .ref a_output, .int outputLength, .ref a_found, .int foundSteps, .ref a_keptLabels, .ref a_keptPairs, .ref a_input, .int inputLength, .int rules, .ref a_sides, .ref a_sideLengths, .int newObjects, .int newSteps, .ref a_newLengths, .ref a_newLetters, .ref a_newSources, .ref a_newTargets, .ref a_newLabels, .ref a_word, .int wordSize, .ref a_failed, .ref a_sizes, .ref a_arrays, .int hasSnapshot, .int savedObjects, .int savedSteps, .int savedRules, .ref a_savedLengths, .ref a_savedSources, .ref a_savedTargets, .ref a_savedLabels, .ref a_savedSideLengths, .ref a_savedLetters, .ref a_savedSides, .ref a_savedPairs]))], [gO (G 6) a_above r_above 8], gI (G 2) r_above 8 8 above, [gO (G 6) a_pairs r_pairs 8], gI (G 2) r_pairs 8 8 pairs] H → va_S (xA aa) s.heap H locs → lv_has ls 4 [(0, .ref h), (1, .int v1), (2, .int v2)] → f_X12_closeOrder_J112 (lp (τ := Int32 → (Nat → Nat → Int32) → Option ((Nat → Nat → Int32))) (fun _ _ => none) (f_X12_closeOrder_L54 fu v1 (lp (τ := Int32 → (Nat → Nat → Int32) → Option ((Nat → Nat → Int32))) (fun _ _ => none) (f_X12_closeOrder_L46 fu) n_46)) n_54) v2 above = some out → W p l e (rM 0 0) s m args blw meth c H locs 0 0 Q (F0 m 112 ls []) := by
            intro v2 above  H locs ls  hP hS hl hf
            obtain ⟨v2_112, e_v2_112, hf⟩ := lt_some hf
            refine lv_iinc (v := v2_112) (lv' := [(2, .int v2_112), (0, .ref h), (1, .int v1)]) hx hb dX12_closeOrder_112 hl (k := 2) rfl (by rw [e_v2_112]; rfl) (by decide) rfl (fun ls hl => ?_)
            refine lv_goto (tgt := 54) hx hb dX12_closeOrder_115 (by decide) ?_
            exact ih_54 v2_112 above H locs ls hP hS (lv_sub hl [1, 2, 0] rfl) hf
          have L62 : ∀ (v2 : Int32), ∀ (n_62 : Nat) (v3 : Int32) (above : (Nat → Nat → Int32)) (H : Heap) (locs : List Loc) (ls : Array Slot), xW D aa [[(h, .inr (11, [.ref a_pairs, .ref a_above, .int objects, .int steps, .ref a_sources, .ref a_targets, .ref a_labels, .ref a_lengths, .ref a_letters, .ref a_distances, .ref a_longest, .int firstStep, .int secondStep, .ref a_lengthsTo, .ref a_lengthsFrom, .ref a_path, .int pathLength, .ref a_output, .int outputLength, .ref a_found, .int foundSteps, .ref a_keptLabels, .ref a_keptPairs, .ref a_input, .int inputLength, .int rules, .ref a_sides, .ref a_sideLengths, .int newObjects, .int newSteps, .ref a_newLengths, .ref a_newLetters, .ref a_newSources, .ref a_newTargets, .ref a_newLabels, .ref a_word, .int wordSize, .ref a_failed, .ref a_sizes, .ref a_arrays, .int hasSnapshot, .int savedObjects, .int savedSteps, .int savedRules, .ref a_savedLengths, .ref a_savedSources, .ref a_savedTargets, .ref a_savedLabels, .ref a_savedSideLengths, .ref a_savedLetters, .ref a_savedSides, .ref a_savedPairs]))], [gO (G 6) a_above r_above 8], gI (G 2) r_above 8 8 above, [gO (G 6) a_pairs r_pairs 8], gI (G 2) r_pairs 8 8 pairs] H → va_S (xA aa) s.heap H locs → lv_has ls 4 [(0, .ref h), (1, .int v1), (2, .int v2), (3, .int v3)] → lp (τ := Int32 → (Nat → Nat → Int32) → Option ((Nat → Nat → Int32))) (fun _ _ => none) (f_X12_closeOrder_L62 v1 v2 (lp (τ := Int32 → (Nat → Nat → Int32) → Option ((Nat → Nat → Int32))) (fun _ _ => none) (f_X12_closeOrder_L54 fu v1 (lp (τ := Int32 → (Nat → Nat → Int32) → Option ((Nat → Nat → Int32))) (fun _ _ => none) (f_X12_closeOrder_L46 fu) n_46)) n_54)) n_62 v3 above = some out → W p l e (rM 0 0) s m args blw meth c H locs 0 0 Q (F0 m 62 ls []) := by
            intro v2   n_62
            induction n_62 with
            | zero =>
              intro v3 above H locs ls hP hS hl hf
              exact no_some hf
            | succ n_62 ih_62 =>
              intro v3 above H locs ls hP hS hl hf
              have hf : f_X12_closeOrder_L62 v1 v2 (lp (τ := Int32 → (Nat → Nat → Int32) → Option ((Nat → Nat → Int32))) (fun _ _ => none) (f_X12_closeOrder_L54 fu v1 (lp (τ := Int32 → (Nat → Nat → Int32) → Option ((Nat → Nat → Int32))) (fun _ _ => none) (f_X12_closeOrder_L46 fu) n_46)) n_54) (lp (τ := Int32 → (Nat → Nat → Int32) → Option ((Nat → Nat → Int32))) (fun _ _ => none) (f_X12_closeOrder_L62 v1 v2 (lp (τ := Int32 → (Nat → Nat → Int32) → Option ((Nat → Nat → Int32))) (fun _ _ => none) (f_X12_closeOrder_L54 fu v1 (lp (τ := Int32 → (Nat → Nat → Int32) → Option ((Nat → Nat → Int32))) (fun _ _ => none) (f_X12_closeOrder_L46 fu) n_46)) n_54)) n_62) v3 above = some out := hf
              have J104 : ∀ (t1 : Int32) (t2 : Int32) (t3 : Int32) (v3 : Int32) (above : (Nat → Nat → Int32)) (t0_row : Int32) (H : Heap) (locs : List Loc) (ls : Array Slot), vp_in t0_row 8 → xW D aa [[(h, .inr (11, [.ref a_pairs, .ref a_above, .int objects, .int steps, .ref a_sources, .ref a_targets, .ref a_labels, .ref a_lengths, .ref a_letters, .ref a_distances, .ref a_longest, .int firstStep, .int secondStep, .ref a_lengthsTo, .ref a_lengthsFrom, .ref a_path, .int pathLength, .ref a_output, .int outputLength, .ref a_found, .int foundSteps, .ref a_keptLabels, .ref a_keptPairs, .ref a_input, .int inputLength, .int rules, .ref a_sides, .ref a_sideLengths, .int newObjects, .int newSteps, .ref a_newLengths, .ref a_newLetters, .ref a_newSources, .ref a_newTargets, .ref a_newLabels, .ref a_word, .int wordSize, .ref a_failed, .ref a_sizes, .ref a_arrays, .int hasSnapshot, .int savedObjects, .int savedSteps, .int savedRules, .ref a_savedLengths, .ref a_savedSources, .ref a_savedTargets, .ref a_savedLabels, .ref a_savedSideLengths, .ref a_savedLetters, .ref a_savedSides, .ref a_savedPairs]))], [gO (G 6) a_above r_above 8], gI (G 2) r_above 8 8 above, [gO (G 6) a_pairs r_pairs 8], gI (G 2) r_pairs 8 8 pairs] H → va_S (xA aa) s.heap H locs → lv_has ls 4 [(0, .ref h), (1, .int v1), (2, .int v2), (3, .int v3)] → f_X12_closeOrder_J104 t0_row (lp (τ := Int32 → (Nat → Nat → Int32) → Option ((Nat → Nat → Int32))) (fun _ _ => none) (f_X12_closeOrder_L62 v1 v2 (lp (τ := Int32 → (Nat → Nat → Int32) → Option ((Nat → Nat → Int32))) (fun _ _ => none) (f_X12_closeOrder_L54 fu v1 (lp (τ := Int32 → (Nat → Nat → Int32) → Option ((Nat → Nat → Int32))) (fun _ _ => none) (f_X12_closeOrder_L46 fu) n_46)) n_54)) n_62) t1 t2 t3 v3 above = some out → W p l e (rM 0 0) s m args blw meth c H locs 0 0 Q (F0 m 104 ls [.int t3, .int t2, .int t1, .ref (r_above t0_row.toNatClampNeg)]) := by
                intro t1 t2 t3 v3 above t0_row H locs ls ht0_row hP hS hl hf
                refine lv_ior hx hb dX12_closeOrder_104 ?_
                obtain ⟨hi, hf⟩ := ck_some hf
                obtain ⟨above_105, e_above_105, hf⟩ := lt_some hf
                refine x_zast2 (I' := [[(h, .inr (11, [.ref a_pairs, .ref a_above, .int objects, .int steps, .ref a_sources, .ref a_targets, .ref a_labels, .ref a_lengths, .ref a_letters, .ref a_distances, .ref a_longest, .int firstStep, .int secondStep, .ref a_lengthsTo, .ref a_lengthsFrom, .ref a_path, .int pathLength, .ref a_output, .int outputLength, .ref a_found, .int foundSteps, .ref a_keptLabels, .ref a_keptPairs, .ref a_input, .int inputLength, .int rules, .ref a_sides, .ref a_sideLengths, .int newObjects, .int newSteps, .ref a_newLengths, .ref a_newLetters, .ref a_newSources, .ref a_newTargets, .ref a_newLabels, .ref a_word, .int wordSize, .ref a_failed, .ref a_sizes, .ref a_arrays, .int hasSnapshot, .int savedObjects, .int savedSteps, .int savedRules, .ref a_savedLengths, .ref a_savedSources, .ref a_savedTargets, .ref a_savedLabels, .ref a_savedSideLengths, .ref a_savedLetters, .ref a_savedSides, .ref a_savedPairs]))], [gO (G 6) a_above r_above 8], gI (G 2) r_above 8 8 above_105, [gO (G 6) a_pairs r_pairs 8], gI (G 2) r_pairs 8 8 pairs]) hx hb hE hP hN hS 2 rfl ht0_row hi e_above_105 rfl dX12_closeOrder_105 (fun H locs hP hS => ?_)
                obtain ⟨v3_106, e_v3_106, hf⟩ := lt_some hf
                refine lv_iinc (v := v3_106) (lv' := [(3, .int v3_106), (0, .ref h), (1, .int v1), (2, .int v2)]) hx hb dX12_closeOrder_106 hl (k := 3) rfl (by rw [e_v3_106]; rfl) (by decide) rfl (fun ls hl => ?_)
                refine lv_goto (tgt := 62) hx hb dX12_closeOrder_109 (by decide) ?_
                exact ih_62 v3_106 above_105 H locs ls hP hS (lv_sub hl [1, 2, 3, 0] rfl) hf
              have J103 : ∀ (t1 : Int32) (t2 : Int32) (v3 : Int32) (above : (Nat → Nat → Int32)) (t0_row : Int32) (H : Heap) (locs : List Loc) (ls : Array Slot), vp_in t0_row 8 → xW D aa [[(h, .inr (11, [.ref a_pairs, .ref a_above, .int objects, .int steps, .ref a_sources, .ref a_targets, .ref a_labels, .ref a_lengths, .ref a_letters, .ref a_distances, .ref a_longest, .int firstStep, .int secondStep, .ref a_lengthsTo, .ref a_lengthsFrom, .ref a_path, .int pathLength, .ref a_output, .int outputLength, .ref a_found, .int foundSteps, .ref a_keptLabels, .ref a_keptPairs, .ref a_input, .int inputLength, .int rules, .ref a_sides, .ref a_sideLengths, .int newObjects, .int newSteps, .ref a_newLengths, .ref a_newLetters, .ref a_newSources, .ref a_newTargets, .ref a_newLabels, .ref a_word, .int wordSize, .ref a_failed, .ref a_sizes, .ref a_arrays, .int hasSnapshot, .int savedObjects, .int savedSteps, .int savedRules, .ref a_savedLengths, .ref a_savedSources, .ref a_savedTargets, .ref a_savedLabels, .ref a_savedSideLengths, .ref a_savedLetters, .ref a_savedSides, .ref a_savedPairs]))], [gO (G 6) a_above r_above 8], gI (G 2) r_above 8 8 above, [gO (G 6) a_pairs r_pairs 8], gI (G 2) r_pairs 8 8 pairs] H → va_S (xA aa) s.heap H locs → lv_has ls 4 [(0, .ref h), (1, .int v1), (2, .int v2), (3, .int v3)] → f_X12_closeOrder_J103 t0_row (lp (τ := Int32 → (Nat → Nat → Int32) → Option ((Nat → Nat → Int32))) (fun _ _ => none) (f_X12_closeOrder_L62 v1 v2 (lp (τ := Int32 → (Nat → Nat → Int32) → Option ((Nat → Nat → Int32))) (fun _ _ => none) (f_X12_closeOrder_L54 fu v1 (lp (τ := Int32 → (Nat → Nat → Int32) → Option ((Nat → Nat → Int32))) (fun _ _ => none) (f_X12_closeOrder_L46 fu) n_46)) n_54)) n_62) t1 t2 v3 above = some out → W p l e (rM 0 0) s m args blw meth c H locs 0 0 Q (F0 m 103 ls [.int t2, .int t1, .ref (r_above t0_row.toNatClampNeg)]) := by
                intro t1 t2 v3 above t0_row H locs ls ht0_row hP hS hl hf
                refine lv_iconst (v := 0) hx hb dX12_closeOrder_103 (by decide) ?_
                exact J104 t1 t2 0 v3 above t0_row H locs ls ht0_row hP hS (lv_sub hl [0, 1, 2, 3] rfl) hf
              refine lv_iload_n hx hb dX12_closeOrder_62 rfl (lv_at hl 3 rfl) ?_
              refine lv_bipush (v := 8) hx hb dX12_closeOrder_63 (by decide) ?_
              refine lv_icmp_ge (tgt := 112) hx hb dX12_closeOrder_65 (by decide) (fun c_65 => ?_) (fun c_65 => ?_)
              · have hf := it_pos c_65 hf
                exact J112 v2 above  H locs ls  hP hS (lv_sub hl [0, 1, 2] rfl) hf
              · have hf := it_neg c_65 hf
                refine lv_aload_n hx hb dX12_closeOrder_68 rfl (lv_at hl 0 rfl) ?_
                refine x_get hx hb hts u_X12_closeOrder_X12 hown hE hP 0 rfl rfl 1 (by decide) (hts (.fieldLink RX12 14 "DecreasingDiagramsModel" "above" "[[Z") (List.mem_of_getElem? (i := 1) rfl)) rfl dX12_closeOrder_69 ?_
                refine lv_iload_n hx hb dX12_closeOrder_72 rfl (lv_at hl 2 rfl) ?_
                obtain ⟨hq_73, hf⟩ := ck_some hf
                refine x_aald hx hb hE hP 1 6 rfl rfl hq_73 dX12_closeOrder_73 ?_
                refine lv_iload_n hx hb dX12_closeOrder_74 rfl (lv_at hl 3 rfl) ?_
                refine lv_dup2_11 hx hb dX12_closeOrder_75 rfl rfl ?_
                obtain ⟨hi, hf⟩ := ck_some hf
                refine x_zald2 hx hb hE hP 2 rfl hq_73 hi dX12_closeOrder_76 ?_
                refine lv_aload_n hx hb dX12_closeOrder_77 rfl (lv_at hl 0 rfl) ?_
                refine x_get hx hb hts u_X12_closeOrder_X12 hown hE hP 0 rfl rfl 1 (by decide) (hts (.fieldLink RX12 14 "DecreasingDiagramsModel" "above" "[[Z") (List.mem_of_getElem? (i := 1) rfl)) rfl dX12_closeOrder_78 ?_
                refine lv_iload_n hx hb dX12_closeOrder_81 rfl (lv_at hl 2 rfl) ?_
                obtain ⟨hq_82, hf⟩ := ck_some hf
                refine x_aald hx hb hE hP 1 6 rfl rfl hq_82 dX12_closeOrder_82 ?_
                refine lv_iload_n hx hb dX12_closeOrder_83 rfl (lv_at hl 1 rfl) ?_
                obtain ⟨hi, hf⟩ := ck_some hf
                refine x_zald2 hx hb hE hP 2 rfl hq_82 hi dX12_closeOrder_84 ?_
                refine lv_if_eq (tgt := 103) hx hb dX12_closeOrder_85 (by decide) (fun c_85 => ?_) (fun c_85 => ?_)
                · have hf := it_pos c_85 hf
                  exact J103 v3 (above v2.toNatClampNeg v3.toNatClampNeg) v3 above v2 H locs ls hq_73 hP hS (lv_sub hl [0, 1, 2, 3] rfl) hf
                · have hf := it_neg c_85 hf
                  refine lv_aload_n hx hb dX12_closeOrder_88 rfl (lv_at hl 0 rfl) ?_
                  refine x_get hx hb hts u_X12_closeOrder_X12 hown hE hP 0 rfl rfl 1 (by decide) (hts (.fieldLink RX12 14 "DecreasingDiagramsModel" "above" "[[Z") (List.mem_of_getElem? (i := 1) rfl)) rfl dX12_closeOrder_89 ?_
                  refine lv_iload_n hx hb dX12_closeOrder_92 rfl (lv_at hl 1 rfl) ?_
                  obtain ⟨hq_93, hf⟩ := ck_some hf
                  refine x_aald hx hb hE hP 1 6 rfl rfl hq_93 dX12_closeOrder_93 ?_
                  refine lv_iload_n hx hb dX12_closeOrder_94 rfl (lv_at hl 3 rfl) ?_
                  obtain ⟨hi, hf⟩ := ck_some hf
                  refine x_zald2 hx hb hE hP 2 rfl hq_93 hi dX12_closeOrder_95 ?_
                  refine lv_if_eq (tgt := 103) hx hb dX12_closeOrder_96 (by decide) (fun c_96 => ?_) (fun c_96 => ?_)
                  · have hf := it_pos c_96 hf
                    exact J103 v3 (above v2.toNatClampNeg v3.toNatClampNeg) v3 above v2 H locs ls hq_73 hP hS (lv_sub hl [0, 1, 2, 3] rfl) hf
                  · have hf := it_neg c_96 hf
                    refine lv_iconst (v := 1) hx hb dX12_closeOrder_99 (by decide) ?_
                    refine lv_goto (tgt := 104) hx hb dX12_closeOrder_100 (by decide) ?_
                    exact J104 v3 (above v2.toNatClampNeg v3.toNatClampNeg) 1 v3 above v2 H locs ls hq_73 hP hS (lv_sub hl [0, 1, 2, 3] rfl) hf
          refine lv_iload_n hx hb dX12_closeOrder_54 rfl (lv_at hl 2 rfl) ?_
          refine lv_bipush (v := 8) hx hb dX12_closeOrder_55 (by decide) ?_
          refine lv_icmp_ge (tgt := 118) hx hb dX12_closeOrder_57 (by decide) (fun c_57 => ?_) (fun c_57 => ?_)
          · have hf := it_pos c_57 hf
            exact J118 v1 above  H locs ls  hP hS (lv_sub hl [0, 1] rfl) hf
          · have hf := it_neg c_57 hf
            refine lv_iconst (v := 0) hx hb dX12_closeOrder_60 (by decide) ?_
            obtain ⟨v3_61, e_v3_61, hf⟩ := lt_some hf
            refine x_istore_n (v := v3_61) (lv' := [(3, .int v3_61), (0, .ref h), (1, .int v1), (2, .int v2)]) hx hb dX12_closeOrder_61 e_v3_61 rfl hl (by decide) rfl (fun ls hl => ?_)
            exact L62 v2   fu v3_61 above H locs ls hP hS (lv_sub hl [1, 2, 3, 0] rfl) hf
      refine lv_iload_n hx hb dX12_closeOrder_46 rfl (lv_at hl 1 rfl) ?_
      refine lv_bipush (v := 8) hx hb dX12_closeOrder_47 (by decide) ?_
      refine lv_icmp_ge (tgt := 124) hx hb dX12_closeOrder_49 (by decide) (fun c_49 => ?_) (fun c_49 => ?_)
      · have hf := it_pos c_49 hf
        have hf := Option.some.inj hf
        rewrite [← hQ, ← hf]
        exact x_vret hx hb hr hlocks hP hS dX12_closeOrder_124
      · have hf := it_neg c_49 hf
        refine lv_iconst (v := 0) hx hb dX12_closeOrder_52 (by decide) ?_
        obtain ⟨v2_53, e_v2_53, hf⟩ := lt_some hf
        refine x_istore_n (v := v2_53) (lv' := [(2, .int v2_53), (0, .ref h), (1, .int v1)]) hx hb dX12_closeOrder_53 e_v2_53 rfl hl (by decide) rfl (fun ls hl => ?_)
        exact L54 v1   fu v2_53 above H locs ls hP hS (lv_sub hl [1, 2, 0] rfl) hf
  have J44 : ∀ (above : (Nat → Nat → Int32)) (H : Heap) (locs : List Loc) (ls : Array Slot), xW D aa [[(h, .inr (11, [.ref a_pairs, .ref a_above, .int objects, .int steps, .ref a_sources, .ref a_targets, .ref a_labels, .ref a_lengths, .ref a_letters, .ref a_distances, .ref a_longest, .int firstStep, .int secondStep, .ref a_lengthsTo, .ref a_lengthsFrom, .ref a_path, .int pathLength, .ref a_output, .int outputLength, .ref a_found, .int foundSteps, .ref a_keptLabels, .ref a_keptPairs, .ref a_input, .int inputLength, .int rules, .ref a_sides, .ref a_sideLengths, .int newObjects, .int newSteps, .ref a_newLengths, .ref a_newLetters, .ref a_newSources, .ref a_newTargets, .ref a_newLabels, .ref a_word, .int wordSize, .ref a_failed, .ref a_sizes, .ref a_arrays, .int hasSnapshot, .int savedObjects, .int savedSteps, .int savedRules, .ref a_savedLengths, .ref a_savedSources, .ref a_savedTargets, .ref a_savedLabels, .ref a_savedSideLengths, .ref a_savedLetters, .ref a_savedSides, .ref a_savedPairs]))], [gO (G 6) a_above r_above 8], gI (G 2) r_above 8 8 above, [gO (G 6) a_pairs r_pairs 8], gI (G 2) r_pairs 8 8 pairs] H → va_S (xA aa) s.heap H locs → lv_has ls 4 [(0, .ref h)] → f_X12_closeOrder_J44 fu above = some out → W p l e (rM 0 0) s m args blw meth c H locs 0 0 Q (F0 m 44 ls []) := by
    intro above  H locs ls  hP hS hl hf
    refine lv_iconst (v := 0) hx hb dX12_closeOrder_44 (by decide) ?_
    obtain ⟨v1_45, e_v1_45, hf⟩ := lt_some hf
    refine x_istore_n (v := v1_45) (lv' := [(1, .int v1_45), (0, .ref h)]) hx hb dX12_closeOrder_45 e_v1_45 rfl hl (by decide) rfl (fun ls hl => ?_)
    exact L46    fu v1_45 above H locs ls hP hS (lv_sub hl [1, 0] rfl) hf
  have L2 : ∀ (n_2 : Nat) (v1 : Int32) (above : (Nat → Nat → Int32)) (H : Heap) (locs : List Loc) (ls : Array Slot), xW D aa [[(h, .inr (11, [.ref a_pairs, .ref a_above, .int objects, .int steps, .ref a_sources, .ref a_targets, .ref a_labels, .ref a_lengths, .ref a_letters, .ref a_distances, .ref a_longest, .int firstStep, .int secondStep, .ref a_lengthsTo, .ref a_lengthsFrom, .ref a_path, .int pathLength, .ref a_output, .int outputLength, .ref a_found, .int foundSteps, .ref a_keptLabels, .ref a_keptPairs, .ref a_input, .int inputLength, .int rules, .ref a_sides, .ref a_sideLengths, .int newObjects, .int newSteps, .ref a_newLengths, .ref a_newLetters, .ref a_newSources, .ref a_newTargets, .ref a_newLabels, .ref a_word, .int wordSize, .ref a_failed, .ref a_sizes, .ref a_arrays, .int hasSnapshot, .int savedObjects, .int savedSteps, .int savedRules, .ref a_savedLengths, .ref a_savedSources, .ref a_savedTargets, .ref a_savedLabels, .ref a_savedSideLengths, .ref a_savedLetters, .ref a_savedSides, .ref a_savedPairs]))], [gO (G 6) a_above r_above 8], gI (G 2) r_above 8 8 above, [gO (G 6) a_pairs r_pairs 8], gI (G 2) r_pairs 8 8 pairs] H → va_S (xA aa) s.heap H locs → lv_has ls 4 [(0, .ref h), (1, .int v1)] → lp (τ := Int32 → (Nat → Nat → Int32) → Option ((Nat → Nat → Int32))) (fun _ _ => none) (f_X12_closeOrder_L2 fu pairs) n_2 v1 above = some out → W p l e (rM 0 0) s m args blw meth c H locs 0 0 Q (F0 m 2 ls []) := by
    intro    n_2
    induction n_2 with
    | zero =>
      intro v1 above H locs ls hP hS hl hf
      exact no_some hf
    | succ n_2 ih_2 =>
      intro v1 above H locs ls hP hS hl hf
      have hf : f_X12_closeOrder_L2 fu pairs (lp (τ := Int32 → (Nat → Nat → Int32) → Option ((Nat → Nat → Int32))) (fun _ _ => none) (f_X12_closeOrder_L2 fu pairs) n_2) v1 above = some out := hf
      have J38 : ∀ (v1 : Int32) (above : (Nat → Nat → Int32)) (H : Heap) (locs : List Loc) (ls : Array Slot), xW D aa [[(h, .inr (11, [.ref a_pairs, .ref a_above, .int objects, .int steps, .ref a_sources, .ref a_targets, .ref a_labels, .ref a_lengths, .ref a_letters, .ref a_distances, .ref a_longest, .int firstStep, .int secondStep, .ref a_lengthsTo, .ref a_lengthsFrom, .ref a_path, .int pathLength, .ref a_output, .int outputLength, .ref a_found, .int foundSteps, .ref a_keptLabels, .ref a_keptPairs, .ref a_input, .int inputLength, .int rules, .ref a_sides, .ref a_sideLengths, .int newObjects, .int newSteps, .ref a_newLengths, .ref a_newLetters, .ref a_newSources, .ref a_newTargets, .ref a_newLabels, .ref a_word, .int wordSize, .ref a_failed, .ref a_sizes, .ref a_arrays, .int hasSnapshot, .int savedObjects, .int savedSteps, .int savedRules, .ref a_savedLengths, .ref a_savedSources, .ref a_savedTargets, .ref a_savedLabels, .ref a_savedSideLengths, .ref a_savedLetters, .ref a_savedSides, .ref a_savedPairs]))], [gO (G 6) a_above r_above 8], gI (G 2) r_above 8 8 above, [gO (G 6) a_pairs r_pairs 8], gI (G 2) r_pairs 8 8 pairs] H → va_S (xA aa) s.heap H locs → lv_has ls 4 [(0, .ref h), (1, .int v1)] → f_X12_closeOrder_J38 (lp (τ := Int32 → (Nat → Nat → Int32) → Option ((Nat → Nat → Int32))) (fun _ _ => none) (f_X12_closeOrder_L2 fu pairs) n_2) v1 above = some out → W p l e (rM 0 0) s m args blw meth c H locs 0 0 Q (F0 m 38 ls []) := by
        intro v1 above  H locs ls  hP hS hl hf
        obtain ⟨v1_38, e_v1_38, hf⟩ := lt_some hf
        refine lv_iinc (v := v1_38) (lv' := [(1, .int v1_38), (0, .ref h)]) hx hb dX12_closeOrder_38 hl (k := 1) rfl (by rw [e_v1_38]; rfl) (by decide) rfl (fun ls hl => ?_)
        refine lv_goto (tgt := 2) hx hb dX12_closeOrder_41 (by decide) ?_
        exact ih_2 v1_38 above H locs ls hP hS (lv_sub hl [1, 0] rfl) hf
      have L10 : ∀ (v1 : Int32), ∀ (n_10 : Nat) (v2 : Int32) (above : (Nat → Nat → Int32)) (H : Heap) (locs : List Loc) (ls : Array Slot), xW D aa [[(h, .inr (11, [.ref a_pairs, .ref a_above, .int objects, .int steps, .ref a_sources, .ref a_targets, .ref a_labels, .ref a_lengths, .ref a_letters, .ref a_distances, .ref a_longest, .int firstStep, .int secondStep, .ref a_lengthsTo, .ref a_lengthsFrom, .ref a_path, .int pathLength, .ref a_output, .int outputLength, .ref a_found, .int foundSteps, .ref a_keptLabels, .ref a_keptPairs, .ref a_input, .int inputLength, .int rules, .ref a_sides, .ref a_sideLengths, .int newObjects, .int newSteps, .ref a_newLengths, .ref a_newLetters, .ref a_newSources, .ref a_newTargets, .ref a_newLabels, .ref a_word, .int wordSize, .ref a_failed, .ref a_sizes, .ref a_arrays, .int hasSnapshot, .int savedObjects, .int savedSteps, .int savedRules, .ref a_savedLengths, .ref a_savedSources, .ref a_savedTargets, .ref a_savedLabels, .ref a_savedSideLengths, .ref a_savedLetters, .ref a_savedSides, .ref a_savedPairs]))], [gO (G 6) a_above r_above 8], gI (G 2) r_above 8 8 above, [gO (G 6) a_pairs r_pairs 8], gI (G 2) r_pairs 8 8 pairs] H → va_S (xA aa) s.heap H locs → lv_has ls 4 [(0, .ref h), (1, .int v1), (2, .int v2)] → lp (τ := Int32 → (Nat → Nat → Int32) → Option ((Nat → Nat → Int32))) (fun _ _ => none) (f_X12_closeOrder_L10 pairs v1 (lp (τ := Int32 → (Nat → Nat → Int32) → Option ((Nat → Nat → Int32))) (fun _ _ => none) (f_X12_closeOrder_L2 fu pairs) n_2)) n_10 v2 above = some out → W p l e (rM 0 0) s m args blw meth c H locs 0 0 Q (F0 m 10 ls []) := by
        intro v1   n_10
        induction n_10 with
        | zero =>
          intro v2 above H locs ls hP hS hl hf
          exact no_some hf
        | succ n_10 ih_10 =>
          intro v2 above H locs ls hP hS hl hf
          have hf : f_X12_closeOrder_L10 pairs v1 (lp (τ := Int32 → (Nat → Nat → Int32) → Option ((Nat → Nat → Int32))) (fun _ _ => none) (f_X12_closeOrder_L2 fu pairs) n_2) (lp (τ := Int32 → (Nat → Nat → Int32) → Option ((Nat → Nat → Int32))) (fun _ _ => none) (f_X12_closeOrder_L10 pairs v1 (lp (τ := Int32 → (Nat → Nat → Int32) → Option ((Nat → Nat → Int32))) (fun _ _ => none) (f_X12_closeOrder_L2 fu pairs) n_2)) n_10) v2 above = some out := hf
          refine lv_iload_n hx hb dX12_closeOrder_10 rfl (lv_at hl 2 rfl) ?_
          refine lv_bipush (v := 8) hx hb dX12_closeOrder_11 (by decide) ?_
          refine lv_icmp_ge (tgt := 38) hx hb dX12_closeOrder_13 (by decide) (fun c_13 => ?_) (fun c_13 => ?_)
          · have hf := it_pos c_13 hf
            exact J38 v1 above  H locs ls  hP hS (lv_sub hl [0, 1] rfl) hf
          · have hf := it_neg c_13 hf
            refine lv_aload_n hx hb dX12_closeOrder_16 rfl (lv_at hl 0 rfl) ?_
            refine x_get hx hb hts u_X12_closeOrder_X12 hown hE hP 0 rfl rfl 1 (by decide) (hts (.fieldLink RX12 14 "DecreasingDiagramsModel" "above" "[[Z") (List.mem_of_getElem? (i := 1) rfl)) rfl dX12_closeOrder_17 ?_
            refine lv_iload_n hx hb dX12_closeOrder_20 rfl (lv_at hl 1 rfl) ?_
            obtain ⟨hq_21, hf⟩ := ck_some hf
            refine x_aald hx hb hE hP 1 6 rfl rfl hq_21 dX12_closeOrder_21 ?_
            refine lv_iload_n hx hb dX12_closeOrder_22 rfl (lv_at hl 2 rfl) ?_
            refine lv_aload_n hx hb dX12_closeOrder_23 rfl (lv_at hl 0 rfl) ?_
            refine x_get hx hb hts u_X12_closeOrder_X12 hown hE hP 0 rfl rfl 0 (by decide) (hts (.fieldLink RX12 11 "DecreasingDiagramsModel" "pairs" "[[Z") (List.mem_of_getElem? (i := 2) rfl)) rfl dX12_closeOrder_24 ?_
            refine lv_iload_n hx hb dX12_closeOrder_27 rfl (lv_at hl 1 rfl) ?_
            obtain ⟨hq_28, hf⟩ := ck_some hf
            refine x_aald hx hb hE hP 3 6 rfl rfl hq_28 dX12_closeOrder_28 ?_
            refine lv_iload_n hx hb dX12_closeOrder_29 rfl (lv_at hl 2 rfl) ?_
            obtain ⟨hi, hf⟩ := ck_some hf
            refine x_zald2 hx hb hE hP 4 rfl hq_28 hi dX12_closeOrder_30 ?_
            obtain ⟨hi, hf⟩ := ck_some hf
            obtain ⟨above_31, e_above_31, hf⟩ := lt_some hf
            refine x_zast2 (I' := [[(h, .inr (11, [.ref a_pairs, .ref a_above, .int objects, .int steps, .ref a_sources, .ref a_targets, .ref a_labels, .ref a_lengths, .ref a_letters, .ref a_distances, .ref a_longest, .int firstStep, .int secondStep, .ref a_lengthsTo, .ref a_lengthsFrom, .ref a_path, .int pathLength, .ref a_output, .int outputLength, .ref a_found, .int foundSteps, .ref a_keptLabels, .ref a_keptPairs, .ref a_input, .int inputLength, .int rules, .ref a_sides, .ref a_sideLengths, .int newObjects, .int newSteps, .ref a_newLengths, .ref a_newLetters, .ref a_newSources, .ref a_newTargets, .ref a_newLabels, .ref a_word, .int wordSize, .ref a_failed, .ref a_sizes, .ref a_arrays, .int hasSnapshot, .int savedObjects, .int savedSteps, .int savedRules, .ref a_savedLengths, .ref a_savedSources, .ref a_savedTargets, .ref a_savedLabels, .ref a_savedSideLengths, .ref a_savedLetters, .ref a_savedSides, .ref a_savedPairs]))], [gO (G 6) a_above r_above 8], gI (G 2) r_above 8 8 above_31, [gO (G 6) a_pairs r_pairs 8], gI (G 2) r_pairs 8 8 pairs]) hx hb hE hP hN hS 2 rfl hq_21 hi e_above_31 rfl dX12_closeOrder_31 (fun H locs hP hS => ?_)
            obtain ⟨v2_32, e_v2_32, hf⟩ := lt_some hf
            refine lv_iinc (v := v2_32) (lv' := [(2, .int v2_32), (0, .ref h), (1, .int v1)]) hx hb dX12_closeOrder_32 hl (k := 2) rfl (by rw [e_v2_32]; rfl) (by decide) rfl (fun ls hl => ?_)
            refine lv_goto (tgt := 10) hx hb dX12_closeOrder_35 (by decide) ?_
            exact ih_10 v2_32 above_31 H locs ls hP hS (lv_sub hl [1, 2, 0] rfl) hf
      refine lv_iload_n hx hb dX12_closeOrder_2 rfl (lv_at hl 1 rfl) ?_
      refine lv_bipush (v := 8) hx hb dX12_closeOrder_3 (by decide) ?_
      refine lv_icmp_ge (tgt := 44) hx hb dX12_closeOrder_5 (by decide) (fun c_5 => ?_) (fun c_5 => ?_)
      · have hf := it_pos c_5 hf
        exact J44 above  H locs ls  hP hS (lv_sub hl [0] rfl) hf
      · have hf := it_neg c_5 hf
        refine lv_iconst (v := 0) hx hb dX12_closeOrder_8 (by decide) ?_
        obtain ⟨v2_9, e_v2_9, hf⟩ := lt_some hf
        refine x_istore_n (v := v2_9) (lv' := [(2, .int v2_9), (0, .ref h), (1, .int v1)]) hx hb dX12_closeOrder_9 e_v2_9 rfl hl (by decide) rfl (fun ls hl => ?_)
        exact L10 v1   fu v2_9 above H locs ls hP hS (lv_sub hl [1, 2, 0] rfl) hf
  refine lv_iconst (v := 0) hx hb dX12_closeOrder_0 (by decide) ?_
  obtain ⟨v1_1, e_v1_1, hf⟩ := lt_some hf
  refine x_istore_n (v := v1_1) (lv' := [(1, .int v1_1), (0, .ref h)]) hx hb dX12_closeOrder_1 e_v1_1 rfl hl (by decide) rfl (fun ls hl => ?_)
  exact L2    fu v1_1 above H locs ls hP hS (lv_sub hl [1, 0] rfl) hf

set_option maxRecDepth 20000 in
theorem u_X12_addGreater_X12 : ∀ w ∈ wsX120, w ∈ wsX12_addGreater := xx_pl _ [14, 15, 16, 17, 18, 19, 20, 21, 22, 23, 24, 25, 26, 27, 28, 29, 30, 31, 32, 33, 34, 35, 36, 37, 38, 39, 40, 41, 42, 43, 44, 45, 46, 47, 48, 49, 50, 51, 52, 53, 54, 55, 56, 57, 58, 59, 60, 61, 62, 63, 64, 65] (by decide +kernel)
def f_X12_addGreater (fu : Nat) (above : (Nat → Nat → Int32)) (pairs : (Nat → Nat → Int32)) (v1 : Int32) (v2 : Int32) : Option (Int32 × (Nat → Nat → Int32) × (Nat → Nat → Int32)) :=
  (f_X12_isLabel v1).bind (fun r_1 => if r_1 = 0 then (some ((-1), above, pairs)) else ((f_X12_isLabel v2).bind (fun r_8 => if ¬ r_8 = 0 then (ck v1 8 (ck v2 8 (if (pairs v1.toNatClampNeg v2.toNatClampNeg) = 0 then (if v1 = v2 then (some ((-4), above, pairs)) else (ck v2 8 (ck v1 8 (if (above v2.toNatClampNeg v1.toNatClampNeg) = 0 then (ck v1 8 (ck v2 8 (lt (up2 pairs v1.toNatClampNeg v2.toNatClampNeg (vp_nar .boolean 1)) (fun pairs_56 => (f_X12_closeOrder fu above pairs_56).bind (fun r_58 => some (1, r_58, pairs_56)))))) else (some ((-4), above, pairs)))))) else (some (0, above, pairs))))) else (some ((-1), above, pairs)))))
set_option maxHeartbeats 4000000 in
set_option maxRecDepth 100000 in
theorem k_X12_addGreater (l : Launch) (D : va_G) (G : Nat → ClassId) (fu : Nat) (h : Nat) (a_pairs : Nat) (a_above : Nat) (a_sources : Nat) (a_targets : Nat) (a_labels : Nat) (a_lengths : Nat) (a_letters : Nat) (a_distances : Nat) (a_longest : Nat) (a_lengthsTo : Nat) (a_lengthsFrom : Nat) (a_path : Nat) (a_output : Nat) (a_found : Nat) (a_keptLabels : Nat) (a_keptPairs : Nat) (a_input : Nat) (a_sides : Nat) (a_sideLengths : Nat) (a_newLengths : Nat) (a_newLetters : Nat) (a_newSources : Nat) (a_newTargets : Nat) (a_newLabels : Nat) (a_word : Nat) (a_failed : Nat) (a_sizes : Nat) (a_arrays : Nat) (a_savedLengths : Nat) (a_savedSources : Nat) (a_savedTargets : Nat) (a_savedLabels : Nat) (a_savedSideLengths : Nat) (a_savedLetters : Nat) (a_savedSides : Nat) (a_savedPairs : Nat) (r_above : Nat → Nat) (r_pairs : Nat → Nat) (objects : Int32) (steps : Int32) (firstStep : Int32) (secondStep : Int32) (pathLength : Int32) (outputLength : Int32) (foundSteps : Int32) (inputLength : Int32) (rules : Int32) (newObjects : Int32) (newSteps : Int32) (wordSize : Int32) (hasSnapshot : Int32) (savedObjects : Int32) (savedSteps : Int32) (savedRules : Int32) (above : (Nat → Nat → Int32)) (pairs : (Nat → Nat → Int32))  (v1 : Int32) (v2 : Int32) (out : Int32 × (Nat → Nat → Int32) × (Nat → Nat → Int32)) (hf : f_X12_addGreater fu above pairs v1 v2 = some out) : xMet l yX12_addGreater wsX12_addGreater (rM 2 42) D G [.ref h, .int v1, .int v2] [[(h, .inr (11, [.ref a_pairs, .ref a_above, .int objects, .int steps, .ref a_sources, .ref a_targets, .ref a_labels, .ref a_lengths, .ref a_letters, .ref a_distances, .ref a_longest, .int firstStep, .int secondStep, .ref a_lengthsTo, .ref a_lengthsFrom, .ref a_path, .int pathLength, .ref a_output, .int outputLength, .ref a_found, .int foundSteps, .ref a_keptLabels, .ref a_keptPairs, .ref a_input, .int inputLength, .int rules, .ref a_sides, .ref a_sideLengths, .int newObjects, .int newSteps, .ref a_newLengths, .ref a_newLetters, .ref a_newSources, .ref a_newTargets, .ref a_newLabels, .ref a_word, .int wordSize, .ref a_failed, .ref a_sizes, .ref a_arrays, .int hasSnapshot, .int savedObjects, .int savedSteps, .int savedRules, .ref a_savedLengths, .ref a_savedSources, .ref a_savedTargets, .ref a_savedLabels, .ref a_savedSideLengths, .ref a_savedLetters, .ref a_savedSides, .ref a_savedPairs]))], [gO (G 6) a_above r_above 8], gI (G 2) r_above 8 8 above, [gO (G 6) a_pairs r_pairs 8], gI (G 2) r_pairs 8 8 pairs] (xQi D [[(h, .inr (11, [.ref a_pairs, .ref a_above, .int objects, .int steps, .ref a_sources, .ref a_targets, .ref a_labels, .ref a_lengths, .ref a_letters, .ref a_distances, .ref a_longest, .int firstStep, .int secondStep, .ref a_lengthsTo, .ref a_lengthsFrom, .ref a_path, .int pathLength, .ref a_output, .int outputLength, .ref a_found, .int foundSteps, .ref a_keptLabels, .ref a_keptPairs, .ref a_input, .int inputLength, .int rules, .ref a_sides, .ref a_sideLengths, .int newObjects, .int newSteps, .ref a_newLengths, .ref a_newLetters, .ref a_newSources, .ref a_newTargets, .ref a_newLabels, .ref a_word, .int wordSize, .ref a_failed, .ref a_sizes, .ref a_arrays, .int hasSnapshot, .int savedObjects, .int savedSteps, .int savedRules, .ref a_savedLengths, .ref a_savedSources, .ref a_savedTargets, .ref a_savedLabels, .ref a_savedSideLengths, .ref a_savedLetters, .ref a_savedSides, .ref a_savedPairs]))], [gO (G 6) a_above r_above 8], gI (G 2) r_above 8 8 out.2.1, [gO (G 6) a_pairs r_pairs 8], gI (G 2) r_pairs 8 8 out.2.2] out.1) := by
  refine x_ent (cc := cX12_addGreater) (maxL := 3) (by decide) rfl (Nat.le_of_ble_eq_true rfl) ?_
  intro p e s m blw meth c aa ls args Q H locs hQ hx hb hr hml hown hts hlocks hE hN hl hP hS
  have hown : s.vm.findClass RX12 = some m.cls := hown
  have hl : lv_has ls 3 [(0, .ref h), (1, .int v1), (2, .int v2)] := hl
  refine lv_iload_n hx hb dX12_addGreater_0 rfl (lv_at hl 1 rfl) ?_
  obtain ⟨r_1, hr_1, hf⟩ := bd_some hf
  refine x_goi0 (ps := []) (x_runS (As := [.int v1]) (rest := []) (ps := []) ⟨hx, hb, hml, hown, hts⟩ (k_X12_isLabel l D G fu v1 r_1 hr_1) (va_cwS 1 hts gX12_addGreater_X12_isLabel rfl rfl rfl (by decide +kernel) ⟨Nat.le_of_ble_eq_true rfl, Nat.le_of_ble_eq_true rfl⟩) hE hP hN rfl (by decide) rfl hl.1 (Nat.le_of_ble_eq_true rfl) dX12_addGreater_1 ⟨Nat.zero_le _, Nat.zero_le _⟩) hP hN hS rfl (fun H locs hP hS => ?_)
  refine lv_if_eq (tgt := 14) hx hb dX12_addGreater_4 (by decide) (fun c_4 => ?_) (fun c_4 => ?_)
  · have hf := it_pos c_4 hf
    refine lv_iconst (v := -1) hx hb dX12_addGreater_14 (by decide) ?_
    have hf := Option.some.inj hf
    rewrite [← hQ, ← hf]
    exact x_iret hx hb hr hlocks hP hS dX12_addGreater_15
  · have hf := it_neg c_4 hf
    refine lv_iload_n hx hb dX12_addGreater_7 rfl (lv_at hl 2 rfl) ?_
    obtain ⟨r_8, hr_8, hf⟩ := bd_some hf
    refine x_goi0 (ps := []) (x_runS (As := [.int v2]) (rest := []) (ps := []) ⟨hx, hb, hml, hown, hts⟩ (k_X12_isLabel l D G fu v2 r_8 hr_8) (va_cwS 1 hts gX12_addGreater_X12_isLabel rfl rfl rfl (by decide +kernel) ⟨Nat.le_of_ble_eq_true rfl, Nat.le_of_ble_eq_true rfl⟩) hE hP hN rfl (by decide) rfl hl.1 (Nat.le_of_ble_eq_true rfl) dX12_addGreater_8 ⟨Nat.zero_le _, Nat.zero_le _⟩) hP hN hS rfl (fun H locs hP hS => ?_)
    refine lv_if_ne (tgt := 16) hx hb dX12_addGreater_11 (by decide) (fun c_11 => ?_) (fun c_11 => ?_)
    · have hf := it_pos c_11 hf
      refine lv_aload_n hx hb dX12_addGreater_16 rfl (lv_at hl 0 rfl) ?_
      refine x_get hx hb hts u_X12_addGreater_X12 hown hE hP 0 rfl rfl 0 (by decide) (hts (.fieldLink RX12 11 "DecreasingDiagramsModel" "pairs" "[[Z") (List.mem_of_getElem? (i := 1) rfl)) rfl dX12_addGreater_17 ?_
      refine lv_iload_n hx hb dX12_addGreater_20 rfl (lv_at hl 1 rfl) ?_
      obtain ⟨hq_21, hf⟩ := ck_some hf
      refine x_aald hx hb hE hP 3 6 rfl rfl hq_21 dX12_addGreater_21 ?_
      refine lv_iload_n hx hb dX12_addGreater_22 rfl (lv_at hl 2 rfl) ?_
      obtain ⟨hi, hf⟩ := ck_some hf
      refine x_zald2 hx hb hE hP 4 rfl hq_21 hi dX12_addGreater_23 ?_
      refine lv_if_eq (tgt := 29) hx hb dX12_addGreater_24 (by decide) (fun c_24 => ?_) (fun c_24 => ?_)
      · have hf := it_pos c_24 hf
        refine lv_iload_n hx hb dX12_addGreater_29 rfl (lv_at hl 1 rfl) ?_
        refine lv_iload_n hx hb dX12_addGreater_30 rfl (lv_at hl 2 rfl) ?_
        refine lv_icmp_eq (tgt := 45) hx hb dX12_addGreater_31 (by decide) (fun c_31 => ?_) (fun c_31 => ?_)
        · have hf := it_pos c_31 hf
          refine lv_bipush (v := -4) hx hb dX12_addGreater_45 (by decide) ?_
          have hf := Option.some.inj hf
          rewrite [← hQ, ← hf]
          exact x_iret hx hb hr hlocks hP hS dX12_addGreater_47
        · have hf := it_neg c_31 hf
          refine lv_aload_n hx hb dX12_addGreater_34 rfl (lv_at hl 0 rfl) ?_
          refine x_get hx hb hts u_X12_addGreater_X12 hown hE hP 0 rfl rfl 1 (by decide) (hts (.fieldLink RX12 14 "DecreasingDiagramsModel" "above" "[[Z") (List.mem_of_getElem? (i := 2) rfl)) rfl dX12_addGreater_35 ?_
          refine lv_iload_n hx hb dX12_addGreater_38 rfl (lv_at hl 2 rfl) ?_
          obtain ⟨hq_39, hf⟩ := ck_some hf
          refine x_aald hx hb hE hP 1 6 rfl rfl hq_39 dX12_addGreater_39 ?_
          refine lv_iload_n hx hb dX12_addGreater_40 rfl (lv_at hl 1 rfl) ?_
          obtain ⟨hi, hf⟩ := ck_some hf
          refine x_zald2 hx hb hE hP 2 rfl hq_39 hi dX12_addGreater_41 ?_
          refine lv_if_eq (tgt := 48) hx hb dX12_addGreater_42 (by decide) (fun c_42 => ?_) (fun c_42 => ?_)
          · have hf := it_pos c_42 hf
            refine lv_aload_n hx hb dX12_addGreater_48 rfl (lv_at hl 0 rfl) ?_
            refine x_get hx hb hts u_X12_addGreater_X12 hown hE hP 0 rfl rfl 0 (by decide) (hts (.fieldLink RX12 11 "DecreasingDiagramsModel" "pairs" "[[Z") (List.mem_of_getElem? (i := 1) rfl)) rfl dX12_addGreater_49 ?_
            refine lv_iload_n hx hb dX12_addGreater_52 rfl (lv_at hl 1 rfl) ?_
            obtain ⟨hq_53, hf⟩ := ck_some hf
            refine x_aald hx hb hE hP 3 6 rfl rfl hq_53 dX12_addGreater_53 ?_
            refine lv_iload_n hx hb dX12_addGreater_54 rfl (lv_at hl 2 rfl) ?_
            refine lv_iconst (v := 1) hx hb dX12_addGreater_55 (by decide) ?_
            obtain ⟨hi, hf⟩ := ck_some hf
            obtain ⟨pairs_56, e_pairs_56, hf⟩ := lt_some hf
            refine x_zast2 (I' := [[(h, .inr (11, [.ref a_pairs, .ref a_above, .int objects, .int steps, .ref a_sources, .ref a_targets, .ref a_labels, .ref a_lengths, .ref a_letters, .ref a_distances, .ref a_longest, .int firstStep, .int secondStep, .ref a_lengthsTo, .ref a_lengthsFrom, .ref a_path, .int pathLength, .ref a_output, .int outputLength, .ref a_found, .int foundSteps, .ref a_keptLabels, .ref a_keptPairs, .ref a_input, .int inputLength, .int rules, .ref a_sides, .ref a_sideLengths, .int newObjects, .int newSteps, .ref a_newLengths, .ref a_newLetters, .ref a_newSources, .ref a_newTargets, .ref a_newLabels, .ref a_word, .int wordSize, .ref a_failed, .ref a_sizes, .ref a_arrays, .int hasSnapshot, .int savedObjects, .int savedSteps, .int savedRules, .ref a_savedLengths, .ref a_savedSources, .ref a_savedTargets, .ref a_savedLabels, .ref a_savedSideLengths, .ref a_savedLetters, .ref a_savedSides, .ref a_savedPairs]))], [gO (G 6) a_above r_above 8], gI (G 2) r_above 8 8 above, [gO (G 6) a_pairs r_pairs 8], gI (G 2) r_pairs 8 8 pairs_56]) hx hb hE hP hN hS 4 rfl hq_53 hi e_pairs_56 rfl dX12_addGreater_56 (fun H locs hP hS => ?_)
            refine lv_aload_n hx hb dX12_addGreater_57 rfl (lv_at hl 0 rfl) ?_
            obtain ⟨r_58, hr_58, hf⟩ := bd_some hf
            refine x_gov (ps := [0, 1, 2, 3, 4]) (qs := []) (n := 5) (I' := [[(h, .inr (11, [.ref a_pairs, .ref a_above, .int objects, .int steps, .ref a_sources, .ref a_targets, .ref a_labels, .ref a_lengths, .ref a_letters, .ref a_distances, .ref a_longest, .int firstStep, .int secondStep, .ref a_lengthsTo, .ref a_lengthsFrom, .ref a_path, .int pathLength, .ref a_output, .int outputLength, .ref a_found, .int foundSteps, .ref a_keptLabels, .ref a_keptPairs, .ref a_input, .int inputLength, .int rules, .ref a_sides, .ref a_sideLengths, .int newObjects, .int newSteps, .ref a_newLengths, .ref a_newLetters, .ref a_newSources, .ref a_newTargets, .ref a_newLabels, .ref a_word, .int wordSize, .ref a_failed, .ref a_sizes, .ref a_arrays, .int hasSnapshot, .int savedObjects, .int savedSteps, .int savedRules, .ref a_savedLengths, .ref a_savedSources, .ref a_savedTargets, .ref a_savedLabels, .ref a_savedSideLengths, .ref a_savedLetters, .ref a_savedSides, .ref a_savedPairs]))], [gO (G 6) a_above r_above 8], gI (G 2) r_above 8 8 r_58, [gO (G 6) a_pairs r_pairs 8], gI (G 2) r_pairs 8 8 pairs_56]) (x_runV (As := []) (rest := []) (ps := [0, 1, 2, 3, 4]) ⟨hx, hb, hml, hown, hts⟩ (k_X12_closeOrder l D G fu h a_pairs a_above a_sources a_targets a_labels a_lengths a_letters a_distances a_longest a_lengthsTo a_lengthsFrom a_path a_output a_found a_keptLabels a_keptPairs a_input a_sides a_sideLengths a_newLengths a_newLetters a_newSources a_newTargets a_newLabels a_word a_failed a_sizes a_arrays a_savedLengths a_savedSources a_savedTargets a_savedLabels a_savedSideLengths a_savedLetters a_savedSides a_savedPairs r_above r_pairs objects steps firstStep secondStep pathLength outputLength foundSteps inputLength rules newObjects newSteps wordSize hasSnapshot savedObjects savedSteps savedRules above pairs_56 r_58 hr_58) (cwV 0 hts gX12_addGreater_X12_closeOrder rfl rfl rfl (by decide +kernel) ⟨Nat.le_of_ble_eq_true rfl, Nat.le_of_ble_eq_true rfl⟩) hE hP hN rfl (by decide) 0 rfl rfl rfl hl.1 (Nat.le_of_ble_eq_true rfl) dX12_addGreater_58 ⟨Nat.zero_le _, Nat.zero_le _⟩) hP hN hS rfl rfl rfl rfl rfl (by decide) (fun H locs hP hS => ?_)
            refine lv_iconst (v := 1) hx hb dX12_addGreater_61 (by decide) ?_
            have hf := Option.some.inj hf
            rewrite [← hQ, ← hf]
            exact x_iret hx hb hr hlocks hP hS dX12_addGreater_62
          · have hf := it_neg c_42 hf
            refine lv_bipush (v := -4) hx hb dX12_addGreater_45 (by decide) ?_
            have hf := Option.some.inj hf
            rewrite [← hQ, ← hf]
            exact x_iret hx hb hr hlocks hP hS dX12_addGreater_47
      · have hf := it_neg c_24 hf
        refine lv_iconst (v := 0) hx hb dX12_addGreater_27 (by decide) ?_
        have hf := Option.some.inj hf
        rewrite [← hQ, ← hf]
        exact x_iret hx hb hr hlocks hP hS dX12_addGreater_28
    · have hf := it_neg (fun h => h c_11) hf
      refine lv_iconst (v := -1) hx hb dX12_addGreater_14 (by decide) ?_
      have hf := Option.some.inj hf
      rewrite [← hQ, ← hf]
      exact x_iret hx hb hr hlocks hP hS dX12_addGreater_15

set_option maxRecDepth 20000 in
theorem u_X12_addObject_X12 : ∀ w ∈ wsX120, w ∈ wsX12_addObject := xx_pl _ [3, 4, 5, 6, 7, 8, 9, 10, 11, 12, 13, 14, 15, 16, 17, 18, 19, 20, 21, 22, 23, 24, 25, 26, 27, 28, 29, 30, 31, 32, 33, 34, 35, 36, 37, 38, 39, 40, 41, 42, 43, 44, 45, 46, 47, 48, 49, 50, 51, 52, 53, 54] (by decide +kernel)
def f_X12_addObject (objects : Int32) (lengths : (Nat → Int32)) : Option (Int32 × (Nat → Int32) × Int32) :=
  if ¬ objects = 16 then (ck objects 16 (lt (upd lengths objects.toNatClampNeg (-1)) (fun lengths_21 => lt (objects + 1) (fun objects_29 => some (objects_29 - 1, lengths_21, objects_29))))) else (some ((-3), lengths, objects))
set_option maxHeartbeats 4000000 in
set_option maxRecDepth 100000 in
theorem k_X12_addObject (l : Launch) (D : va_G) (G : Nat → ClassId) (fu : Nat) (h : Nat) (a_pairs : Nat) (a_above : Nat) (a_sources : Nat) (a_targets : Nat) (a_labels : Nat) (a_lengths : Nat) (a_letters : Nat) (a_distances : Nat) (a_longest : Nat) (a_lengthsTo : Nat) (a_lengthsFrom : Nat) (a_path : Nat) (a_output : Nat) (a_found : Nat) (a_keptLabels : Nat) (a_keptPairs : Nat) (a_input : Nat) (a_sides : Nat) (a_sideLengths : Nat) (a_newLengths : Nat) (a_newLetters : Nat) (a_newSources : Nat) (a_newTargets : Nat) (a_newLabels : Nat) (a_word : Nat) (a_failed : Nat) (a_sizes : Nat) (a_arrays : Nat) (a_savedLengths : Nat) (a_savedSources : Nat) (a_savedTargets : Nat) (a_savedLabels : Nat) (a_savedSideLengths : Nat) (a_savedLetters : Nat) (a_savedSides : Nat) (a_savedPairs : Nat) (objects : Int32) (steps : Int32) (firstStep : Int32) (secondStep : Int32) (pathLength : Int32) (outputLength : Int32) (foundSteps : Int32) (inputLength : Int32) (rules : Int32) (newObjects : Int32) (newSteps : Int32) (wordSize : Int32) (hasSnapshot : Int32) (savedObjects : Int32) (savedSteps : Int32) (savedRules : Int32) (lengths : (Nat → Int32))   (out : Int32 × (Nat → Int32) × Int32) (hf : f_X12_addObject objects lengths = some out) : xMet l yX12_addObject wsX12_addObject (rM 0 0) D G [.ref h] [[(h, .inr (11, [.ref a_pairs, .ref a_above, .int objects, .int steps, .ref a_sources, .ref a_targets, .ref a_labels, .ref a_lengths, .ref a_letters, .ref a_distances, .ref a_longest, .int firstStep, .int secondStep, .ref a_lengthsTo, .ref a_lengthsFrom, .ref a_path, .int pathLength, .ref a_output, .int outputLength, .ref a_found, .int foundSteps, .ref a_keptLabels, .ref a_keptPairs, .ref a_input, .int inputLength, .int rules, .ref a_sides, .ref a_sideLengths, .int newObjects, .int newSteps, .ref a_newLengths, .ref a_newLetters, .ref a_newSources, .ref a_newTargets, .ref a_newLabels, .ref a_word, .int wordSize, .ref a_failed, .ref a_sizes, .ref a_arrays, .int hasSnapshot, .int savedObjects, .int savedSteps, .int savedRules, .ref a_savedLengths, .ref a_savedSources, .ref a_savedTargets, .ref a_savedLabels, .ref a_savedSideLengths, .ref a_savedLetters, .ref a_savedSides, .ref a_savedPairs]))], [(a_lengths, .inl (G 0, 16, .inl lengths))]] (xQi D [[(h, .inr (11, [.ref a_pairs, .ref a_above, .int out.2.2, .int steps, .ref a_sources, .ref a_targets, .ref a_labels, .ref a_lengths, .ref a_letters, .ref a_distances, .ref a_longest, .int firstStep, .int secondStep, .ref a_lengthsTo, .ref a_lengthsFrom, .ref a_path, .int pathLength, .ref a_output, .int outputLength, .ref a_found, .int foundSteps, .ref a_keptLabels, .ref a_keptPairs, .ref a_input, .int inputLength, .int rules, .ref a_sides, .ref a_sideLengths, .int newObjects, .int newSteps, .ref a_newLengths, .ref a_newLetters, .ref a_newSources, .ref a_newTargets, .ref a_newLabels, .ref a_word, .int wordSize, .ref a_failed, .ref a_sizes, .ref a_arrays, .int hasSnapshot, .int savedObjects, .int savedSteps, .int savedRules, .ref a_savedLengths, .ref a_savedSources, .ref a_savedTargets, .ref a_savedLabels, .ref a_savedSideLengths, .ref a_savedLetters, .ref a_savedSides, .ref a_savedPairs]))], [(a_lengths, .inl (G 0, 16, .inl out.2.1))]] out.1) := by
  refine x_ent (cc := cX12_addObject) (maxL := 1) (by decide) rfl (Nat.le_of_ble_eq_true rfl) ?_
  intro p e s m blw meth c aa ls args Q H locs hQ hx hb hr hml hown hts hlocks hE hN hl hP hS
  have hown : s.vm.findClass RX12 = some m.cls := hown
  have hl : lv_has ls 1 [(0, .ref h)] := hl
  refine lv_aload_n hx hb dX12_addObject_0 rfl (lv_at hl 0 rfl) ?_
  refine x_get hx hb hts u_X12_addObject_X12 hown hE hP 0 rfl rfl 2 (by decide) (hts (.fieldLink RX12 132 "DecreasingDiagramsModel" "objects" "I") (List.mem_of_getElem? (i := 1) rfl)) rfl dX12_addObject_1 ?_
  refine lv_bipush (v := 16) hx hb dX12_addObject_4 (by decide) ?_
  refine lv_icmp_ne (tgt := 12) hx hb dX12_addObject_6 (by decide) (fun c_6 => ?_) (fun c_6 => ?_)
  · have hf := it_pos c_6 hf
    refine lv_aload_n hx hb dX12_addObject_12 rfl (lv_at hl 0 rfl) ?_
    refine x_get hx hb hts u_X12_addObject_X12 hown hE hP 0 rfl rfl 7 (by decide) (hts (.fieldLink RX12 27 "DecreasingDiagramsModel" "lengths" "[I") (List.mem_of_getElem? (i := 2) rfl)) rfl dX12_addObject_13 ?_
    refine lv_aload_n hx hb dX12_addObject_16 rfl (lv_at hl 0 rfl) ?_
    refine x_get hx hb hts u_X12_addObject_X12 hown hE hP 0 rfl rfl 2 (by decide) (hts (.fieldLink RX12 132 "DecreasingDiagramsModel" "objects" "I") (List.mem_of_getElem? (i := 1) rfl)) rfl dX12_addObject_17 ?_
    refine lv_iconst (v := -1) hx hb dX12_addObject_20 (by decide) ?_
    obtain ⟨hi, hf⟩ := ck_some hf
    obtain ⟨lengths_21, e_lengths_21, hf⟩ := lt_some hf
    refine x_iast (I' := [[(h, .inr (11, [.ref a_pairs, .ref a_above, .int objects, .int steps, .ref a_sources, .ref a_targets, .ref a_labels, .ref a_lengths, .ref a_letters, .ref a_distances, .ref a_longest, .int firstStep, .int secondStep, .ref a_lengthsTo, .ref a_lengthsFrom, .ref a_path, .int pathLength, .ref a_output, .int outputLength, .ref a_found, .int foundSteps, .ref a_keptLabels, .ref a_keptPairs, .ref a_input, .int inputLength, .int rules, .ref a_sides, .ref a_sideLengths, .int newObjects, .int newSteps, .ref a_newLengths, .ref a_newLetters, .ref a_newSources, .ref a_newTargets, .ref a_newLabels, .ref a_word, .int wordSize, .ref a_failed, .ref a_sizes, .ref a_arrays, .int hasSnapshot, .int savedObjects, .int savedSteps, .int savedRules, .ref a_savedLengths, .ref a_savedSources, .ref a_savedTargets, .ref a_savedLabels, .ref a_savedSideLengths, .ref a_savedLetters, .ref a_savedSides, .ref a_savedPairs]))], [(a_lengths, .inl (G 0, 16, .inl lengths_21))]]) hx hb hE hP hN hS 1 rfl hi e_lengths_21 rfl dX12_addObject_21 (fun H locs hP hS => ?_)
    refine lv_aload_n hx hb dX12_addObject_22 rfl (lv_at hl 0 rfl) ?_
    refine lv_dup hx hb dX12_addObject_23 rfl ?_
    refine x_get hx hb hts u_X12_addObject_X12 hown hE hP 0 rfl rfl 2 (by decide) (hts (.fieldLink RX12 132 "DecreasingDiagramsModel" "objects" "I") (List.mem_of_getElem? (i := 1) rfl)) rfl dX12_addObject_24 ?_
    refine lv_iconst (v := 1) hx hb dX12_addObject_27 (by decide) ?_
    refine lv_iadd hx hb dX12_addObject_28 ?_
    obtain ⟨objects_29, e_objects_29, hf⟩ := lt_some hf
    refine x_put (w := .int objects_29) (ty := .int) (I' := [[(h, .inr (11, [.ref a_pairs, .ref a_above, .int objects_29, .int steps, .ref a_sources, .ref a_targets, .ref a_labels, .ref a_lengths, .ref a_letters, .ref a_distances, .ref a_longest, .int firstStep, .int secondStep, .ref a_lengthsTo, .ref a_lengthsFrom, .ref a_path, .int pathLength, .ref a_output, .int outputLength, .ref a_found, .int foundSteps, .ref a_keptLabels, .ref a_keptPairs, .ref a_input, .int inputLength, .int rules, .ref a_sides, .ref a_sideLengths, .int newObjects, .int newSteps, .ref a_newLengths, .ref a_newLetters, .ref a_newSources, .ref a_newTargets, .ref a_newLabels, .ref a_word, .int wordSize, .ref a_failed, .ref a_sizes, .ref a_arrays, .int hasSnapshot, .int savedObjects, .int savedSteps, .int savedRules, .ref a_savedLengths, .ref a_savedSources, .ref a_savedTargets, .ref a_savedLabels, .ref a_savedSideLengths, .ref a_savedLetters, .ref a_savedSides, .ref a_savedPairs]))], [(a_lengths, .inl (G 0, 16, .inl lengths_21))]]) hx hb hts u_X12_addObject_X12 tyX12 tyX12_ok nmX12 hown hE hP hN hS 0 rfl rfl 2 (by decide) (hts (.fieldLink RX12 132 "DecreasingDiagramsModel" "objects" "I") (List.mem_of_getElem? (i := 1) rfl)) rfl (congrArg Value.int e_objects_29) (by decide +kernel) rfl rfl (Nat.le_of_ble_eq_true rfl) rfl dX12_addObject_29 (fun H locs hP hS => ?_)
    refine lv_aload_n hx hb dX12_addObject_32 rfl (lv_at hl 0 rfl) ?_
    refine x_get hx hb hts u_X12_addObject_X12 hown hE hP 0 rfl rfl 2 (by decide) (hts (.fieldLink RX12 132 "DecreasingDiagramsModel" "objects" "I") (List.mem_of_getElem? (i := 1) rfl)) rfl dX12_addObject_33 ?_
    refine lv_iconst (v := 1) hx hb dX12_addObject_36 (by decide) ?_
    refine lv_isub hx hb dX12_addObject_37 ?_
    have hf := Option.some.inj hf
    rewrite [← hQ, ← hf]
    exact x_iret hx hb hr hlocks hP hS dX12_addObject_38
  · have hf := it_neg (fun h => h c_6) hf
    refine lv_bipush (v := -3) hx hb dX12_addObject_9 (by decide) ?_
    have hf := Option.some.inj hf
    rewrite [← hQ, ← hf]
    exact x_iret hx hb hr hlocks hP hS dX12_addObject_11

set_option maxRecDepth 20000 in
theorem u_X12_isLetterAt_X12 : ∀ w ∈ wsX120, w ∈ wsX12_isLetterAt := xx_pl _ [7, 8, 9, 10, 11, 12, 13, 14, 15, 16, 17, 18, 19, 20, 21, 22, 23, 24, 25, 26, 27, 28, 29, 30, 31, 32, 33, 34, 35, 36, 37, 38, 39, 40, 41, 42, 43, 44, 45, 46, 47, 48, 49, 50, 51, 52, 53, 54, 55, 56, 57, 58] (by decide +kernel)
def f_X12_isLetterAt (inputLength : Int32) (input : (Nat → Int32)) (v1 : Int32) : Option (Int32) :=
  if inputLength ≤ v1 then (some 0) else (ck v1 20 ((f_X12_isBetween (input v1.toNatClampNeg) 97 99).bind (fun r_18 => if r_18 = 0 then (some 0) else (some 1))))
set_option maxHeartbeats 4000000 in
set_option maxRecDepth 100000 in
theorem k_X12_isLetterAt (l : Launch) (D : va_G) (G : Nat → ClassId) (fu : Nat) (h : Nat) (a_pairs : Nat) (a_above : Nat) (a_sources : Nat) (a_targets : Nat) (a_labels : Nat) (a_lengths : Nat) (a_letters : Nat) (a_distances : Nat) (a_longest : Nat) (a_lengthsTo : Nat) (a_lengthsFrom : Nat) (a_path : Nat) (a_output : Nat) (a_found : Nat) (a_keptLabels : Nat) (a_keptPairs : Nat) (a_input : Nat) (a_sides : Nat) (a_sideLengths : Nat) (a_newLengths : Nat) (a_newLetters : Nat) (a_newSources : Nat) (a_newTargets : Nat) (a_newLabels : Nat) (a_word : Nat) (a_failed : Nat) (a_sizes : Nat) (a_arrays : Nat) (a_savedLengths : Nat) (a_savedSources : Nat) (a_savedTargets : Nat) (a_savedLabels : Nat) (a_savedSideLengths : Nat) (a_savedLetters : Nat) (a_savedSides : Nat) (a_savedPairs : Nat) (objects : Int32) (steps : Int32) (firstStep : Int32) (secondStep : Int32) (pathLength : Int32) (outputLength : Int32) (foundSteps : Int32) (inputLength : Int32) (rules : Int32) (newObjects : Int32) (newSteps : Int32) (wordSize : Int32) (hasSnapshot : Int32) (savedObjects : Int32) (savedSteps : Int32) (savedRules : Int32) (input : (Nat → Int32))  (v1 : Int32) (out : Int32) (hf : f_X12_isLetterAt inputLength input v1 = some out) : xMet l yX12_isLetterAt wsX12_isLetterAt (rM 1 22) D G [.ref h, .int v1] [[(h, .inr (11, [.ref a_pairs, .ref a_above, .int objects, .int steps, .ref a_sources, .ref a_targets, .ref a_labels, .ref a_lengths, .ref a_letters, .ref a_distances, .ref a_longest, .int firstStep, .int secondStep, .ref a_lengthsTo, .ref a_lengthsFrom, .ref a_path, .int pathLength, .ref a_output, .int outputLength, .ref a_found, .int foundSteps, .ref a_keptLabels, .ref a_keptPairs, .ref a_input, .int inputLength, .int rules, .ref a_sides, .ref a_sideLengths, .int newObjects, .int newSteps, .ref a_newLengths, .ref a_newLetters, .ref a_newSources, .ref a_newTargets, .ref a_newLabels, .ref a_word, .int wordSize, .ref a_failed, .ref a_sizes, .ref a_arrays, .int hasSnapshot, .int savedObjects, .int savedSteps, .int savedRules, .ref a_savedLengths, .ref a_savedSources, .ref a_savedTargets, .ref a_savedLabels, .ref a_savedSideLengths, .ref a_savedLetters, .ref a_savedSides, .ref a_savedPairs]))], [(a_input, .inl (G 0, 20, .inl input))]] (xQi D [[(h, .inr (11, [.ref a_pairs, .ref a_above, .int objects, .int steps, .ref a_sources, .ref a_targets, .ref a_labels, .ref a_lengths, .ref a_letters, .ref a_distances, .ref a_longest, .int firstStep, .int secondStep, .ref a_lengthsTo, .ref a_lengthsFrom, .ref a_path, .int pathLength, .ref a_output, .int outputLength, .ref a_found, .int foundSteps, .ref a_keptLabels, .ref a_keptPairs, .ref a_input, .int inputLength, .int rules, .ref a_sides, .ref a_sideLengths, .int newObjects, .int newSteps, .ref a_newLengths, .ref a_newLetters, .ref a_newSources, .ref a_newTargets, .ref a_newLabels, .ref a_word, .int wordSize, .ref a_failed, .ref a_sizes, .ref a_arrays, .int hasSnapshot, .int savedObjects, .int savedSteps, .int savedRules, .ref a_savedLengths, .ref a_savedSources, .ref a_savedTargets, .ref a_savedLabels, .ref a_savedSideLengths, .ref a_savedLetters, .ref a_savedSides, .ref a_savedPairs]))], [(a_input, .inl (G 0, 20, .inl input))]] out) := by
  refine x_ent (cc := cX12_isLetterAt) (maxL := 2) (by decide) rfl (Nat.le_of_ble_eq_true rfl) ?_
  intro p e s m blw meth c aa ls args Q H locs hQ hx hb hr hml hown hts hlocks hE hN hl hP hS
  have hown : s.vm.findClass RX12 = some m.cls := hown
  have hl : lv_has ls 2 [(0, .ref h), (1, .int v1)] := hl
  refine lv_iload_n hx hb dX12_isLetterAt_0 rfl (lv_at hl 1 rfl) ?_
  refine lv_aload_n hx hb dX12_isLetterAt_1 rfl (lv_at hl 0 rfl) ?_
  refine x_get hx hb hts u_X12_isLetterAt_X12 hown hE hP 0 rfl rfl 24 (by decide) (hts (.fieldLink RX12 249 "DecreasingDiagramsModel" "inputLength" "I") (List.mem_of_getElem? (i := 1) rfl)) rfl dX12_isLetterAt_2 ?_
  refine lv_icmp_ge (tgt := 28) hx hb dX12_isLetterAt_5 (by decide) (fun c_5 => ?_) (fun c_5 => ?_)
  · have hf := it_pos c_5 hf
    refine lv_iconst (v := 0) hx hb dX12_isLetterAt_28 (by decide) ?_
    have hf := Option.some.inj hf
    rewrite [← hQ, ← hf]
    exact x_zret (r := 0) hx hb hr hlocks rfl hP hS dX12_isLetterAt_29
  · have hf := it_neg c_5 hf
    refine lv_aload_n hx hb dX12_isLetterAt_8 rfl (lv_at hl 0 rfl) ?_
    refine x_get hx hb hts u_X12_isLetterAt_X12 hown hE hP 0 rfl rfl 23 (by decide) (hts (.fieldLink RX12 66 "DecreasingDiagramsModel" "input" "[I") (List.mem_of_getElem? (i := 2) rfl)) rfl dX12_isLetterAt_9 ?_
    refine lv_iload_n hx hb dX12_isLetterAt_12 rfl (lv_at hl 1 rfl) ?_
    obtain ⟨hi, hf⟩ := ck_some hf
    refine x_iald hx hb hE hP 1 rfl hi dX12_isLetterAt_13 ?_
    refine lv_bipush (v := 97) hx hb dX12_isLetterAt_14 (by decide) ?_
    refine lv_bipush (v := 99) hx hb dX12_isLetterAt_16 (by decide) ?_
    obtain ⟨r_18, hr_18, hf⟩ := bd_some hf
    refine x_goi0 (ps := []) (x_runS (As := [.int (input v1.toNatClampNeg), .int 97, .int 99]) (rest := []) (ps := []) ⟨hx, hb, hml, hown, hts⟩ (k_X12_isBetween l D G fu (input v1.toNatClampNeg) 97 99 r_18 hr_18) (va_cwS 3 hts gX12_isLetterAt_X12_isBetween rfl rfl rfl (by decide +kernel) ⟨Nat.le_of_ble_eq_true rfl, Nat.le_of_ble_eq_true rfl⟩) hE hP hN rfl (by decide) rfl hl.1 (Nat.le_of_ble_eq_true rfl) dX12_isLetterAt_18 ⟨Nat.zero_le _, Nat.zero_le _⟩) hP hN hS rfl (fun H locs hP hS => ?_)
    refine lv_if_eq (tgt := 28) hx hb dX12_isLetterAt_21 (by decide) (fun c_21 => ?_) (fun c_21 => ?_)
    · have hf := it_pos c_21 hf
      refine lv_iconst (v := 0) hx hb dX12_isLetterAt_28 (by decide) ?_
      have hf := Option.some.inj hf
      rewrite [← hQ, ← hf]
      exact x_zret (r := 0) hx hb hr hlocks rfl hP hS dX12_isLetterAt_29
    · have hf := it_neg c_21 hf
      refine lv_iconst (v := 1) hx hb dX12_isLetterAt_24 (by decide) ?_
      refine lv_goto (tgt := 29) hx hb dX12_isLetterAt_25 (by decide) ?_
      have hf := Option.some.inj hf
      rewrite [← hQ, ← hf]
      exact x_zret (r := 1) hx hb hr hlocks rfl hP hS dX12_isLetterAt_29

def f_X12_lettersFrom_L2 (inputLength : Int32) (input : (Nat → Int32)) (v1 : Int32) (v2 : Int32) (rec_2 : Int32 → Option (Int32)) (v3 : Int32) : Option (Int32) :=
  if v2 ≤ v3 then (some v3) else ((f_X12_isLetterAt inputLength input (v1 + v3)).bind (fun r_11 => if r_11 = 0 then (some v3) else (lt (v3 + 1) (fun v3_17 => rec_2 v3_17))))
def f_X12_lettersFrom (fu : Nat) (inputLength : Int32) (input : (Nat → Int32)) (v1 : Int32) (v2 : Int32) : Option (Int32) :=
  lt (0 : Int32) (fun v3_1 => lp (τ := Int32 → Option (Int32)) (fun _ => none) (f_X12_lettersFrom_L2 inputLength input v1 v2) fu v3_1)
set_option maxHeartbeats 4000000 in
set_option maxRecDepth 100000 in
theorem k_X12_lettersFrom (l : Launch) (D : va_G) (G : Nat → ClassId) (fu : Nat) (h : Nat) (a_pairs : Nat) (a_above : Nat) (a_sources : Nat) (a_targets : Nat) (a_labels : Nat) (a_lengths : Nat) (a_letters : Nat) (a_distances : Nat) (a_longest : Nat) (a_lengthsTo : Nat) (a_lengthsFrom : Nat) (a_path : Nat) (a_output : Nat) (a_found : Nat) (a_keptLabels : Nat) (a_keptPairs : Nat) (a_input : Nat) (a_sides : Nat) (a_sideLengths : Nat) (a_newLengths : Nat) (a_newLetters : Nat) (a_newSources : Nat) (a_newTargets : Nat) (a_newLabels : Nat) (a_word : Nat) (a_failed : Nat) (a_sizes : Nat) (a_arrays : Nat) (a_savedLengths : Nat) (a_savedSources : Nat) (a_savedTargets : Nat) (a_savedLabels : Nat) (a_savedSideLengths : Nat) (a_savedLetters : Nat) (a_savedSides : Nat) (a_savedPairs : Nat) (objects : Int32) (steps : Int32) (firstStep : Int32) (secondStep : Int32) (pathLength : Int32) (outputLength : Int32) (foundSteps : Int32) (inputLength : Int32) (rules : Int32) (newObjects : Int32) (newSteps : Int32) (wordSize : Int32) (hasSnapshot : Int32) (savedObjects : Int32) (savedSteps : Int32) (savedRules : Int32) (input : (Nat → Int32))  (v1 : Int32) (v2 : Int32) (out : Int32) (hf : f_X12_lettersFrom fu inputLength input v1 v2 = some out) : xMet l yX12_lettersFrom wsX12_lettersFrom (rM 2 43) D G [.ref h, .int v1, .int v2] [[(h, .inr (11, [.ref a_pairs, .ref a_above, .int objects, .int steps, .ref a_sources, .ref a_targets, .ref a_labels, .ref a_lengths, .ref a_letters, .ref a_distances, .ref a_longest, .int firstStep, .int secondStep, .ref a_lengthsTo, .ref a_lengthsFrom, .ref a_path, .int pathLength, .ref a_output, .int outputLength, .ref a_found, .int foundSteps, .ref a_keptLabels, .ref a_keptPairs, .ref a_input, .int inputLength, .int rules, .ref a_sides, .ref a_sideLengths, .int newObjects, .int newSteps, .ref a_newLengths, .ref a_newLetters, .ref a_newSources, .ref a_newTargets, .ref a_newLabels, .ref a_word, .int wordSize, .ref a_failed, .ref a_sizes, .ref a_arrays, .int hasSnapshot, .int savedObjects, .int savedSteps, .int savedRules, .ref a_savedLengths, .ref a_savedSources, .ref a_savedTargets, .ref a_savedLabels, .ref a_savedSideLengths, .ref a_savedLetters, .ref a_savedSides, .ref a_savedPairs]))], [(a_input, .inl (G 0, 20, .inl input))]] (xQi D [[(h, .inr (11, [.ref a_pairs, .ref a_above, .int objects, .int steps, .ref a_sources, .ref a_targets, .ref a_labels, .ref a_lengths, .ref a_letters, .ref a_distances, .ref a_longest, .int firstStep, .int secondStep, .ref a_lengthsTo, .ref a_lengthsFrom, .ref a_path, .int pathLength, .ref a_output, .int outputLength, .ref a_found, .int foundSteps, .ref a_keptLabels, .ref a_keptPairs, .ref a_input, .int inputLength, .int rules, .ref a_sides, .ref a_sideLengths, .int newObjects, .int newSteps, .ref a_newLengths, .ref a_newLetters, .ref a_newSources, .ref a_newTargets, .ref a_newLabels, .ref a_word, .int wordSize, .ref a_failed, .ref a_sizes, .ref a_arrays, .int hasSnapshot, .int savedObjects, .int savedSteps, .int savedRules, .ref a_savedLengths, .ref a_savedSources, .ref a_savedTargets, .ref a_savedLabels, .ref a_savedSideLengths, .ref a_savedLetters, .ref a_savedSides, .ref a_savedPairs]))], [(a_input, .inl (G 0, 20, .inl input))]] out) := by
  refine x_ent (cc := cX12_lettersFrom) (maxL := 4) (by decide) rfl (Nat.le_of_ble_eq_true rfl) ?_
  intro p e s m blw meth c aa ls args Q H locs hQ hx hb hr hml hown hts hlocks hE hN hl hP hS
  have hown : s.vm.findClass RX12 = some m.cls := hown
  have hl : lv_has ls 4 [(0, .ref h), (1, .int v1), (2, .int v2)] := hl
  have L2 : ∀ (n_2 : Nat) (v3 : Int32) (H : Heap) (locs : List Loc) (ls : Array Slot), xW D aa [[(h, .inr (11, [.ref a_pairs, .ref a_above, .int objects, .int steps, .ref a_sources, .ref a_targets, .ref a_labels, .ref a_lengths, .ref a_letters, .ref a_distances, .ref a_longest, .int firstStep, .int secondStep, .ref a_lengthsTo, .ref a_lengthsFrom, .ref a_path, .int pathLength, .ref a_output, .int outputLength, .ref a_found, .int foundSteps, .ref a_keptLabels, .ref a_keptPairs, .ref a_input, .int inputLength, .int rules, .ref a_sides, .ref a_sideLengths, .int newObjects, .int newSteps, .ref a_newLengths, .ref a_newLetters, .ref a_newSources, .ref a_newTargets, .ref a_newLabels, .ref a_word, .int wordSize, .ref a_failed, .ref a_sizes, .ref a_arrays, .int hasSnapshot, .int savedObjects, .int savedSteps, .int savedRules, .ref a_savedLengths, .ref a_savedSources, .ref a_savedTargets, .ref a_savedLabels, .ref a_savedSideLengths, .ref a_savedLetters, .ref a_savedSides, .ref a_savedPairs]))], [(a_input, .inl (G 0, 20, .inl input))]] H → va_S (xA aa) s.heap H locs → lv_has ls 4 [(0, .ref h), (1, .int v1), (2, .int v2), (3, .int v3)] → lp (τ := Int32 → Option (Int32)) (fun _ => none) (f_X12_lettersFrom_L2 inputLength input v1 v2) n_2 v3 = some out → W p l e (rM 2 43) s m args blw meth c H locs 0 0 Q (F0 m 2 ls []) := by
    intro    n_2
    induction n_2 with
    | zero =>
      intro v3 H locs ls hP hS hl hf
      exact no_some hf
    | succ n_2 ih_2 =>
      intro v3 H locs ls hP hS hl hf
      have hf : f_X12_lettersFrom_L2 inputLength input v1 v2 (lp (τ := Int32 → Option (Int32)) (fun _ => none) (f_X12_lettersFrom_L2 inputLength input v1 v2) n_2) v3 = some out := hf
      refine lv_iload_n hx hb dX12_lettersFrom_2 rfl (lv_at hl 3 rfl) ?_
      refine lv_iload_n hx hb dX12_lettersFrom_3 rfl (lv_at hl 2 rfl) ?_
      refine lv_icmp_ge (tgt := 23) hx hb dX12_lettersFrom_4 (by decide) (fun c_4 => ?_) (fun c_4 => ?_)
      · have hf := it_pos c_4 hf
        refine lv_iload_n hx hb dX12_lettersFrom_23 rfl (lv_at hl 3 rfl) ?_
        have hf := Option.some.inj hf
        rewrite [← hQ, ← hf]
        exact x_iret hx hb hr hlocks hP hS dX12_lettersFrom_24
      · have hf := it_neg c_4 hf
        refine lv_aload_n hx hb dX12_lettersFrom_7 rfl (lv_at hl 0 rfl) ?_
        refine lv_iload_n hx hb dX12_lettersFrom_8 rfl (lv_at hl 1 rfl) ?_
        refine lv_iload_n hx hb dX12_lettersFrom_9 rfl (lv_at hl 3 rfl) ?_
        refine lv_iadd hx hb dX12_lettersFrom_10 ?_
        obtain ⟨r_11, hr_11, hf⟩ := bd_some hf
        refine x_goi0 (ps := [0, 1]) (x_runV (As := [.int (v1 + v3)]) (rest := []) (ps := [0, 1]) ⟨hx, hb, hml, hown, hts⟩ (k_X12_isLetterAt l D G fu h a_pairs a_above a_sources a_targets a_labels a_lengths a_letters a_distances a_longest a_lengthsTo a_lengthsFrom a_path a_output a_found a_keptLabels a_keptPairs a_input a_sides a_sideLengths a_newLengths a_newLetters a_newSources a_newTargets a_newLabels a_word a_failed a_sizes a_arrays a_savedLengths a_savedSources a_savedTargets a_savedLabels a_savedSideLengths a_savedLetters a_savedSides a_savedPairs objects steps firstStep secondStep pathLength outputLength foundSteps inputLength rules newObjects newSteps wordSize hasSnapshot savedObjects savedSteps savedRules input (v1 + v3) r_11 hr_11) (cwV 1 hts gX12_lettersFrom_X12_isLetterAt rfl rfl rfl (by decide +kernel) ⟨Nat.le_of_ble_eq_true rfl, Nat.le_of_ble_eq_true rfl⟩) hE hP hN rfl (by decide) 0 rfl rfl rfl hl.1 (Nat.le_of_ble_eq_true rfl) dX12_lettersFrom_11 ⟨Nat.zero_le _, Nat.zero_le _⟩) hP hN hS rfl (fun H locs hP hS => ?_)
        refine lv_if_eq (tgt := 23) hx hb dX12_lettersFrom_14 (by decide) (fun c_14 => ?_) (fun c_14 => ?_)
        · have hf := it_pos c_14 hf
          refine lv_iload_n hx hb dX12_lettersFrom_23 rfl (lv_at hl 3 rfl) ?_
          have hf := Option.some.inj hf
          rewrite [← hQ, ← hf]
          exact x_iret hx hb hr hlocks hP hS dX12_lettersFrom_24
        · have hf := it_neg c_14 hf
          obtain ⟨v3_17, e_v3_17, hf⟩ := lt_some hf
          refine lv_iinc (v := v3_17) (lv' := [(3, .int v3_17), (0, .ref h), (1, .int v1), (2, .int v2)]) hx hb dX12_lettersFrom_17 hl (k := 3) rfl (by rw [e_v3_17]; rfl) (by decide) rfl (fun ls hl => ?_)
          refine lv_goto (tgt := 2) hx hb dX12_lettersFrom_20 (by decide) ?_
          exact ih_2 v3_17 H locs ls hP hS (lv_sub hl [1, 2, 3, 0] rfl) hf
  refine lv_iconst (v := 0) hx hb dX12_lettersFrom_0 (by decide) ?_
  obtain ⟨v3_1, e_v3_1, hf⟩ := lt_some hf
  refine x_istore_n (v := v3_1) (lv' := [(3, .int v3_1), (0, .ref h), (1, .int v1), (2, .int v2)]) hx hb dX12_lettersFrom_1 e_v3_1 rfl hl (by decide) rfl (fun ls hl => ?_)
  exact L2    fu v3_1 H locs ls hP hS (lv_sub hl [1, 2, 3, 0] rfl) hf

set_option maxRecDepth 20000 in
theorem u_X12_lettersIn_X12 : ∀ w ∈ wsX120, w ∈ wsX12_lettersIn := xx_pl _ [15, 16, 17, 18, 19, 20, 21, 22, 23, 24, 25, 26, 27, 28, 29, 30, 31, 32, 33, 34, 35, 36, 37, 38, 39, 40, 41, 42, 43, 44, 45, 46, 47, 48, 49, 50, 51, 52, 53, 54, 55, 56, 57, 58, 59, 60, 61, 62, 63, 64, 65, 66] (by decide +kernel)
def f_X12_lettersIn (fu : Nat) (input : (Nat → Int32)) (v1 : Int32) (v2 : Int32) (v3 : Int32) : Option (Int32 × Int32) :=
  lt v1 (fun inputLength_2 => (f_X12_lettersFrom fu inputLength_2 input v2 v3).bind (fun r_8 => lt r_8 (fun v4_11 => lt (0 : Int32) (fun inputLength_15 => some (v4_11, inputLength_15)))))
set_option maxHeartbeats 4000000 in
set_option maxRecDepth 100000 in
theorem k_X12_lettersIn (l : Launch) (D : va_G) (G : Nat → ClassId) (fu : Nat) (h : Nat) (a_pairs : Nat) (a_above : Nat) (a_sources : Nat) (a_targets : Nat) (a_labels : Nat) (a_lengths : Nat) (a_letters : Nat) (a_distances : Nat) (a_longest : Nat) (a_lengthsTo : Nat) (a_lengthsFrom : Nat) (a_path : Nat) (a_output : Nat) (a_found : Nat) (a_keptLabels : Nat) (a_keptPairs : Nat) (a_input : Nat) (a_sides : Nat) (a_sideLengths : Nat) (a_newLengths : Nat) (a_newLetters : Nat) (a_newSources : Nat) (a_newTargets : Nat) (a_newLabels : Nat) (a_word : Nat) (a_failed : Nat) (a_sizes : Nat) (a_arrays : Nat) (a_savedLengths : Nat) (a_savedSources : Nat) (a_savedTargets : Nat) (a_savedLabels : Nat) (a_savedSideLengths : Nat) (a_savedLetters : Nat) (a_savedSides : Nat) (a_savedPairs : Nat) (objects : Int32) (steps : Int32) (firstStep : Int32) (secondStep : Int32) (pathLength : Int32) (outputLength : Int32) (foundSteps : Int32) (inputLength : Int32) (rules : Int32) (newObjects : Int32) (newSteps : Int32) (wordSize : Int32) (hasSnapshot : Int32) (savedObjects : Int32) (savedSteps : Int32) (savedRules : Int32) (input : (Nat → Int32))  (v1 : Int32) (v2 : Int32) (v3 : Int32) (out : Int32 × Int32) (hf : f_X12_lettersIn fu input v1 v2 v3 = some out) : xMet l yX12_lettersIn wsX12_lettersIn (rM 3 66) D G [.ref h, .int v1, .int v2, .int v3] [[(h, .inr (11, [.ref a_pairs, .ref a_above, .int objects, .int steps, .ref a_sources, .ref a_targets, .ref a_labels, .ref a_lengths, .ref a_letters, .ref a_distances, .ref a_longest, .int firstStep, .int secondStep, .ref a_lengthsTo, .ref a_lengthsFrom, .ref a_path, .int pathLength, .ref a_output, .int outputLength, .ref a_found, .int foundSteps, .ref a_keptLabels, .ref a_keptPairs, .ref a_input, .int inputLength, .int rules, .ref a_sides, .ref a_sideLengths, .int newObjects, .int newSteps, .ref a_newLengths, .ref a_newLetters, .ref a_newSources, .ref a_newTargets, .ref a_newLabels, .ref a_word, .int wordSize, .ref a_failed, .ref a_sizes, .ref a_arrays, .int hasSnapshot, .int savedObjects, .int savedSteps, .int savedRules, .ref a_savedLengths, .ref a_savedSources, .ref a_savedTargets, .ref a_savedLabels, .ref a_savedSideLengths, .ref a_savedLetters, .ref a_savedSides, .ref a_savedPairs]))], [(a_input, .inl (G 0, 20, .inl input))]] (xQi D [[(h, .inr (11, [.ref a_pairs, .ref a_above, .int objects, .int steps, .ref a_sources, .ref a_targets, .ref a_labels, .ref a_lengths, .ref a_letters, .ref a_distances, .ref a_longest, .int firstStep, .int secondStep, .ref a_lengthsTo, .ref a_lengthsFrom, .ref a_path, .int pathLength, .ref a_output, .int outputLength, .ref a_found, .int foundSteps, .ref a_keptLabels, .ref a_keptPairs, .ref a_input, .int out.2, .int rules, .ref a_sides, .ref a_sideLengths, .int newObjects, .int newSteps, .ref a_newLengths, .ref a_newLetters, .ref a_newSources, .ref a_newTargets, .ref a_newLabels, .ref a_word, .int wordSize, .ref a_failed, .ref a_sizes, .ref a_arrays, .int hasSnapshot, .int savedObjects, .int savedSteps, .int savedRules, .ref a_savedLengths, .ref a_savedSources, .ref a_savedTargets, .ref a_savedLabels, .ref a_savedSideLengths, .ref a_savedLetters, .ref a_savedSides, .ref a_savedPairs]))], [(a_input, .inl (G 0, 20, .inl input))]] out.1) := by
  refine x_ent (cc := cX12_lettersIn) (maxL := 5) (by decide) rfl (Nat.le_of_ble_eq_true rfl) ?_
  intro p e s m blw meth c aa ls args Q H locs hQ hx hb hr hml hown hts hlocks hE hN hl hP hS
  have hown : s.vm.findClass RX12 = some m.cls := hown
  have hl : lv_has ls 5 [(0, .ref h), (1, .int v1), (2, .int v2), (3, .int v3)] := hl
  refine lv_aload_n hx hb dX12_lettersIn_0 rfl (lv_at hl 0 rfl) ?_
  refine lv_iload_n hx hb dX12_lettersIn_1 rfl (lv_at hl 1 rfl) ?_
  obtain ⟨inputLength_2, e_inputLength_2, hf⟩ := lt_some hf
  refine x_put (w := .int inputLength_2) (ty := .int) (I' := [[(h, .inr (11, [.ref a_pairs, .ref a_above, .int objects, .int steps, .ref a_sources, .ref a_targets, .ref a_labels, .ref a_lengths, .ref a_letters, .ref a_distances, .ref a_longest, .int firstStep, .int secondStep, .ref a_lengthsTo, .ref a_lengthsFrom, .ref a_path, .int pathLength, .ref a_output, .int outputLength, .ref a_found, .int foundSteps, .ref a_keptLabels, .ref a_keptPairs, .ref a_input, .int inputLength_2, .int rules, .ref a_sides, .ref a_sideLengths, .int newObjects, .int newSteps, .ref a_newLengths, .ref a_newLetters, .ref a_newSources, .ref a_newTargets, .ref a_newLabels, .ref a_word, .int wordSize, .ref a_failed, .ref a_sizes, .ref a_arrays, .int hasSnapshot, .int savedObjects, .int savedSteps, .int savedRules, .ref a_savedLengths, .ref a_savedSources, .ref a_savedTargets, .ref a_savedLabels, .ref a_savedSideLengths, .ref a_savedLetters, .ref a_savedSides, .ref a_savedPairs]))], [(a_input, .inl (G 0, 20, .inl input))]]) hx hb hts u_X12_lettersIn_X12 tyX12 tyX12_ok nmX12 hown hE hP hN hS 0 rfl rfl 24 (by decide) (hts (.fieldLink RX12 249 "DecreasingDiagramsModel" "inputLength" "I") (List.mem_of_getElem? (i := 1) rfl)) rfl (congrArg Value.int e_inputLength_2) (by decide +kernel) rfl rfl (Nat.le_of_ble_eq_true rfl) rfl dX12_lettersIn_2 (fun H locs hP hS => ?_)
  refine lv_aload_n hx hb dX12_lettersIn_5 rfl (lv_at hl 0 rfl) ?_
  refine lv_iload_n hx hb dX12_lettersIn_6 rfl (lv_at hl 2 rfl) ?_
  refine lv_iload_n hx hb dX12_lettersIn_7 rfl (lv_at hl 3 rfl) ?_
  obtain ⟨r_8, hr_8, hf⟩ := bd_some hf
  refine x_goi0 (ps := [0, 1]) (x_runV (As := [.int v2, .int v3]) (rest := []) (ps := [0, 1]) ⟨hx, hb, hml, hown, hts⟩ (k_X12_lettersFrom l D G fu h a_pairs a_above a_sources a_targets a_labels a_lengths a_letters a_distances a_longest a_lengthsTo a_lengthsFrom a_path a_output a_found a_keptLabels a_keptPairs a_input a_sides a_sideLengths a_newLengths a_newLetters a_newSources a_newTargets a_newLabels a_word a_failed a_sizes a_arrays a_savedLengths a_savedSources a_savedTargets a_savedLabels a_savedSideLengths a_savedLetters a_savedSides a_savedPairs objects steps firstStep secondStep pathLength outputLength foundSteps inputLength_2 rules newObjects newSteps wordSize hasSnapshot savedObjects savedSteps savedRules input v2 v3 r_8 hr_8) (cwV 2 hts gX12_lettersIn_X12_lettersFrom rfl rfl rfl (by decide +kernel) ⟨Nat.le_of_ble_eq_true rfl, Nat.le_of_ble_eq_true rfl⟩) hE hP hN rfl (by decide) 0 rfl rfl rfl hl.1 (Nat.le_of_ble_eq_true rfl) dX12_lettersIn_8 ⟨Nat.zero_le _, Nat.zero_le _⟩) hP hN hS rfl (fun H locs hP hS => ?_)
  obtain ⟨v4_11, e_v4_11, hf⟩ := lt_some hf
  refine x_istore (v := v4_11) (lv' := [(4, .int v4_11), (0, .ref h), (1, .int v1), (2, .int v2), (3, .int v3)]) hx hb dX12_lettersIn_11 e_v4_11 hl (by decide) rfl (fun ls hl => ?_)
  refine lv_aload_n hx hb dX12_lettersIn_13 rfl (lv_at hl 1 rfl) ?_
  refine lv_iconst (v := 0) hx hb dX12_lettersIn_14 (by decide) ?_
  obtain ⟨inputLength_15, e_inputLength_15, hf⟩ := lt_some hf
  refine x_put (w := .int inputLength_15) (ty := .int) (I' := [[(h, .inr (11, [.ref a_pairs, .ref a_above, .int objects, .int steps, .ref a_sources, .ref a_targets, .ref a_labels, .ref a_lengths, .ref a_letters, .ref a_distances, .ref a_longest, .int firstStep, .int secondStep, .ref a_lengthsTo, .ref a_lengthsFrom, .ref a_path, .int pathLength, .ref a_output, .int outputLength, .ref a_found, .int foundSteps, .ref a_keptLabels, .ref a_keptPairs, .ref a_input, .int inputLength_15, .int rules, .ref a_sides, .ref a_sideLengths, .int newObjects, .int newSteps, .ref a_newLengths, .ref a_newLetters, .ref a_newSources, .ref a_newTargets, .ref a_newLabels, .ref a_word, .int wordSize, .ref a_failed, .ref a_sizes, .ref a_arrays, .int hasSnapshot, .int savedObjects, .int savedSteps, .int savedRules, .ref a_savedLengths, .ref a_savedSources, .ref a_savedTargets, .ref a_savedLabels, .ref a_savedSideLengths, .ref a_savedLetters, .ref a_savedSides, .ref a_savedPairs]))], [(a_input, .inl (G 0, 20, .inl input))]]) hx hb hts u_X12_lettersIn_X12 tyX12 tyX12_ok nmX12 hown hE hP hN hS 0 rfl rfl 24 (by decide) (hts (.fieldLink RX12 249 "DecreasingDiagramsModel" "inputLength" "I") (List.mem_of_getElem? (i := 1) rfl)) rfl (congrArg Value.int e_inputLength_15) (by decide +kernel) rfl rfl (Nat.le_of_ble_eq_true rfl) rfl dX12_lettersIn_15 (fun H locs hP hS => ?_)
  refine lv_iload hx hb dX12_lettersIn_18 (lv_at hl 0 rfl) ?_
  have hf := Option.some.inj hf
  rewrite [← hQ, ← hf]
  exact x_iret hx hb hr hlocks hP hS dX12_lettersIn_20

set_option maxRecDepth 20000 in
theorem u_X12_addRule_X12 : ∀ w ∈ wsX120, w ∈ wsX12_addRule := xx_pl _ [22, 23, 24, 25, 26, 27, 28, 29, 30, 31, 32, 33, 34, 35, 36, 37, 38, 39, 40, 41, 42, 43, 44, 45, 46, 47, 48, 49, 50, 51, 52, 53, 54, 55, 56, 57, 58, 59, 60, 61, 62, 63, 64, 65, 66, 67, 68, 69, 70, 71, 72, 73] (by decide +kernel)
def f_X12_addRule_J161  (v2 : Int32) (v3 : Int32) (inputLength : Int32) (rules : Int32) (sideLengths : (Nat → Int32)) (sides : (Nat → Nat → Int32)) : Option (Int32 × Int32 × Int32 × (Nat → Int32) × (Nat → Nat → Int32)) :=
  ck (2 * rules) 12 (lt (upd sideLengths (2 * rules).toNatClampNeg v2) (fun sideLengths_172 => ck ((2 * rules) + 1) 12 (lt (upd sideLengths_172 ((2 * rules) + 1).toNatClampNeg v3) (fun sideLengths_186 => lt (rules + 1) (fun rules_194 => some (rules_194 - 1, inputLength, rules_194, sideLengths_186, sides))))))
def f_X12_addRule_L122 (inputLength : Int32) (rules : Int32) (input : (Nat → Int32)) (sideLengths : (Nat → Int32)) (v2 : Int32) (v3 : Int32) (rec_122 : Int32 → (Nat → Nat → Int32) → Option (Int32 × Int32 × Int32 × (Nat → Int32) × (Nat → Nat → Int32))) (v4 : Int32) (sides : (Nat → Nat → Int32)) : Option (Int32 × Int32 × Int32 × (Nat → Int32) × (Nat → Nat → Int32)) :=
  if v3 ≤ v4 then (f_X12_addRule_J161 v2 v3 inputLength rules sideLengths sides) else (ck ((2 * rules) + 1) 12 (ck ((v2 + 1) + v4) 20 (ck v4 4 (lt (up2 sides ((2 * rules) + 1).toNatClampNeg v4.toNatClampNeg (input ((v2 + 1) + v4).toNatClampNeg)) (fun sides_154 => lt (v4 + 1) (fun v4_155 => rec_122 v4_155 sides_154))))))
def f_X12_addRule_J119 (fu : Nat) (input : (Nat → Int32)) (v2 : Int32) (v3 : Int32) (inputLength : Int32) (rules : Int32) (sideLengths : (Nat → Int32)) (sides : (Nat → Nat → Int32)) : Option (Int32 × Int32 × Int32 × (Nat → Int32) × (Nat → Nat → Int32)) :=
  lt (0 : Int32) (fun v4_120 => lp (τ := Int32 → (Nat → Nat → Int32) → Option (Int32 × Int32 × Int32 × (Nat → Int32) × (Nat → Nat → Int32))) (fun _ _ => none) (f_X12_addRule_L122 inputLength rules input sideLengths v2 v3) fu v4_120 sides)
def f_X12_addRule_L86 (fu : Nat) (inputLength : Int32) (rules : Int32) (input : (Nat → Int32)) (sideLengths : (Nat → Int32)) (v2 : Int32) (v3 : Int32) (rec_86 : Int32 → (Nat → Nat → Int32) → Option (Int32 × Int32 × Int32 × (Nat → Int32) × (Nat → Nat → Int32))) (v4 : Int32) (sides : (Nat → Nat → Int32)) : Option (Int32 × Int32 × Int32 × (Nat → Int32) × (Nat → Nat → Int32)) :=
  if v2 ≤ v4 then (f_X12_addRule_J119 fu input v2 v3 inputLength rules sideLengths sides) else (ck (2 * rules) 12 (ck v4 20 (ck v4 4 (lt (up2 sides (2 * rules).toNatClampNeg v4.toNatClampNeg (input v4.toNatClampNeg)) (fun sides_112 => lt (v4 + 1) (fun v4_113 => rec_86 v4_113 sides_112))))))
def f_X12_addRule (fu : Nat) (inputLength : Int32) (rules : Int32) (input : (Nat → Int32)) (sideLengths : (Nat → Int32)) (sides : (Nat → Nat → Int32)) : Option (Int32 × Int32 × Int32 × (Nat → Int32) × (Nat → Nat → Int32)) :=
  if ¬ rules = 6 then (lt inputLength (fun v1_16 => lt (0 : Int32) (fun inputLength_19 => (f_X12_lettersIn fu input v1_16 0 4).bind (fun r_26 => lt r_26.1 (fun v2_29 => if v2_29 = 0 then (some ((-100) - v2_29, r_26.2, rules, sideLengths, sides)) else (if v1_16 ≤ v2_29 then (some ((-100) - v2_29, r_26.2, rules, sideLengths, sides)) else (ck v2_29 20 (if (input v2_29.toNatClampNeg) = 62 then ((f_X12_lettersIn fu input v1_16 (v2_29 + 1) 4).bind (fun r_61 => lt r_61.1 (fun v3_64 => if v1_16 ≤ ((v2_29 + 1) + v3_64) then (lt (0 : Int32) (fun v4_84 => lp (τ := Int32 → (Nat → Nat → Int32) → Option (Int32 × Int32 × Int32 × (Nat → Int32) × (Nat → Nat → Int32))) (fun _ _ => none) (f_X12_addRule_L86 fu r_61.2 rules input sideLengths v2_29 v3_64) fu v4_84 sides)) else (some ((((-100) - v2_29) - 1) - v3_64, r_61.2, rules, sideLengths, sides))))) else (some ((-100) - v2_29, r_26.2, rules, sideLengths, sides)))))))))) else (some ((-3), inputLength, rules, sideLengths, sides))
set_option maxHeartbeats 4000000 in
set_option maxRecDepth 100000 in
theorem k_X12_addRule (l : Launch) (D : va_G) (G : Nat → ClassId) (fu : Nat) (h : Nat) (a_pairs : Nat) (a_above : Nat) (a_sources : Nat) (a_targets : Nat) (a_labels : Nat) (a_lengths : Nat) (a_letters : Nat) (a_distances : Nat) (a_longest : Nat) (a_lengthsTo : Nat) (a_lengthsFrom : Nat) (a_path : Nat) (a_output : Nat) (a_found : Nat) (a_keptLabels : Nat) (a_keptPairs : Nat) (a_input : Nat) (a_sides : Nat) (a_sideLengths : Nat) (a_newLengths : Nat) (a_newLetters : Nat) (a_newSources : Nat) (a_newTargets : Nat) (a_newLabels : Nat) (a_word : Nat) (a_failed : Nat) (a_sizes : Nat) (a_arrays : Nat) (a_savedLengths : Nat) (a_savedSources : Nat) (a_savedTargets : Nat) (a_savedLabels : Nat) (a_savedSideLengths : Nat) (a_savedLetters : Nat) (a_savedSides : Nat) (a_savedPairs : Nat) (r_sides : Nat → Nat) (objects : Int32) (steps : Int32) (firstStep : Int32) (secondStep : Int32) (pathLength : Int32) (outputLength : Int32) (foundSteps : Int32) (inputLength : Int32) (rules : Int32) (newObjects : Int32) (newSteps : Int32) (wordSize : Int32) (hasSnapshot : Int32) (savedObjects : Int32) (savedSteps : Int32) (savedRules : Int32) (input : (Nat → Int32)) (sideLengths : (Nat → Int32)) (sides : (Nat → Nat → Int32))   (out : Int32 × Int32 × Int32 × (Nat → Int32) × (Nat → Nat → Int32)) (hf : f_X12_addRule fu inputLength rules input sideLengths sides = some out) : xMet l yX12_addRule wsX12_addRule (rM 4 90) D G [.ref h] [[(h, .inr (11, [.ref a_pairs, .ref a_above, .int objects, .int steps, .ref a_sources, .ref a_targets, .ref a_labels, .ref a_lengths, .ref a_letters, .ref a_distances, .ref a_longest, .int firstStep, .int secondStep, .ref a_lengthsTo, .ref a_lengthsFrom, .ref a_path, .int pathLength, .ref a_output, .int outputLength, .ref a_found, .int foundSteps, .ref a_keptLabels, .ref a_keptPairs, .ref a_input, .int inputLength, .int rules, .ref a_sides, .ref a_sideLengths, .int newObjects, .int newSteps, .ref a_newLengths, .ref a_newLetters, .ref a_newSources, .ref a_newTargets, .ref a_newLabels, .ref a_word, .int wordSize, .ref a_failed, .ref a_sizes, .ref a_arrays, .int hasSnapshot, .int savedObjects, .int savedSteps, .int savedRules, .ref a_savedLengths, .ref a_savedSources, .ref a_savedTargets, .ref a_savedLabels, .ref a_savedSideLengths, .ref a_savedLetters, .ref a_savedSides, .ref a_savedPairs]))], [(a_input, .inl (G 0, 20, .inl input))], [(a_sideLengths, .inl (G 0, 12, .inl sideLengths))], [gO (G 4) a_sides r_sides 12], gI (G 0) r_sides 12 4 sides] (xQi D [[(h, .inr (11, [.ref a_pairs, .ref a_above, .int objects, .int steps, .ref a_sources, .ref a_targets, .ref a_labels, .ref a_lengths, .ref a_letters, .ref a_distances, .ref a_longest, .int firstStep, .int secondStep, .ref a_lengthsTo, .ref a_lengthsFrom, .ref a_path, .int pathLength, .ref a_output, .int outputLength, .ref a_found, .int foundSteps, .ref a_keptLabels, .ref a_keptPairs, .ref a_input, .int out.2.1, .int out.2.2.1, .ref a_sides, .ref a_sideLengths, .int newObjects, .int newSteps, .ref a_newLengths, .ref a_newLetters, .ref a_newSources, .ref a_newTargets, .ref a_newLabels, .ref a_word, .int wordSize, .ref a_failed, .ref a_sizes, .ref a_arrays, .int hasSnapshot, .int savedObjects, .int savedSteps, .int savedRules, .ref a_savedLengths, .ref a_savedSources, .ref a_savedTargets, .ref a_savedLabels, .ref a_savedSideLengths, .ref a_savedLetters, .ref a_savedSides, .ref a_savedPairs]))], [(a_input, .inl (G 0, 20, .inl input))], [(a_sideLengths, .inl (G 0, 12, .inl out.2.2.2.1))], [gO (G 4) a_sides r_sides 12], gI (G 0) r_sides 12 4 out.2.2.2.2] out.1) := by
  refine x_ent (cc := cX12_addRule) (maxL := 5) (by decide) rfl (Nat.le_of_ble_eq_true rfl) ?_
  intro p e s m blw meth c aa ls args Q H locs hQ hx hb hr hml hown hts hlocks hE hN hl hP hS
  have hown : s.vm.findClass RX12 = some m.cls := hown
  have hl : lv_has ls 5 [(0, .ref h)] := hl
  have J161 : ∀ (v2 : Int32) (v3 : Int32) (inputLength : Int32) (rules : Int32) (sideLengths : (Nat → Int32)) (sides : (Nat → Nat → Int32)) (H : Heap) (locs : List Loc) (ls : Array Slot), xW D aa [[(h, .inr (11, [.ref a_pairs, .ref a_above, .int objects, .int steps, .ref a_sources, .ref a_targets, .ref a_labels, .ref a_lengths, .ref a_letters, .ref a_distances, .ref a_longest, .int firstStep, .int secondStep, .ref a_lengthsTo, .ref a_lengthsFrom, .ref a_path, .int pathLength, .ref a_output, .int outputLength, .ref a_found, .int foundSteps, .ref a_keptLabels, .ref a_keptPairs, .ref a_input, .int inputLength, .int rules, .ref a_sides, .ref a_sideLengths, .int newObjects, .int newSteps, .ref a_newLengths, .ref a_newLetters, .ref a_newSources, .ref a_newTargets, .ref a_newLabels, .ref a_word, .int wordSize, .ref a_failed, .ref a_sizes, .ref a_arrays, .int hasSnapshot, .int savedObjects, .int savedSteps, .int savedRules, .ref a_savedLengths, .ref a_savedSources, .ref a_savedTargets, .ref a_savedLabels, .ref a_savedSideLengths, .ref a_savedLetters, .ref a_savedSides, .ref a_savedPairs]))], [(a_input, .inl (G 0, 20, .inl input))], [(a_sideLengths, .inl (G 0, 12, .inl sideLengths))], [gO (G 4) a_sides r_sides 12], gI (G 0) r_sides 12 4 sides] H → va_S (xA aa) s.heap H locs → lv_has ls 5 [(0, .ref h), (2, .int v2), (3, .int v3)] → f_X12_addRule_J161  v2 v3 inputLength rules sideLengths sides = some out → W p l e (rM 4 90) s m args blw meth c H locs 0 0 Q (F0 m 161 ls []) := by
    intro v2 v3 inputLength rules sideLengths sides  H locs ls  hP hS hl hf
    refine lv_aload_n hx hb dX12_addRule_161 rfl (lv_at hl 0 rfl) ?_
    refine x_get hx hb hts u_X12_addRule_X12 hown hE hP 0 rfl rfl 27 (by decide) (hts (.fieldLink RX12 72 "DecreasingDiagramsModel" "sideLengths" "[I") (List.mem_of_getElem? (i := 5) rfl)) rfl dX12_addRule_162 ?_
    refine lv_iconst (v := 2) hx hb dX12_addRule_165 (by decide) ?_
    refine lv_aload_n hx hb dX12_addRule_166 rfl (lv_at hl 0 rfl) ?_
    refine x_get hx hb hts u_X12_addRule_X12 hown hE hP 0 rfl rfl 25 (by decide) (hts (.fieldLink RX12 255 "DecreasingDiagramsModel" "rules" "I") (List.mem_of_getElem? (i := 1) rfl)) rfl dX12_addRule_167 ?_
    refine lv_imul hx hb dX12_addRule_170 ?_
    refine lv_iload_n hx hb dX12_addRule_171 rfl (lv_at hl 1 rfl) ?_
    obtain ⟨hi, hf⟩ := ck_some hf
    obtain ⟨sideLengths_172, e_sideLengths_172, hf⟩ := lt_some hf
    refine x_iast (I' := [[(h, .inr (11, [.ref a_pairs, .ref a_above, .int objects, .int steps, .ref a_sources, .ref a_targets, .ref a_labels, .ref a_lengths, .ref a_letters, .ref a_distances, .ref a_longest, .int firstStep, .int secondStep, .ref a_lengthsTo, .ref a_lengthsFrom, .ref a_path, .int pathLength, .ref a_output, .int outputLength, .ref a_found, .int foundSteps, .ref a_keptLabels, .ref a_keptPairs, .ref a_input, .int inputLength, .int rules, .ref a_sides, .ref a_sideLengths, .int newObjects, .int newSteps, .ref a_newLengths, .ref a_newLetters, .ref a_newSources, .ref a_newTargets, .ref a_newLabels, .ref a_word, .int wordSize, .ref a_failed, .ref a_sizes, .ref a_arrays, .int hasSnapshot, .int savedObjects, .int savedSteps, .int savedRules, .ref a_savedLengths, .ref a_savedSources, .ref a_savedTargets, .ref a_savedLabels, .ref a_savedSideLengths, .ref a_savedLetters, .ref a_savedSides, .ref a_savedPairs]))], [(a_input, .inl (G 0, 20, .inl input))], [(a_sideLengths, .inl (G 0, 12, .inl sideLengths_172))], [gO (G 4) a_sides r_sides 12], gI (G 0) r_sides 12 4 sides]) hx hb hE hP hN hS 2 rfl hi e_sideLengths_172 rfl dX12_addRule_172 (fun H locs hP hS => ?_)
    refine lv_aload_n hx hb dX12_addRule_173 rfl (lv_at hl 0 rfl) ?_
    refine x_get hx hb hts u_X12_addRule_X12 hown hE hP 0 rfl rfl 27 (by decide) (hts (.fieldLink RX12 72 "DecreasingDiagramsModel" "sideLengths" "[I") (List.mem_of_getElem? (i := 5) rfl)) rfl dX12_addRule_174 ?_
    refine lv_iconst (v := 2) hx hb dX12_addRule_177 (by decide) ?_
    refine lv_aload_n hx hb dX12_addRule_178 rfl (lv_at hl 0 rfl) ?_
    refine x_get hx hb hts u_X12_addRule_X12 hown hE hP 0 rfl rfl 25 (by decide) (hts (.fieldLink RX12 255 "DecreasingDiagramsModel" "rules" "I") (List.mem_of_getElem? (i := 1) rfl)) rfl dX12_addRule_179 ?_
    refine lv_imul hx hb dX12_addRule_182 ?_
    refine lv_iconst (v := 1) hx hb dX12_addRule_183 (by decide) ?_
    refine lv_iadd hx hb dX12_addRule_184 ?_
    refine lv_iload_n hx hb dX12_addRule_185 rfl (lv_at hl 2 rfl) ?_
    obtain ⟨hi, hf⟩ := ck_some hf
    obtain ⟨sideLengths_186, e_sideLengths_186, hf⟩ := lt_some hf
    refine x_iast (I' := [[(h, .inr (11, [.ref a_pairs, .ref a_above, .int objects, .int steps, .ref a_sources, .ref a_targets, .ref a_labels, .ref a_lengths, .ref a_letters, .ref a_distances, .ref a_longest, .int firstStep, .int secondStep, .ref a_lengthsTo, .ref a_lengthsFrom, .ref a_path, .int pathLength, .ref a_output, .int outputLength, .ref a_found, .int foundSteps, .ref a_keptLabels, .ref a_keptPairs, .ref a_input, .int inputLength, .int rules, .ref a_sides, .ref a_sideLengths, .int newObjects, .int newSteps, .ref a_newLengths, .ref a_newLetters, .ref a_newSources, .ref a_newTargets, .ref a_newLabels, .ref a_word, .int wordSize, .ref a_failed, .ref a_sizes, .ref a_arrays, .int hasSnapshot, .int savedObjects, .int savedSteps, .int savedRules, .ref a_savedLengths, .ref a_savedSources, .ref a_savedTargets, .ref a_savedLabels, .ref a_savedSideLengths, .ref a_savedLetters, .ref a_savedSides, .ref a_savedPairs]))], [(a_input, .inl (G 0, 20, .inl input))], [(a_sideLengths, .inl (G 0, 12, .inl sideLengths_186))], [gO (G 4) a_sides r_sides 12], gI (G 0) r_sides 12 4 sides]) hx hb hE hP hN hS 2 rfl hi e_sideLengths_186 rfl dX12_addRule_186 (fun H locs hP hS => ?_)
    refine lv_aload_n hx hb dX12_addRule_187 rfl (lv_at hl 0 rfl) ?_
    refine lv_dup hx hb dX12_addRule_188 rfl ?_
    refine x_get hx hb hts u_X12_addRule_X12 hown hE hP 0 rfl rfl 25 (by decide) (hts (.fieldLink RX12 255 "DecreasingDiagramsModel" "rules" "I") (List.mem_of_getElem? (i := 1) rfl)) rfl dX12_addRule_189 ?_
    refine lv_iconst (v := 1) hx hb dX12_addRule_192 (by decide) ?_
    refine lv_iadd hx hb dX12_addRule_193 ?_
    obtain ⟨rules_194, e_rules_194, hf⟩ := lt_some hf
    refine x_put (w := .int rules_194) (ty := .int) (I' := [[(h, .inr (11, [.ref a_pairs, .ref a_above, .int objects, .int steps, .ref a_sources, .ref a_targets, .ref a_labels, .ref a_lengths, .ref a_letters, .ref a_distances, .ref a_longest, .int firstStep, .int secondStep, .ref a_lengthsTo, .ref a_lengthsFrom, .ref a_path, .int pathLength, .ref a_output, .int outputLength, .ref a_found, .int foundSteps, .ref a_keptLabels, .ref a_keptPairs, .ref a_input, .int inputLength, .int rules_194, .ref a_sides, .ref a_sideLengths, .int newObjects, .int newSteps, .ref a_newLengths, .ref a_newLetters, .ref a_newSources, .ref a_newTargets, .ref a_newLabels, .ref a_word, .int wordSize, .ref a_failed, .ref a_sizes, .ref a_arrays, .int hasSnapshot, .int savedObjects, .int savedSteps, .int savedRules, .ref a_savedLengths, .ref a_savedSources, .ref a_savedTargets, .ref a_savedLabels, .ref a_savedSideLengths, .ref a_savedLetters, .ref a_savedSides, .ref a_savedPairs]))], [(a_input, .inl (G 0, 20, .inl input))], [(a_sideLengths, .inl (G 0, 12, .inl sideLengths_186))], [gO (G 4) a_sides r_sides 12], gI (G 0) r_sides 12 4 sides]) hx hb hts u_X12_addRule_X12 tyX12 tyX12_ok nmX12 hown hE hP hN hS 0 rfl rfl 25 (by decide) (hts (.fieldLink RX12 255 "DecreasingDiagramsModel" "rules" "I") (List.mem_of_getElem? (i := 1) rfl)) rfl (congrArg Value.int e_rules_194) (by decide +kernel) rfl rfl (Nat.le_of_ble_eq_true rfl) rfl dX12_addRule_194 (fun H locs hP hS => ?_)
    refine lv_aload_n hx hb dX12_addRule_197 rfl (lv_at hl 0 rfl) ?_
    refine x_get hx hb hts u_X12_addRule_X12 hown hE hP 0 rfl rfl 25 (by decide) (hts (.fieldLink RX12 255 "DecreasingDiagramsModel" "rules" "I") (List.mem_of_getElem? (i := 1) rfl)) rfl dX12_addRule_198 ?_
    refine lv_iconst (v := 1) hx hb dX12_addRule_201 (by decide) ?_
    refine lv_isub hx hb dX12_addRule_202 ?_
    have hf := Option.some.inj hf
    rewrite [← hQ, ← hf]
    exact x_iret hx hb hr hlocks hP hS dX12_addRule_203
  have L122 : ∀ (v2 : Int32) (v3 : Int32) (inputLength : Int32) (rules : Int32) (sideLengths : (Nat → Int32)), ∀ (n_122 : Nat) (v4 : Int32) (sides : (Nat → Nat → Int32)) (H : Heap) (locs : List Loc) (ls : Array Slot), xW D aa [[(h, .inr (11, [.ref a_pairs, .ref a_above, .int objects, .int steps, .ref a_sources, .ref a_targets, .ref a_labels, .ref a_lengths, .ref a_letters, .ref a_distances, .ref a_longest, .int firstStep, .int secondStep, .ref a_lengthsTo, .ref a_lengthsFrom, .ref a_path, .int pathLength, .ref a_output, .int outputLength, .ref a_found, .int foundSteps, .ref a_keptLabels, .ref a_keptPairs, .ref a_input, .int inputLength, .int rules, .ref a_sides, .ref a_sideLengths, .int newObjects, .int newSteps, .ref a_newLengths, .ref a_newLetters, .ref a_newSources, .ref a_newTargets, .ref a_newLabels, .ref a_word, .int wordSize, .ref a_failed, .ref a_sizes, .ref a_arrays, .int hasSnapshot, .int savedObjects, .int savedSteps, .int savedRules, .ref a_savedLengths, .ref a_savedSources, .ref a_savedTargets, .ref a_savedLabels, .ref a_savedSideLengths, .ref a_savedLetters, .ref a_savedSides, .ref a_savedPairs]))], [(a_input, .inl (G 0, 20, .inl input))], [(a_sideLengths, .inl (G 0, 12, .inl sideLengths))], [gO (G 4) a_sides r_sides 12], gI (G 0) r_sides 12 4 sides] H → va_S (xA aa) s.heap H locs → lv_has ls 5 [(0, .ref h), (2, .int v2), (3, .int v3), (4, .int v4)] → lp (τ := Int32 → (Nat → Nat → Int32) → Option (Int32 × Int32 × Int32 × (Nat → Int32) × (Nat → Nat → Int32))) (fun _ _ => none) (f_X12_addRule_L122 inputLength rules input sideLengths v2 v3) n_122 v4 sides = some out → W p l e (rM 4 90) s m args blw meth c H locs 0 0 Q (F0 m 122 ls []) := by
    intro v2 v3 inputLength rules sideLengths   n_122
    induction n_122 with
    | zero =>
      intro v4 sides H locs ls hP hS hl hf
      exact no_some hf
    | succ n_122 ih_122 =>
      intro v4 sides H locs ls hP hS hl hf
      have hf : f_X12_addRule_L122 inputLength rules input sideLengths v2 v3 (lp (τ := Int32 → (Nat → Nat → Int32) → Option (Int32 × Int32 × Int32 × (Nat → Int32) × (Nat → Nat → Int32))) (fun _ _ => none) (f_X12_addRule_L122 inputLength rules input sideLengths v2 v3) n_122) v4 sides = some out := hf
      refine lv_iload hx hb dX12_addRule_122 (lv_at hl 3 rfl) ?_
      refine lv_iload_n hx hb dX12_addRule_124 rfl (lv_at hl 2 rfl) ?_
      refine lv_icmp_ge (tgt := 161) hx hb dX12_addRule_125 (by decide) (fun c_125 => ?_) (fun c_125 => ?_)
      · have hf := it_pos c_125 hf
        exact J161 v2 v3 inputLength rules sideLengths sides  H locs ls  hP hS (lv_sub hl [0, 1, 2] rfl) hf
      · have hf := it_neg c_125 hf
        refine lv_aload_n hx hb dX12_addRule_128 rfl (lv_at hl 0 rfl) ?_
        refine x_get hx hb hts u_X12_addRule_X12 hown hE hP 0 rfl rfl 26 (by decide) (hts (.fieldLink RX12 69 "DecreasingDiagramsModel" "sides" "[[I") (List.mem_of_getElem? (i := 4) rfl)) rfl dX12_addRule_129 ?_
        refine lv_iconst (v := 2) hx hb dX12_addRule_132 (by decide) ?_
        refine lv_aload_n hx hb dX12_addRule_133 rfl (lv_at hl 0 rfl) ?_
        refine x_get hx hb hts u_X12_addRule_X12 hown hE hP 0 rfl rfl 25 (by decide) (hts (.fieldLink RX12 255 "DecreasingDiagramsModel" "rules" "I") (List.mem_of_getElem? (i := 1) rfl)) rfl dX12_addRule_134 ?_
        refine lv_imul hx hb dX12_addRule_137 ?_
        refine lv_iconst (v := 1) hx hb dX12_addRule_138 (by decide) ?_
        refine lv_iadd hx hb dX12_addRule_139 ?_
        obtain ⟨hq_140, hf⟩ := ck_some hf
        refine x_aald hx hb hE hP 3 4 rfl rfl hq_140 dX12_addRule_140 ?_
        refine lv_iload hx hb dX12_addRule_141 (lv_at hl 3 rfl) ?_
        refine lv_aload_n hx hb dX12_addRule_143 rfl (lv_at hl 0 rfl) ?_
        refine x_get hx hb hts u_X12_addRule_X12 hown hE hP 0 rfl rfl 23 (by decide) (hts (.fieldLink RX12 66 "DecreasingDiagramsModel" "input" "[I") (List.mem_of_getElem? (i := 3) rfl)) rfl dX12_addRule_144 ?_
        refine lv_iload_n hx hb dX12_addRule_147 rfl (lv_at hl 1 rfl) ?_
        refine lv_iconst (v := 1) hx hb dX12_addRule_148 (by decide) ?_
        refine lv_iadd hx hb dX12_addRule_149 ?_
        refine lv_iload hx hb dX12_addRule_150 (lv_at hl 3 rfl) ?_
        refine lv_iadd hx hb dX12_addRule_152 ?_
        obtain ⟨hi, hf⟩ := ck_some hf
        refine x_iald hx hb hE hP 1 rfl hi dX12_addRule_153 ?_
        obtain ⟨hi, hf⟩ := ck_some hf
        obtain ⟨sides_154, e_sides_154, hf⟩ := lt_some hf
        refine x_iast2 (I' := [[(h, .inr (11, [.ref a_pairs, .ref a_above, .int objects, .int steps, .ref a_sources, .ref a_targets, .ref a_labels, .ref a_lengths, .ref a_letters, .ref a_distances, .ref a_longest, .int firstStep, .int secondStep, .ref a_lengthsTo, .ref a_lengthsFrom, .ref a_path, .int pathLength, .ref a_output, .int outputLength, .ref a_found, .int foundSteps, .ref a_keptLabels, .ref a_keptPairs, .ref a_input, .int inputLength, .int rules, .ref a_sides, .ref a_sideLengths, .int newObjects, .int newSteps, .ref a_newLengths, .ref a_newLetters, .ref a_newSources, .ref a_newTargets, .ref a_newLabels, .ref a_word, .int wordSize, .ref a_failed, .ref a_sizes, .ref a_arrays, .int hasSnapshot, .int savedObjects, .int savedSteps, .int savedRules, .ref a_savedLengths, .ref a_savedSources, .ref a_savedTargets, .ref a_savedLabels, .ref a_savedSideLengths, .ref a_savedLetters, .ref a_savedSides, .ref a_savedPairs]))], [(a_input, .inl (G 0, 20, .inl input))], [(a_sideLengths, .inl (G 0, 12, .inl sideLengths))], [gO (G 4) a_sides r_sides 12], gI (G 0) r_sides 12 4 sides_154]) hx hb hE hP hN hS 4 rfl hq_140 hi e_sides_154 rfl dX12_addRule_154 (fun H locs hP hS => ?_)
        obtain ⟨v4_155, e_v4_155, hf⟩ := lt_some hf
        refine lv_iinc (v := v4_155) (lv' := [(4, .int v4_155), (0, .ref h), (2, .int v2), (3, .int v3)]) hx hb dX12_addRule_155 hl (k := 3) rfl (by rw [e_v4_155]; rfl) (by decide) rfl (fun ls hl => ?_)
        refine lv_goto (tgt := 122) hx hb dX12_addRule_158 (by decide) ?_
        exact ih_122 v4_155 sides_154 H locs ls hP hS (lv_sub hl [1, 2, 3, 0] rfl) hf
  have J119 : ∀ (v2 : Int32) (v3 : Int32) (inputLength : Int32) (rules : Int32) (sideLengths : (Nat → Int32)) (sides : (Nat → Nat → Int32)) (H : Heap) (locs : List Loc) (ls : Array Slot), xW D aa [[(h, .inr (11, [.ref a_pairs, .ref a_above, .int objects, .int steps, .ref a_sources, .ref a_targets, .ref a_labels, .ref a_lengths, .ref a_letters, .ref a_distances, .ref a_longest, .int firstStep, .int secondStep, .ref a_lengthsTo, .ref a_lengthsFrom, .ref a_path, .int pathLength, .ref a_output, .int outputLength, .ref a_found, .int foundSteps, .ref a_keptLabels, .ref a_keptPairs, .ref a_input, .int inputLength, .int rules, .ref a_sides, .ref a_sideLengths, .int newObjects, .int newSteps, .ref a_newLengths, .ref a_newLetters, .ref a_newSources, .ref a_newTargets, .ref a_newLabels, .ref a_word, .int wordSize, .ref a_failed, .ref a_sizes, .ref a_arrays, .int hasSnapshot, .int savedObjects, .int savedSteps, .int savedRules, .ref a_savedLengths, .ref a_savedSources, .ref a_savedTargets, .ref a_savedLabels, .ref a_savedSideLengths, .ref a_savedLetters, .ref a_savedSides, .ref a_savedPairs]))], [(a_input, .inl (G 0, 20, .inl input))], [(a_sideLengths, .inl (G 0, 12, .inl sideLengths))], [gO (G 4) a_sides r_sides 12], gI (G 0) r_sides 12 4 sides] H → va_S (xA aa) s.heap H locs → lv_has ls 5 [(0, .ref h), (2, .int v2), (3, .int v3)] → f_X12_addRule_J119 fu input v2 v3 inputLength rules sideLengths sides = some out → W p l e (rM 4 90) s m args blw meth c H locs 0 0 Q (F0 m 119 ls []) := by
    intro v2 v3 inputLength rules sideLengths sides  H locs ls  hP hS hl hf
    refine lv_iconst (v := 0) hx hb dX12_addRule_119 (by decide) ?_
    obtain ⟨v4_120, e_v4_120, hf⟩ := lt_some hf
    refine x_istore (v := v4_120) (lv' := [(4, .int v4_120), (0, .ref h), (2, .int v2), (3, .int v3)]) hx hb dX12_addRule_120 e_v4_120 hl (by decide) rfl (fun ls hl => ?_)
    exact L122 v2 v3 inputLength rules sideLengths   fu v4_120 sides H locs ls hP hS (lv_sub hl [1, 2, 3, 0] rfl) hf
  have L86 : ∀ (v2 : Int32) (v3 : Int32) (inputLength : Int32) (rules : Int32) (sideLengths : (Nat → Int32)), ∀ (n_86 : Nat) (v4 : Int32) (sides : (Nat → Nat → Int32)) (H : Heap) (locs : List Loc) (ls : Array Slot), xW D aa [[(h, .inr (11, [.ref a_pairs, .ref a_above, .int objects, .int steps, .ref a_sources, .ref a_targets, .ref a_labels, .ref a_lengths, .ref a_letters, .ref a_distances, .ref a_longest, .int firstStep, .int secondStep, .ref a_lengthsTo, .ref a_lengthsFrom, .ref a_path, .int pathLength, .ref a_output, .int outputLength, .ref a_found, .int foundSteps, .ref a_keptLabels, .ref a_keptPairs, .ref a_input, .int inputLength, .int rules, .ref a_sides, .ref a_sideLengths, .int newObjects, .int newSteps, .ref a_newLengths, .ref a_newLetters, .ref a_newSources, .ref a_newTargets, .ref a_newLabels, .ref a_word, .int wordSize, .ref a_failed, .ref a_sizes, .ref a_arrays, .int hasSnapshot, .int savedObjects, .int savedSteps, .int savedRules, .ref a_savedLengths, .ref a_savedSources, .ref a_savedTargets, .ref a_savedLabels, .ref a_savedSideLengths, .ref a_savedLetters, .ref a_savedSides, .ref a_savedPairs]))], [(a_input, .inl (G 0, 20, .inl input))], [(a_sideLengths, .inl (G 0, 12, .inl sideLengths))], [gO (G 4) a_sides r_sides 12], gI (G 0) r_sides 12 4 sides] H → va_S (xA aa) s.heap H locs → lv_has ls 5 [(0, .ref h), (2, .int v2), (3, .int v3), (4, .int v4)] → lp (τ := Int32 → (Nat → Nat → Int32) → Option (Int32 × Int32 × Int32 × (Nat → Int32) × (Nat → Nat → Int32))) (fun _ _ => none) (f_X12_addRule_L86 fu inputLength rules input sideLengths v2 v3) n_86 v4 sides = some out → W p l e (rM 4 90) s m args blw meth c H locs 0 0 Q (F0 m 86 ls []) := by
    intro v2 v3 inputLength rules sideLengths   n_86
    induction n_86 with
    | zero =>
      intro v4 sides H locs ls hP hS hl hf
      exact no_some hf
    | succ n_86 ih_86 =>
      intro v4 sides H locs ls hP hS hl hf
      have hf : f_X12_addRule_L86 fu inputLength rules input sideLengths v2 v3 (lp (τ := Int32 → (Nat → Nat → Int32) → Option (Int32 × Int32 × Int32 × (Nat → Int32) × (Nat → Nat → Int32))) (fun _ _ => none) (f_X12_addRule_L86 fu inputLength rules input sideLengths v2 v3) n_86) v4 sides = some out := hf
      refine lv_iload hx hb dX12_addRule_86 (lv_at hl 3 rfl) ?_
      refine lv_iload_n hx hb dX12_addRule_88 rfl (lv_at hl 1 rfl) ?_
      refine lv_icmp_ge (tgt := 119) hx hb dX12_addRule_89 (by decide) (fun c_89 => ?_) (fun c_89 => ?_)
      · have hf := it_pos c_89 hf
        exact J119 v2 v3 inputLength rules sideLengths sides  H locs ls  hP hS (lv_sub hl [0, 1, 2] rfl) hf
      · have hf := it_neg c_89 hf
        refine lv_aload_n hx hb dX12_addRule_92 rfl (lv_at hl 0 rfl) ?_
        refine x_get hx hb hts u_X12_addRule_X12 hown hE hP 0 rfl rfl 26 (by decide) (hts (.fieldLink RX12 69 "DecreasingDiagramsModel" "sides" "[[I") (List.mem_of_getElem? (i := 4) rfl)) rfl dX12_addRule_93 ?_
        refine lv_iconst (v := 2) hx hb dX12_addRule_96 (by decide) ?_
        refine lv_aload_n hx hb dX12_addRule_97 rfl (lv_at hl 0 rfl) ?_
        refine x_get hx hb hts u_X12_addRule_X12 hown hE hP 0 rfl rfl 25 (by decide) (hts (.fieldLink RX12 255 "DecreasingDiagramsModel" "rules" "I") (List.mem_of_getElem? (i := 1) rfl)) rfl dX12_addRule_98 ?_
        refine lv_imul hx hb dX12_addRule_101 ?_
        obtain ⟨hq_102, hf⟩ := ck_some hf
        refine x_aald hx hb hE hP 3 4 rfl rfl hq_102 dX12_addRule_102 ?_
        refine lv_iload hx hb dX12_addRule_103 (lv_at hl 3 rfl) ?_
        refine lv_aload_n hx hb dX12_addRule_105 rfl (lv_at hl 0 rfl) ?_
        refine x_get hx hb hts u_X12_addRule_X12 hown hE hP 0 rfl rfl 23 (by decide) (hts (.fieldLink RX12 66 "DecreasingDiagramsModel" "input" "[I") (List.mem_of_getElem? (i := 3) rfl)) rfl dX12_addRule_106 ?_
        refine lv_iload hx hb dX12_addRule_109 (lv_at hl 3 rfl) ?_
        obtain ⟨hi, hf⟩ := ck_some hf
        refine x_iald hx hb hE hP 1 rfl hi dX12_addRule_111 ?_
        obtain ⟨hi, hf⟩ := ck_some hf
        obtain ⟨sides_112, e_sides_112, hf⟩ := lt_some hf
        refine x_iast2 (I' := [[(h, .inr (11, [.ref a_pairs, .ref a_above, .int objects, .int steps, .ref a_sources, .ref a_targets, .ref a_labels, .ref a_lengths, .ref a_letters, .ref a_distances, .ref a_longest, .int firstStep, .int secondStep, .ref a_lengthsTo, .ref a_lengthsFrom, .ref a_path, .int pathLength, .ref a_output, .int outputLength, .ref a_found, .int foundSteps, .ref a_keptLabels, .ref a_keptPairs, .ref a_input, .int inputLength, .int rules, .ref a_sides, .ref a_sideLengths, .int newObjects, .int newSteps, .ref a_newLengths, .ref a_newLetters, .ref a_newSources, .ref a_newTargets, .ref a_newLabels, .ref a_word, .int wordSize, .ref a_failed, .ref a_sizes, .ref a_arrays, .int hasSnapshot, .int savedObjects, .int savedSteps, .int savedRules, .ref a_savedLengths, .ref a_savedSources, .ref a_savedTargets, .ref a_savedLabels, .ref a_savedSideLengths, .ref a_savedLetters, .ref a_savedSides, .ref a_savedPairs]))], [(a_input, .inl (G 0, 20, .inl input))], [(a_sideLengths, .inl (G 0, 12, .inl sideLengths))], [gO (G 4) a_sides r_sides 12], gI (G 0) r_sides 12 4 sides_112]) hx hb hE hP hN hS 4 rfl hq_102 hi e_sides_112 rfl dX12_addRule_112 (fun H locs hP hS => ?_)
        obtain ⟨v4_113, e_v4_113, hf⟩ := lt_some hf
        refine lv_iinc (v := v4_113) (lv' := [(4, .int v4_113), (0, .ref h), (2, .int v2), (3, .int v3)]) hx hb dX12_addRule_113 hl (k := 3) rfl (by rw [e_v4_113]; rfl) (by decide) rfl (fun ls hl => ?_)
        refine lv_goto (tgt := 86) hx hb dX12_addRule_116 (by decide) ?_
        exact ih_86 v4_113 sides_112 H locs ls hP hS (lv_sub hl [1, 2, 3, 0] rfl) hf
  refine lv_aload_n hx hb dX12_addRule_0 rfl (lv_at hl 0 rfl) ?_
  refine x_get hx hb hts u_X12_addRule_X12 hown hE hP 0 rfl rfl 25 (by decide) (hts (.fieldLink RX12 255 "DecreasingDiagramsModel" "rules" "I") (List.mem_of_getElem? (i := 1) rfl)) rfl dX12_addRule_1 ?_
  refine lv_bipush (v := 6) hx hb dX12_addRule_4 (by decide) ?_
  refine lv_icmp_ne (tgt := 12) hx hb dX12_addRule_6 (by decide) (fun c_6 => ?_) (fun c_6 => ?_)
  · have hf := it_pos c_6 hf
    refine lv_aload_n hx hb dX12_addRule_12 rfl (lv_at hl 0 rfl) ?_
    refine x_get hx hb hts u_X12_addRule_X12 hown hE hP 0 rfl rfl 24 (by decide) (hts (.fieldLink RX12 249 "DecreasingDiagramsModel" "inputLength" "I") (List.mem_of_getElem? (i := 2) rfl)) rfl dX12_addRule_13 ?_
    obtain ⟨v1_16, e_v1_16, hf⟩ := lt_some hf
    refine x_istore_n (v := v1_16) (lv' := [(1, .int v1_16), (0, .ref h)]) hx hb dX12_addRule_16 e_v1_16 rfl hl (by decide) rfl (fun ls hl => ?_)
    refine lv_aload_n hx hb dX12_addRule_17 rfl (lv_at hl 1 rfl) ?_
    refine lv_iconst (v := 0) hx hb dX12_addRule_18 (by decide) ?_
    obtain ⟨inputLength_19, e_inputLength_19, hf⟩ := lt_some hf
    refine x_put (w := .int inputLength_19) (ty := .int) (I' := [[(h, .inr (11, [.ref a_pairs, .ref a_above, .int objects, .int steps, .ref a_sources, .ref a_targets, .ref a_labels, .ref a_lengths, .ref a_letters, .ref a_distances, .ref a_longest, .int firstStep, .int secondStep, .ref a_lengthsTo, .ref a_lengthsFrom, .ref a_path, .int pathLength, .ref a_output, .int outputLength, .ref a_found, .int foundSteps, .ref a_keptLabels, .ref a_keptPairs, .ref a_input, .int inputLength_19, .int rules, .ref a_sides, .ref a_sideLengths, .int newObjects, .int newSteps, .ref a_newLengths, .ref a_newLetters, .ref a_newSources, .ref a_newTargets, .ref a_newLabels, .ref a_word, .int wordSize, .ref a_failed, .ref a_sizes, .ref a_arrays, .int hasSnapshot, .int savedObjects, .int savedSteps, .int savedRules, .ref a_savedLengths, .ref a_savedSources, .ref a_savedTargets, .ref a_savedLabels, .ref a_savedSideLengths, .ref a_savedLetters, .ref a_savedSides, .ref a_savedPairs]))], [(a_input, .inl (G 0, 20, .inl input))], [(a_sideLengths, .inl (G 0, 12, .inl sideLengths))], [gO (G 4) a_sides r_sides 12], gI (G 0) r_sides 12 4 sides]) hx hb hts u_X12_addRule_X12 tyX12 tyX12_ok nmX12 hown hE hP hN hS 0 rfl rfl 24 (by decide) (hts (.fieldLink RX12 249 "DecreasingDiagramsModel" "inputLength" "I") (List.mem_of_getElem? (i := 2) rfl)) rfl (congrArg Value.int e_inputLength_19) (by decide +kernel) rfl rfl (Nat.le_of_ble_eq_true rfl) rfl dX12_addRule_19 (fun H locs hP hS => ?_)
    refine lv_aload_n hx hb dX12_addRule_22 rfl (lv_at hl 1 rfl) ?_
    refine lv_iload_n hx hb dX12_addRule_23 rfl (lv_at hl 0 rfl) ?_
    refine lv_iconst (v := 0) hx hb dX12_addRule_24 (by decide) ?_
    refine lv_iconst (v := 4) hx hb dX12_addRule_25 (by decide) ?_
    obtain ⟨r_26, hr_26, hf⟩ := bd_some hf
    refine x_goi (ps := [0, 1]) (qs := [2, 3, 4]) (n := 5) (I' := [[(h, .inr (11, [.ref a_pairs, .ref a_above, .int objects, .int steps, .ref a_sources, .ref a_targets, .ref a_labels, .ref a_lengths, .ref a_letters, .ref a_distances, .ref a_longest, .int firstStep, .int secondStep, .ref a_lengthsTo, .ref a_lengthsFrom, .ref a_path, .int pathLength, .ref a_output, .int outputLength, .ref a_found, .int foundSteps, .ref a_keptLabels, .ref a_keptPairs, .ref a_input, .int r_26.2, .int rules, .ref a_sides, .ref a_sideLengths, .int newObjects, .int newSteps, .ref a_newLengths, .ref a_newLetters, .ref a_newSources, .ref a_newTargets, .ref a_newLabels, .ref a_word, .int wordSize, .ref a_failed, .ref a_sizes, .ref a_arrays, .int hasSnapshot, .int savedObjects, .int savedSteps, .int savedRules, .ref a_savedLengths, .ref a_savedSources, .ref a_savedTargets, .ref a_savedLabels, .ref a_savedSideLengths, .ref a_savedLetters, .ref a_savedSides, .ref a_savedPairs]))], [(a_input, .inl (G 0, 20, .inl input))], [(a_sideLengths, .inl (G 0, 12, .inl sideLengths))], [gO (G 4) a_sides r_sides 12], gI (G 0) r_sides 12 4 sides]) (x_runV (As := [.int v1_16, .int 0, .int 4]) (rest := []) (ps := [0, 1]) ⟨hx, hb, hml, hown, hts⟩ (k_X12_lettersIn l D G fu h a_pairs a_above a_sources a_targets a_labels a_lengths a_letters a_distances a_longest a_lengthsTo a_lengthsFrom a_path a_output a_found a_keptLabels a_keptPairs a_input a_sides a_sideLengths a_newLengths a_newLetters a_newSources a_newTargets a_newLabels a_word a_failed a_sizes a_arrays a_savedLengths a_savedSources a_savedTargets a_savedLabels a_savedSideLengths a_savedLetters a_savedSides a_savedPairs objects steps firstStep secondStep pathLength outputLength foundSteps inputLength_19 rules newObjects newSteps wordSize hasSnapshot savedObjects savedSteps savedRules input v1_16 0 4 r_26 hr_26) (cwV 3 hts gX12_addRule_X12_lettersIn rfl rfl rfl (by decide +kernel) ⟨Nat.le_of_ble_eq_true rfl, Nat.le_of_ble_eq_true rfl⟩) hE hP hN rfl (by decide) 0 rfl rfl rfl hl.1 (Nat.le_of_ble_eq_true rfl) dX12_addRule_26 ⟨Nat.zero_le _, Nat.zero_le _⟩) hP hN hS rfl rfl rfl rfl rfl (by decide) (fun H locs hP hS => ?_)
    obtain ⟨v2_29, e_v2_29, hf⟩ := lt_some hf
    refine x_istore_n (v := v2_29) (lv' := [(2, .int v2_29), (1, .int v1_16), (0, .ref h)]) hx hb dX12_addRule_29 e_v2_29 rfl hl (by decide) rfl (fun ls hl => ?_)
    refine lv_iload_n hx hb dX12_addRule_30 rfl (lv_at hl 0 rfl) ?_
    refine lv_if_eq (tgt := 50) hx hb dX12_addRule_31 (by decide) (fun c_31 => ?_) (fun c_31 => ?_)
    · have hf := it_pos c_31 hf
      refine lv_bipush (v := -100) hx hb dX12_addRule_50 (by decide) ?_
      refine lv_iload_n hx hb dX12_addRule_52 rfl (lv_at hl 0 rfl) ?_
      refine lv_isub hx hb dX12_addRule_53 ?_
      have hf := Option.some.inj hf
      rewrite [← hQ, ← hf]
      exact x_iret hx hb hr hlocks hP hS dX12_addRule_54
    · have hf := it_neg c_31 hf
      refine lv_iload_n hx hb dX12_addRule_34 rfl (lv_at hl 0 rfl) ?_
      refine lv_iload_n hx hb dX12_addRule_35 rfl (lv_at hl 1 rfl) ?_
      refine lv_icmp_ge (tgt := 50) hx hb dX12_addRule_36 (by decide) (fun c_36 => ?_) (fun c_36 => ?_)
      · have hf := it_pos c_36 hf
        refine lv_bipush (v := -100) hx hb dX12_addRule_50 (by decide) ?_
        refine lv_iload_n hx hb dX12_addRule_52 rfl (lv_at hl 0 rfl) ?_
        refine lv_isub hx hb dX12_addRule_53 ?_
        have hf := Option.some.inj hf
        rewrite [← hQ, ← hf]
        exact x_iret hx hb hr hlocks hP hS dX12_addRule_54
      · have hf := it_neg c_36 hf
        refine lv_aload_n hx hb dX12_addRule_39 rfl (lv_at hl 2 rfl) ?_
        refine x_get hx hb hts u_X12_addRule_X12 hown hE hP 0 rfl rfl 23 (by decide) (hts (.fieldLink RX12 66 "DecreasingDiagramsModel" "input" "[I") (List.mem_of_getElem? (i := 3) rfl)) rfl dX12_addRule_40 ?_
        refine lv_iload_n hx hb dX12_addRule_43 rfl (lv_at hl 0 rfl) ?_
        obtain ⟨hi, hf⟩ := ck_some hf
        refine x_iald hx hb hE hP 1 rfl hi dX12_addRule_44 ?_
        refine lv_bipush (v := 62) hx hb dX12_addRule_45 (by decide) ?_
        refine lv_icmp_eq (tgt := 55) hx hb dX12_addRule_47 (by decide) (fun c_47 => ?_) (fun c_47 => ?_)
        · have hf := it_pos c_47 hf
          refine lv_aload_n hx hb dX12_addRule_55 rfl (lv_at hl 2 rfl) ?_
          refine lv_iload_n hx hb dX12_addRule_56 rfl (lv_at hl 1 rfl) ?_
          refine lv_iload_n hx hb dX12_addRule_57 rfl (lv_at hl 0 rfl) ?_
          refine lv_iconst (v := 1) hx hb dX12_addRule_58 (by decide) ?_
          refine lv_iadd hx hb dX12_addRule_59 ?_
          refine lv_iconst (v := 4) hx hb dX12_addRule_60 (by decide) ?_
          obtain ⟨r_61, hr_61, hf⟩ := bd_some hf
          refine x_goi (ps := [0, 1]) (qs := [2, 3, 4]) (n := 5) (I' := [[(h, .inr (11, [.ref a_pairs, .ref a_above, .int objects, .int steps, .ref a_sources, .ref a_targets, .ref a_labels, .ref a_lengths, .ref a_letters, .ref a_distances, .ref a_longest, .int firstStep, .int secondStep, .ref a_lengthsTo, .ref a_lengthsFrom, .ref a_path, .int pathLength, .ref a_output, .int outputLength, .ref a_found, .int foundSteps, .ref a_keptLabels, .ref a_keptPairs, .ref a_input, .int r_61.2, .int rules, .ref a_sides, .ref a_sideLengths, .int newObjects, .int newSteps, .ref a_newLengths, .ref a_newLetters, .ref a_newSources, .ref a_newTargets, .ref a_newLabels, .ref a_word, .int wordSize, .ref a_failed, .ref a_sizes, .ref a_arrays, .int hasSnapshot, .int savedObjects, .int savedSteps, .int savedRules, .ref a_savedLengths, .ref a_savedSources, .ref a_savedTargets, .ref a_savedLabels, .ref a_savedSideLengths, .ref a_savedLetters, .ref a_savedSides, .ref a_savedPairs]))], [(a_input, .inl (G 0, 20, .inl input))], [(a_sideLengths, .inl (G 0, 12, .inl sideLengths))], [gO (G 4) a_sides r_sides 12], gI (G 0) r_sides 12 4 sides]) (x_runV (As := [.int v1_16, .int (v2_29 + 1), .int 4]) (rest := []) (ps := [0, 1]) ⟨hx, hb, hml, hown, hts⟩ (k_X12_lettersIn l D G fu h a_pairs a_above a_sources a_targets a_labels a_lengths a_letters a_distances a_longest a_lengthsTo a_lengthsFrom a_path a_output a_found a_keptLabels a_keptPairs a_input a_sides a_sideLengths a_newLengths a_newLetters a_newSources a_newTargets a_newLabels a_word a_failed a_sizes a_arrays a_savedLengths a_savedSources a_savedTargets a_savedLabels a_savedSideLengths a_savedLetters a_savedSides a_savedPairs objects steps firstStep secondStep pathLength outputLength foundSteps r_26.2 rules newObjects newSteps wordSize hasSnapshot savedObjects savedSteps savedRules input v1_16 (v2_29 + 1) 4 r_61 hr_61) (cwV 3 hts gX12_addRule_X12_lettersIn rfl rfl rfl (by decide +kernel) ⟨Nat.le_of_ble_eq_true rfl, Nat.le_of_ble_eq_true rfl⟩) hE hP hN rfl (by decide) 0 rfl rfl rfl hl.1 (Nat.le_of_ble_eq_true rfl) dX12_addRule_61 ⟨Nat.zero_le _, Nat.zero_le _⟩) hP hN hS rfl rfl rfl rfl rfl (by decide) (fun H locs hP hS => ?_)
          obtain ⟨v3_64, e_v3_64, hf⟩ := lt_some hf
          refine x_istore_n (v := v3_64) (lv' := [(3, .int v3_64), (2, .int v2_29), (1, .int v1_16), (0, .ref h)]) hx hb dX12_addRule_64 e_v3_64 rfl hl (by decide) rfl (fun ls hl => ?_)
          refine lv_iload_n hx hb dX12_addRule_65 rfl (lv_at hl 1 rfl) ?_
          refine lv_iconst (v := 1) hx hb dX12_addRule_66 (by decide) ?_
          refine lv_iadd hx hb dX12_addRule_67 ?_
          refine lv_iload_n hx hb dX12_addRule_68 rfl (lv_at hl 0 rfl) ?_
          refine lv_iadd hx hb dX12_addRule_69 ?_
          refine lv_iload_n hx hb dX12_addRule_70 rfl (lv_at hl 2 rfl) ?_
          refine lv_icmp_ge (tgt := 83) hx hb dX12_addRule_71 (by decide) (fun c_71 => ?_) (fun c_71 => ?_)
          · have hf := it_pos c_71 hf
            refine lv_iconst (v := 0) hx hb dX12_addRule_83 (by decide) ?_
            obtain ⟨v4_84, e_v4_84, hf⟩ := lt_some hf
            refine x_istore (v := v4_84) (lv' := [(4, .int v4_84), (3, .int v3_64), (2, .int v2_29), (1, .int v1_16), (0, .ref h)]) hx hb dX12_addRule_84 e_v4_84 hl (by decide) rfl (fun ls hl => ?_)
            exact L86 v2_29 v3_64 r_61.2 rules sideLengths   fu v4_84 sides H locs ls hP hS (lv_sub hl [4, 2, 1, 0] rfl) hf
          · have hf := it_neg c_71 hf
            refine lv_bipush (v := -100) hx hb dX12_addRule_74 (by decide) ?_
            refine lv_iload_n hx hb dX12_addRule_76 rfl (lv_at hl 1 rfl) ?_
            refine lv_isub hx hb dX12_addRule_77 ?_
            refine lv_iconst (v := 1) hx hb dX12_addRule_78 (by decide) ?_
            refine lv_isub hx hb dX12_addRule_79 ?_
            refine lv_iload_n hx hb dX12_addRule_80 rfl (lv_at hl 0 rfl) ?_
            refine lv_isub hx hb dX12_addRule_81 ?_
            have hf := Option.some.inj hf
            rewrite [← hQ, ← hf]
            exact x_iret hx hb hr hlocks hP hS dX12_addRule_82
        · have hf := it_neg c_47 hf
          refine lv_bipush (v := -100) hx hb dX12_addRule_50 (by decide) ?_
          refine lv_iload_n hx hb dX12_addRule_52 rfl (lv_at hl 0 rfl) ?_
          refine lv_isub hx hb dX12_addRule_53 ?_
          have hf := Option.some.inj hf
          rewrite [← hQ, ← hf]
          exact x_iret hx hb hr hlocks hP hS dX12_addRule_54
  · have hf := it_neg (fun h => h c_6) hf
    refine lv_bipush (v := -3) hx hb dX12_addRule_9 (by decide) ?_
    have hf := Option.some.inj hf
    rewrite [← hQ, ← hf]
    exact x_iret hx hb hr hlocks hP hS dX12_addRule_11

set_option maxRecDepth 20000 in
theorem u_X12_isObject_X12 : ∀ w ∈ wsX120, w ∈ wsX12_isObject := xx_pl _ [6, 7, 8, 9, 10, 11, 12, 13, 14, 15, 16, 17, 18, 19, 20, 21, 22, 23, 24, 25, 26, 27, 28, 29, 30, 31, 32, 33, 34, 35, 36, 37, 38, 39, 40, 41, 42, 43, 44, 45, 46, 47, 48, 49, 50, 51, 52, 53, 54, 55, 56, 57] (by decide +kernel)
def f_X12_isObject (objects : Int32) (v1 : Int32) : Option (Int32) :=
  (f_X12_isBetween v1 0 (objects - 1)).bind (fun r_8 => ckb r_8 (some r_8))
set_option maxHeartbeats 4000000 in
set_option maxRecDepth 100000 in
theorem k_X12_isObject (l : Launch) (D : va_G) (G : Nat → ClassId) (fu : Nat) (h : Nat) (a_pairs : Nat) (a_above : Nat) (a_sources : Nat) (a_targets : Nat) (a_labels : Nat) (a_lengths : Nat) (a_letters : Nat) (a_distances : Nat) (a_longest : Nat) (a_lengthsTo : Nat) (a_lengthsFrom : Nat) (a_path : Nat) (a_output : Nat) (a_found : Nat) (a_keptLabels : Nat) (a_keptPairs : Nat) (a_input : Nat) (a_sides : Nat) (a_sideLengths : Nat) (a_newLengths : Nat) (a_newLetters : Nat) (a_newSources : Nat) (a_newTargets : Nat) (a_newLabels : Nat) (a_word : Nat) (a_failed : Nat) (a_sizes : Nat) (a_arrays : Nat) (a_savedLengths : Nat) (a_savedSources : Nat) (a_savedTargets : Nat) (a_savedLabels : Nat) (a_savedSideLengths : Nat) (a_savedLetters : Nat) (a_savedSides : Nat) (a_savedPairs : Nat) (objects : Int32) (steps : Int32) (firstStep : Int32) (secondStep : Int32) (pathLength : Int32) (outputLength : Int32) (foundSteps : Int32) (inputLength : Int32) (rules : Int32) (newObjects : Int32) (newSteps : Int32) (wordSize : Int32) (hasSnapshot : Int32) (savedObjects : Int32) (savedSteps : Int32) (savedRules : Int32)  (v1 : Int32) (out : Int32) (hf : f_X12_isObject objects v1 = some out) : xMet l yX12_isObject wsX12_isObject (rM 1 22) D G [.ref h, .int v1] [[(h, .inr (11, [.ref a_pairs, .ref a_above, .int objects, .int steps, .ref a_sources, .ref a_targets, .ref a_labels, .ref a_lengths, .ref a_letters, .ref a_distances, .ref a_longest, .int firstStep, .int secondStep, .ref a_lengthsTo, .ref a_lengthsFrom, .ref a_path, .int pathLength, .ref a_output, .int outputLength, .ref a_found, .int foundSteps, .ref a_keptLabels, .ref a_keptPairs, .ref a_input, .int inputLength, .int rules, .ref a_sides, .ref a_sideLengths, .int newObjects, .int newSteps, .ref a_newLengths, .ref a_newLetters, .ref a_newSources, .ref a_newTargets, .ref a_newLabels, .ref a_word, .int wordSize, .ref a_failed, .ref a_sizes, .ref a_arrays, .int hasSnapshot, .int savedObjects, .int savedSteps, .int savedRules, .ref a_savedLengths, .ref a_savedSources, .ref a_savedTargets, .ref a_savedLabels, .ref a_savedSideLengths, .ref a_savedLetters, .ref a_savedSides, .ref a_savedPairs]))]] (xQi D [[(h, .inr (11, [.ref a_pairs, .ref a_above, .int objects, .int steps, .ref a_sources, .ref a_targets, .ref a_labels, .ref a_lengths, .ref a_letters, .ref a_distances, .ref a_longest, .int firstStep, .int secondStep, .ref a_lengthsTo, .ref a_lengthsFrom, .ref a_path, .int pathLength, .ref a_output, .int outputLength, .ref a_found, .int foundSteps, .ref a_keptLabels, .ref a_keptPairs, .ref a_input, .int inputLength, .int rules, .ref a_sides, .ref a_sideLengths, .int newObjects, .int newSteps, .ref a_newLengths, .ref a_newLetters, .ref a_newSources, .ref a_newTargets, .ref a_newLabels, .ref a_word, .int wordSize, .ref a_failed, .ref a_sizes, .ref a_arrays, .int hasSnapshot, .int savedObjects, .int savedSteps, .int savedRules, .ref a_savedLengths, .ref a_savedSources, .ref a_savedTargets, .ref a_savedLabels, .ref a_savedSideLengths, .ref a_savedLetters, .ref a_savedSides, .ref a_savedPairs]))]] out) := by
  refine x_ent (cc := cX12_isObject) (maxL := 2) (by decide) rfl (Nat.le_of_ble_eq_true rfl) ?_
  intro p e s m blw meth c aa ls args Q H locs hQ hx hb hr hml hown hts hlocks hE hN hl hP hS
  have hown : s.vm.findClass RX12 = some m.cls := hown
  have hl : lv_has ls 2 [(0, .ref h), (1, .int v1)] := hl
  refine lv_iload_n hx hb dX12_isObject_0 rfl (lv_at hl 1 rfl) ?_
  refine lv_iconst (v := 0) hx hb dX12_isObject_1 (by decide) ?_
  refine lv_aload_n hx hb dX12_isObject_2 rfl (lv_at hl 0 rfl) ?_
  refine x_get hx hb hts u_X12_isObject_X12 hown hE hP 0 rfl rfl 2 (by decide) (hts (.fieldLink RX12 132 "DecreasingDiagramsModel" "objects" "I") (List.mem_of_getElem? (i := 1) rfl)) rfl dX12_isObject_3 ?_
  refine lv_iconst (v := 1) hx hb dX12_isObject_6 (by decide) ?_
  refine lv_isub hx hb dX12_isObject_7 ?_
  obtain ⟨r_8, hr_8, hf⟩ := bd_some hf
  refine x_goi0 (ps := []) (x_runS (As := [.int v1, .int 0, .int (objects - 1)]) (rest := []) (ps := []) ⟨hx, hb, hml, hown, hts⟩ (k_X12_isBetween l D G fu v1 0 (objects - 1) r_8 hr_8) (va_cwS 3 hts gX12_isObject_X12_isBetween rfl rfl rfl (by decide +kernel) ⟨Nat.le_of_ble_eq_true rfl, Nat.le_of_ble_eq_true rfl⟩) hE hP hN rfl (by decide) rfl hl.1 (Nat.le_of_ble_eq_true rfl) dX12_isObject_8 ⟨Nat.zero_le _, Nat.zero_le _⟩) hP hN hS rfl (fun H locs hP hS => ?_)
  obtain ⟨hz, hf⟩ := ckb_some hf
  have hf := Option.some.inj hf
  rewrite [← hQ, ← hf]
  exact x_zret (r := r_8) hx hb hr hlocks hz hP hS dX12_isObject_11

set_option maxRecDepth 20000 in
theorem u_X12_addStep_X12 : ∀ w ∈ wsX120, w ∈ wsX12_addStep := xx_pl _ [17, 18, 19, 20, 21, 22, 23, 24, 25, 26, 27, 28, 29, 30, 31, 32, 33, 34, 35, 36, 37, 38, 39, 40, 41, 42, 43, 44, 45, 46, 47, 48, 49, 50, 51, 52, 53, 54, 55, 56, 57, 58, 59, 60, 61, 62, 63, 64, 65, 66, 67, 68] (by decide +kernel)
def f_X12_addStep (objects : Int32) (steps : Int32) (labels : (Nat → Int32)) (sources : (Nat → Int32)) (targets : (Nat → Int32)) (v1 : Int32) (v2 : Int32) (v3 : Int32) : Option (Int32 × (Nat → Int32) × (Nat → Int32) × Int32 × (Nat → Int32)) :=
  (f_X12_isObject objects v1).bind (fun r_2 => if r_2 = 0 then (some ((-1), labels, sources, steps, targets)) else ((f_X12_isObject objects v2).bind (fun r_10 => if r_10 = 0 then (some ((-1), labels, sources, steps, targets)) else ((f_X12_isLabel v3).bind (fun r_17 => if ¬ r_17 = 0 then (if ¬ steps = 32 then (ck steps 32 (lt (upd sources steps.toNatClampNeg v1) (fun sources_46 => ck steps 32 (lt (upd targets steps.toNatClampNeg v2) (fun targets_56 => ck steps 32 (lt (upd labels steps.toNatClampNeg v3) (fun labels_66 => lt (steps + 1) (fun steps_74 => some (steps_74 - 1, labels_66, sources_46, steps_74, targets_56))))))))) else (some ((-3), labels, sources, steps, targets))) else (some ((-1), labels, sources, steps, targets)))))))
set_option maxHeartbeats 4000000 in
set_option maxRecDepth 100000 in
theorem k_X12_addStep (l : Launch) (D : va_G) (G : Nat → ClassId) (fu : Nat) (h : Nat) (a_pairs : Nat) (a_above : Nat) (a_sources : Nat) (a_targets : Nat) (a_labels : Nat) (a_lengths : Nat) (a_letters : Nat) (a_distances : Nat) (a_longest : Nat) (a_lengthsTo : Nat) (a_lengthsFrom : Nat) (a_path : Nat) (a_output : Nat) (a_found : Nat) (a_keptLabels : Nat) (a_keptPairs : Nat) (a_input : Nat) (a_sides : Nat) (a_sideLengths : Nat) (a_newLengths : Nat) (a_newLetters : Nat) (a_newSources : Nat) (a_newTargets : Nat) (a_newLabels : Nat) (a_word : Nat) (a_failed : Nat) (a_sizes : Nat) (a_arrays : Nat) (a_savedLengths : Nat) (a_savedSources : Nat) (a_savedTargets : Nat) (a_savedLabels : Nat) (a_savedSideLengths : Nat) (a_savedLetters : Nat) (a_savedSides : Nat) (a_savedPairs : Nat) (objects : Int32) (steps : Int32) (firstStep : Int32) (secondStep : Int32) (pathLength : Int32) (outputLength : Int32) (foundSteps : Int32) (inputLength : Int32) (rules : Int32) (newObjects : Int32) (newSteps : Int32) (wordSize : Int32) (hasSnapshot : Int32) (savedObjects : Int32) (savedSteps : Int32) (savedRules : Int32) (labels : (Nat → Int32)) (sources : (Nat → Int32)) (targets : (Nat → Int32))  (v1 : Int32) (v2 : Int32) (v3 : Int32) (out : Int32 × (Nat → Int32) × (Nat → Int32) × Int32 × (Nat → Int32)) (hf : f_X12_addStep objects steps labels sources targets v1 v2 v3 = some out) : xMet l yX12_addStep wsX12_addStep (rM 2 43) D G [.ref h, .int v1, .int v2, .int v3] [[(h, .inr (11, [.ref a_pairs, .ref a_above, .int objects, .int steps, .ref a_sources, .ref a_targets, .ref a_labels, .ref a_lengths, .ref a_letters, .ref a_distances, .ref a_longest, .int firstStep, .int secondStep, .ref a_lengthsTo, .ref a_lengthsFrom, .ref a_path, .int pathLength, .ref a_output, .int outputLength, .ref a_found, .int foundSteps, .ref a_keptLabels, .ref a_keptPairs, .ref a_input, .int inputLength, .int rules, .ref a_sides, .ref a_sideLengths, .int newObjects, .int newSteps, .ref a_newLengths, .ref a_newLetters, .ref a_newSources, .ref a_newTargets, .ref a_newLabels, .ref a_word, .int wordSize, .ref a_failed, .ref a_sizes, .ref a_arrays, .int hasSnapshot, .int savedObjects, .int savedSteps, .int savedRules, .ref a_savedLengths, .ref a_savedSources, .ref a_savedTargets, .ref a_savedLabels, .ref a_savedSideLengths, .ref a_savedLetters, .ref a_savedSides, .ref a_savedPairs]))], [(a_labels, .inl (G 0, 32, .inl labels))], [(a_sources, .inl (G 0, 32, .inl sources))], [(a_targets, .inl (G 0, 32, .inl targets))]] (xQi D [[(h, .inr (11, [.ref a_pairs, .ref a_above, .int objects, .int out.2.2.2.1, .ref a_sources, .ref a_targets, .ref a_labels, .ref a_lengths, .ref a_letters, .ref a_distances, .ref a_longest, .int firstStep, .int secondStep, .ref a_lengthsTo, .ref a_lengthsFrom, .ref a_path, .int pathLength, .ref a_output, .int outputLength, .ref a_found, .int foundSteps, .ref a_keptLabels, .ref a_keptPairs, .ref a_input, .int inputLength, .int rules, .ref a_sides, .ref a_sideLengths, .int newObjects, .int newSteps, .ref a_newLengths, .ref a_newLetters, .ref a_newSources, .ref a_newTargets, .ref a_newLabels, .ref a_word, .int wordSize, .ref a_failed, .ref a_sizes, .ref a_arrays, .int hasSnapshot, .int savedObjects, .int savedSteps, .int savedRules, .ref a_savedLengths, .ref a_savedSources, .ref a_savedTargets, .ref a_savedLabels, .ref a_savedSideLengths, .ref a_savedLetters, .ref a_savedSides, .ref a_savedPairs]))], [(a_labels, .inl (G 0, 32, .inl out.2.1))], [(a_sources, .inl (G 0, 32, .inl out.2.2.1))], [(a_targets, .inl (G 0, 32, .inl out.2.2.2.2))]] out.1) := by
  refine x_ent (cc := cX12_addStep) (maxL := 4) (by decide) rfl (Nat.le_of_ble_eq_true rfl) ?_
  intro p e s m blw meth c aa ls args Q H locs hQ hx hb hr hml hown hts hlocks hE hN hl hP hS
  have hown : s.vm.findClass RX12 = some m.cls := hown
  have hl : lv_has ls 4 [(0, .ref h), (1, .int v1), (2, .int v2), (3, .int v3)] := hl
  refine lv_aload_n hx hb dX12_addStep_0 rfl (lv_at hl 0 rfl) ?_
  refine lv_iload_n hx hb dX12_addStep_1 rfl (lv_at hl 1 rfl) ?_
  obtain ⟨r_2, hr_2, hf⟩ := bd_some hf
  refine x_goi0 (ps := [0]) (x_runV (As := [.int v1]) (rest := []) (ps := [0]) ⟨hx, hb, hml, hown, hts⟩ (k_X12_isObject l D G fu h a_pairs a_above a_sources a_targets a_labels a_lengths a_letters a_distances a_longest a_lengthsTo a_lengthsFrom a_path a_output a_found a_keptLabels a_keptPairs a_input a_sides a_sideLengths a_newLengths a_newLetters a_newSources a_newTargets a_newLabels a_word a_failed a_sizes a_arrays a_savedLengths a_savedSources a_savedTargets a_savedLabels a_savedSideLengths a_savedLetters a_savedSides a_savedPairs objects steps firstStep secondStep pathLength outputLength foundSteps inputLength rules newObjects newSteps wordSize hasSnapshot savedObjects savedSteps savedRules v1 r_2 hr_2) (cwV 1 hts gX12_addStep_X12_isObject rfl rfl rfl (by decide +kernel) ⟨Nat.le_of_ble_eq_true rfl, Nat.le_of_ble_eq_true rfl⟩) hE hP hN rfl (by decide) 0 rfl rfl rfl hl.1 (Nat.le_of_ble_eq_true rfl) dX12_addStep_2 ⟨Nat.zero_le _, Nat.zero_le _⟩) hP hN hS rfl (fun H locs hP hS => ?_)
  refine lv_if_eq (tgt := 23) hx hb dX12_addStep_5 (by decide) (fun c_5 => ?_) (fun c_5 => ?_)
  · have hf := it_pos c_5 hf
    refine lv_iconst (v := -1) hx hb dX12_addStep_23 (by decide) ?_
    have hf := Option.some.inj hf
    rewrite [← hQ, ← hf]
    exact x_iret hx hb hr hlocks hP hS dX12_addStep_24
  · have hf := it_neg c_5 hf
    refine lv_aload_n hx hb dX12_addStep_8 rfl (lv_at hl 0 rfl) ?_
    refine lv_iload_n hx hb dX12_addStep_9 rfl (lv_at hl 2 rfl) ?_
    obtain ⟨r_10, hr_10, hf⟩ := bd_some hf
    refine x_goi0 (ps := [0]) (x_runV (As := [.int v2]) (rest := []) (ps := [0]) ⟨hx, hb, hml, hown, hts⟩ (k_X12_isObject l D G fu h a_pairs a_above a_sources a_targets a_labels a_lengths a_letters a_distances a_longest a_lengthsTo a_lengthsFrom a_path a_output a_found a_keptLabels a_keptPairs a_input a_sides a_sideLengths a_newLengths a_newLetters a_newSources a_newTargets a_newLabels a_word a_failed a_sizes a_arrays a_savedLengths a_savedSources a_savedTargets a_savedLabels a_savedSideLengths a_savedLetters a_savedSides a_savedPairs objects steps firstStep secondStep pathLength outputLength foundSteps inputLength rules newObjects newSteps wordSize hasSnapshot savedObjects savedSteps savedRules v2 r_10 hr_10) (cwV 1 hts gX12_addStep_X12_isObject rfl rfl rfl (by decide +kernel) ⟨Nat.le_of_ble_eq_true rfl, Nat.le_of_ble_eq_true rfl⟩) hE hP hN rfl (by decide) 0 rfl rfl rfl hl.1 (Nat.le_of_ble_eq_true rfl) dX12_addStep_10 ⟨Nat.zero_le _, Nat.zero_le _⟩) hP hN hS rfl (fun H locs hP hS => ?_)
    refine lv_if_eq (tgt := 23) hx hb dX12_addStep_13 (by decide) (fun c_13 => ?_) (fun c_13 => ?_)
    · have hf := it_pos c_13 hf
      refine lv_iconst (v := -1) hx hb dX12_addStep_23 (by decide) ?_
      have hf := Option.some.inj hf
      rewrite [← hQ, ← hf]
      exact x_iret hx hb hr hlocks hP hS dX12_addStep_24
    · have hf := it_neg c_13 hf
      refine lv_iload_n hx hb dX12_addStep_16 rfl (lv_at hl 3 rfl) ?_
      obtain ⟨r_17, hr_17, hf⟩ := bd_some hf
      refine x_goi0 (ps := []) (x_runS (As := [.int v3]) (rest := []) (ps := []) ⟨hx, hb, hml, hown, hts⟩ (k_X12_isLabel l D G fu v3 r_17 hr_17) (va_cwS 1 hts gX12_addStep_X12_isLabel rfl rfl rfl (by decide +kernel) ⟨Nat.le_of_ble_eq_true rfl, Nat.le_of_ble_eq_true rfl⟩) hE hP hN rfl (by decide) rfl hl.1 (Nat.le_of_ble_eq_true rfl) dX12_addStep_17 ⟨Nat.zero_le _, Nat.zero_le _⟩) hP hN hS rfl (fun H locs hP hS => ?_)
      refine lv_if_ne (tgt := 25) hx hb dX12_addStep_20 (by decide) (fun c_20 => ?_) (fun c_20 => ?_)
      · have hf := it_pos c_20 hf
        refine lv_aload_n hx hb dX12_addStep_25 rfl (lv_at hl 0 rfl) ?_
        refine x_get hx hb hts u_X12_addStep_X12 hown hE hP 0 rfl rfl 3 (by decide) (hts (.fieldLink RX12 135 "DecreasingDiagramsModel" "steps" "I") (List.mem_of_getElem? (i := 1) rfl)) rfl dX12_addStep_26 ?_
        refine lv_bipush (v := 32) hx hb dX12_addStep_29 (by decide) ?_
        refine lv_icmp_ne (tgt := 37) hx hb dX12_addStep_31 (by decide) (fun c_31 => ?_) (fun c_31 => ?_)
        · have hf := it_pos c_31 hf
          refine lv_aload_n hx hb dX12_addStep_37 rfl (lv_at hl 0 rfl) ?_
          refine x_get hx hb hts u_X12_addStep_X12 hown hE hP 0 rfl rfl 4 (by decide) (hts (.fieldLink RX12 17 "DecreasingDiagramsModel" "sources" "[I") (List.mem_of_getElem? (i := 2) rfl)) rfl dX12_addStep_38 ?_
          refine lv_aload_n hx hb dX12_addStep_41 rfl (lv_at hl 0 rfl) ?_
          refine x_get hx hb hts u_X12_addStep_X12 hown hE hP 0 rfl rfl 3 (by decide) (hts (.fieldLink RX12 135 "DecreasingDiagramsModel" "steps" "I") (List.mem_of_getElem? (i := 1) rfl)) rfl dX12_addStep_42 ?_
          refine lv_iload_n hx hb dX12_addStep_45 rfl (lv_at hl 1 rfl) ?_
          obtain ⟨hi, hf⟩ := ck_some hf
          obtain ⟨sources_46, e_sources_46, hf⟩ := lt_some hf
          refine x_iast (I' := [[(h, .inr (11, [.ref a_pairs, .ref a_above, .int objects, .int steps, .ref a_sources, .ref a_targets, .ref a_labels, .ref a_lengths, .ref a_letters, .ref a_distances, .ref a_longest, .int firstStep, .int secondStep, .ref a_lengthsTo, .ref a_lengthsFrom, .ref a_path, .int pathLength, .ref a_output, .int outputLength, .ref a_found, .int foundSteps, .ref a_keptLabels, .ref a_keptPairs, .ref a_input, .int inputLength, .int rules, .ref a_sides, .ref a_sideLengths, .int newObjects, .int newSteps, .ref a_newLengths, .ref a_newLetters, .ref a_newSources, .ref a_newTargets, .ref a_newLabels, .ref a_word, .int wordSize, .ref a_failed, .ref a_sizes, .ref a_arrays, .int hasSnapshot, .int savedObjects, .int savedSteps, .int savedRules, .ref a_savedLengths, .ref a_savedSources, .ref a_savedTargets, .ref a_savedLabels, .ref a_savedSideLengths, .ref a_savedLetters, .ref a_savedSides, .ref a_savedPairs]))], [(a_labels, .inl (G 0, 32, .inl labels))], [(a_sources, .inl (G 0, 32, .inl sources_46))], [(a_targets, .inl (G 0, 32, .inl targets))]]) hx hb hE hP hN hS 2 rfl hi e_sources_46 rfl dX12_addStep_46 (fun H locs hP hS => ?_)
          refine lv_aload_n hx hb dX12_addStep_47 rfl (lv_at hl 0 rfl) ?_
          refine x_get hx hb hts u_X12_addStep_X12 hown hE hP 0 rfl rfl 5 (by decide) (hts (.fieldLink RX12 21 "DecreasingDiagramsModel" "targets" "[I") (List.mem_of_getElem? (i := 3) rfl)) rfl dX12_addStep_48 ?_
          refine lv_aload_n hx hb dX12_addStep_51 rfl (lv_at hl 0 rfl) ?_
          refine x_get hx hb hts u_X12_addStep_X12 hown hE hP 0 rfl rfl 3 (by decide) (hts (.fieldLink RX12 135 "DecreasingDiagramsModel" "steps" "I") (List.mem_of_getElem? (i := 1) rfl)) rfl dX12_addStep_52 ?_
          refine lv_iload_n hx hb dX12_addStep_55 rfl (lv_at hl 2 rfl) ?_
          obtain ⟨hi, hf⟩ := ck_some hf
          obtain ⟨targets_56, e_targets_56, hf⟩ := lt_some hf
          refine x_iast (I' := [[(h, .inr (11, [.ref a_pairs, .ref a_above, .int objects, .int steps, .ref a_sources, .ref a_targets, .ref a_labels, .ref a_lengths, .ref a_letters, .ref a_distances, .ref a_longest, .int firstStep, .int secondStep, .ref a_lengthsTo, .ref a_lengthsFrom, .ref a_path, .int pathLength, .ref a_output, .int outputLength, .ref a_found, .int foundSteps, .ref a_keptLabels, .ref a_keptPairs, .ref a_input, .int inputLength, .int rules, .ref a_sides, .ref a_sideLengths, .int newObjects, .int newSteps, .ref a_newLengths, .ref a_newLetters, .ref a_newSources, .ref a_newTargets, .ref a_newLabels, .ref a_word, .int wordSize, .ref a_failed, .ref a_sizes, .ref a_arrays, .int hasSnapshot, .int savedObjects, .int savedSteps, .int savedRules, .ref a_savedLengths, .ref a_savedSources, .ref a_savedTargets, .ref a_savedLabels, .ref a_savedSideLengths, .ref a_savedLetters, .ref a_savedSides, .ref a_savedPairs]))], [(a_labels, .inl (G 0, 32, .inl labels))], [(a_sources, .inl (G 0, 32, .inl sources_46))], [(a_targets, .inl (G 0, 32, .inl targets_56))]]) hx hb hE hP hN hS 3 rfl hi e_targets_56 rfl dX12_addStep_56 (fun H locs hP hS => ?_)
          refine lv_aload_n hx hb dX12_addStep_57 rfl (lv_at hl 0 rfl) ?_
          refine x_get hx hb hts u_X12_addStep_X12 hown hE hP 0 rfl rfl 6 (by decide) (hts (.fieldLink RX12 24 "DecreasingDiagramsModel" "labels" "[I") (List.mem_of_getElem? (i := 4) rfl)) rfl dX12_addStep_58 ?_
          refine lv_aload_n hx hb dX12_addStep_61 rfl (lv_at hl 0 rfl) ?_
          refine x_get hx hb hts u_X12_addStep_X12 hown hE hP 0 rfl rfl 3 (by decide) (hts (.fieldLink RX12 135 "DecreasingDiagramsModel" "steps" "I") (List.mem_of_getElem? (i := 1) rfl)) rfl dX12_addStep_62 ?_
          refine lv_iload_n hx hb dX12_addStep_65 rfl (lv_at hl 3 rfl) ?_
          obtain ⟨hi, hf⟩ := ck_some hf
          obtain ⟨labels_66, e_labels_66, hf⟩ := lt_some hf
          refine x_iast (I' := [[(h, .inr (11, [.ref a_pairs, .ref a_above, .int objects, .int steps, .ref a_sources, .ref a_targets, .ref a_labels, .ref a_lengths, .ref a_letters, .ref a_distances, .ref a_longest, .int firstStep, .int secondStep, .ref a_lengthsTo, .ref a_lengthsFrom, .ref a_path, .int pathLength, .ref a_output, .int outputLength, .ref a_found, .int foundSteps, .ref a_keptLabels, .ref a_keptPairs, .ref a_input, .int inputLength, .int rules, .ref a_sides, .ref a_sideLengths, .int newObjects, .int newSteps, .ref a_newLengths, .ref a_newLetters, .ref a_newSources, .ref a_newTargets, .ref a_newLabels, .ref a_word, .int wordSize, .ref a_failed, .ref a_sizes, .ref a_arrays, .int hasSnapshot, .int savedObjects, .int savedSteps, .int savedRules, .ref a_savedLengths, .ref a_savedSources, .ref a_savedTargets, .ref a_savedLabels, .ref a_savedSideLengths, .ref a_savedLetters, .ref a_savedSides, .ref a_savedPairs]))], [(a_labels, .inl (G 0, 32, .inl labels_66))], [(a_sources, .inl (G 0, 32, .inl sources_46))], [(a_targets, .inl (G 0, 32, .inl targets_56))]]) hx hb hE hP hN hS 1 rfl hi e_labels_66 rfl dX12_addStep_66 (fun H locs hP hS => ?_)
          refine lv_aload_n hx hb dX12_addStep_67 rfl (lv_at hl 0 rfl) ?_
          refine lv_dup hx hb dX12_addStep_68 rfl ?_
          refine x_get hx hb hts u_X12_addStep_X12 hown hE hP 0 rfl rfl 3 (by decide) (hts (.fieldLink RX12 135 "DecreasingDiagramsModel" "steps" "I") (List.mem_of_getElem? (i := 1) rfl)) rfl dX12_addStep_69 ?_
          refine lv_iconst (v := 1) hx hb dX12_addStep_72 (by decide) ?_
          refine lv_iadd hx hb dX12_addStep_73 ?_
          obtain ⟨steps_74, e_steps_74, hf⟩ := lt_some hf
          refine x_put (w := .int steps_74) (ty := .int) (I' := [[(h, .inr (11, [.ref a_pairs, .ref a_above, .int objects, .int steps_74, .ref a_sources, .ref a_targets, .ref a_labels, .ref a_lengths, .ref a_letters, .ref a_distances, .ref a_longest, .int firstStep, .int secondStep, .ref a_lengthsTo, .ref a_lengthsFrom, .ref a_path, .int pathLength, .ref a_output, .int outputLength, .ref a_found, .int foundSteps, .ref a_keptLabels, .ref a_keptPairs, .ref a_input, .int inputLength, .int rules, .ref a_sides, .ref a_sideLengths, .int newObjects, .int newSteps, .ref a_newLengths, .ref a_newLetters, .ref a_newSources, .ref a_newTargets, .ref a_newLabels, .ref a_word, .int wordSize, .ref a_failed, .ref a_sizes, .ref a_arrays, .int hasSnapshot, .int savedObjects, .int savedSteps, .int savedRules, .ref a_savedLengths, .ref a_savedSources, .ref a_savedTargets, .ref a_savedLabels, .ref a_savedSideLengths, .ref a_savedLetters, .ref a_savedSides, .ref a_savedPairs]))], [(a_labels, .inl (G 0, 32, .inl labels_66))], [(a_sources, .inl (G 0, 32, .inl sources_46))], [(a_targets, .inl (G 0, 32, .inl targets_56))]]) hx hb hts u_X12_addStep_X12 tyX12 tyX12_ok nmX12 hown hE hP hN hS 0 rfl rfl 3 (by decide) (hts (.fieldLink RX12 135 "DecreasingDiagramsModel" "steps" "I") (List.mem_of_getElem? (i := 1) rfl)) rfl (congrArg Value.int e_steps_74) (by decide +kernel) rfl rfl (Nat.le_of_ble_eq_true rfl) rfl dX12_addStep_74 (fun H locs hP hS => ?_)
          refine lv_aload_n hx hb dX12_addStep_77 rfl (lv_at hl 0 rfl) ?_
          refine x_get hx hb hts u_X12_addStep_X12 hown hE hP 0 rfl rfl 3 (by decide) (hts (.fieldLink RX12 135 "DecreasingDiagramsModel" "steps" "I") (List.mem_of_getElem? (i := 1) rfl)) rfl dX12_addStep_78 ?_
          refine lv_iconst (v := 1) hx hb dX12_addStep_81 (by decide) ?_
          refine lv_isub hx hb dX12_addStep_82 ?_
          have hf := Option.some.inj hf
          rewrite [← hQ, ← hf]
          exact x_iret hx hb hr hlocks hP hS dX12_addStep_83
        · have hf := it_neg (fun h => h c_31) hf
          refine lv_bipush (v := -3) hx hb dX12_addStep_34 (by decide) ?_
          have hf := Option.some.inj hf
          rewrite [← hQ, ← hf]
          exact x_iret hx hb hr hlocks hP hS dX12_addStep_36
      · have hf := it_neg (fun h => h c_20) hf
        refine lv_iconst (v := -1) hx hb dX12_addStep_23 (by decide) ?_
        have hf := Option.some.inj hf
        rewrite [← hQ, ← hf]
        exact x_iret hx hb hr hlocks hP hS dX12_addStep_24

set_option maxRecDepth 20000 in
theorem u_X12_addWord_X12 : ∀ w ∈ wsX120, w ∈ wsX12_addWord := xx_pl _ [6, 7, 8, 9, 10, 11, 12, 13, 14, 15, 16, 17, 18, 19, 20, 21, 22, 23, 24, 25, 26, 27, 28, 29, 30, 31, 32, 33, 34, 35, 36, 37, 38, 39, 40, 41, 42, 43, 44, 45, 46, 47, 48, 49, 50, 51, 52, 53, 54, 55, 56, 57] (by decide +kernel)
def f_X12_addWord_J46  (newLengths : (Nat → Int32)) (newLetters : (Nat → Nat → Int32)) (newObjects : Int32) : Option ((Nat → Int32) × (Nat → Nat → Int32) × Int32) :=
  lt (newObjects + 1) (fun newObjects_53 => some (newLengths, newLetters, newObjects_53))
def f_X12_addWord_L15 (newObjects : Int32) (wordSize : Int32) (newLengths : (Nat → Int32)) (word : (Nat → Int32)) (rec_15 : Int32 → (Nat → Nat → Int32) → Option ((Nat → Int32) × (Nat → Nat → Int32) × Int32)) (v1 : Int32) (newLetters : (Nat → Nat → Int32)) : Option ((Nat → Int32) × (Nat → Nat → Int32) × Int32) :=
  if wordSize ≤ v1 then (f_X12_addWord_J46 newLengths newLetters newObjects) else (ck newObjects 16 (ck v1 16 (ck v1 8 (lt (up2 newLetters newObjects.toNatClampNeg v1.toNatClampNeg (word v1.toNatClampNeg)) (fun newLetters_39 => lt (v1 + 1) (fun v1_40 => rec_15 v1_40 newLetters_39))))))
def f_X12_addWord (fu : Nat) (newObjects : Int32) (wordSize : Int32) (newLengths : (Nat → Int32)) (newLetters : (Nat → Nat → Int32)) (word : (Nat → Int32)) : Option ((Nat → Int32) × (Nat → Nat → Int32) × Int32) :=
  ck newObjects 16 (lt (upd newLengths newObjects.toNatClampNeg wordSize) (fun newLengths_12 => lt (0 : Int32) (fun v1_14 => lp (τ := Int32 → (Nat → Nat → Int32) → Option ((Nat → Int32) × (Nat → Nat → Int32) × Int32)) (fun _ _ => none) (f_X12_addWord_L15 newObjects wordSize newLengths_12 word) fu v1_14 newLetters)))
set_option maxHeartbeats 4000000 in
set_option maxRecDepth 100000 in
theorem k_X12_addWord (l : Launch) (D : va_G) (G : Nat → ClassId) (fu : Nat) (h : Nat) (a_pairs : Nat) (a_above : Nat) (a_sources : Nat) (a_targets : Nat) (a_labels : Nat) (a_lengths : Nat) (a_letters : Nat) (a_distances : Nat) (a_longest : Nat) (a_lengthsTo : Nat) (a_lengthsFrom : Nat) (a_path : Nat) (a_output : Nat) (a_found : Nat) (a_keptLabels : Nat) (a_keptPairs : Nat) (a_input : Nat) (a_sides : Nat) (a_sideLengths : Nat) (a_newLengths : Nat) (a_newLetters : Nat) (a_newSources : Nat) (a_newTargets : Nat) (a_newLabels : Nat) (a_word : Nat) (a_failed : Nat) (a_sizes : Nat) (a_arrays : Nat) (a_savedLengths : Nat) (a_savedSources : Nat) (a_savedTargets : Nat) (a_savedLabels : Nat) (a_savedSideLengths : Nat) (a_savedLetters : Nat) (a_savedSides : Nat) (a_savedPairs : Nat) (r_newLetters : Nat → Nat) (objects : Int32) (steps : Int32) (firstStep : Int32) (secondStep : Int32) (pathLength : Int32) (outputLength : Int32) (foundSteps : Int32) (inputLength : Int32) (rules : Int32) (newObjects : Int32) (newSteps : Int32) (wordSize : Int32) (hasSnapshot : Int32) (savedObjects : Int32) (savedSteps : Int32) (savedRules : Int32) (newLengths : (Nat → Int32)) (newLetters : (Nat → Nat → Int32)) (word : (Nat → Int32))   (out : (Nat → Int32) × (Nat → Nat → Int32) × Int32) (hf : f_X12_addWord fu newObjects wordSize newLengths newLetters word = some out) : xMet l yX12_addWord wsX12_addWord (rM 0 0) D G [.ref h] [[(h, .inr (11, [.ref a_pairs, .ref a_above, .int objects, .int steps, .ref a_sources, .ref a_targets, .ref a_labels, .ref a_lengths, .ref a_letters, .ref a_distances, .ref a_longest, .int firstStep, .int secondStep, .ref a_lengthsTo, .ref a_lengthsFrom, .ref a_path, .int pathLength, .ref a_output, .int outputLength, .ref a_found, .int foundSteps, .ref a_keptLabels, .ref a_keptPairs, .ref a_input, .int inputLength, .int rules, .ref a_sides, .ref a_sideLengths, .int newObjects, .int newSteps, .ref a_newLengths, .ref a_newLetters, .ref a_newSources, .ref a_newTargets, .ref a_newLabels, .ref a_word, .int wordSize, .ref a_failed, .ref a_sizes, .ref a_arrays, .int hasSnapshot, .int savedObjects, .int savedSteps, .int savedRules, .ref a_savedLengths, .ref a_savedSources, .ref a_savedTargets, .ref a_savedLabels, .ref a_savedSideLengths, .ref a_savedLetters, .ref a_savedSides, .ref a_savedPairs]))], [(a_newLengths, .inl (G 0, 16, .inl newLengths))], [gO (G 4) a_newLetters r_newLetters 16], gI (G 0) r_newLetters 16 8 newLetters, [(a_word, .inl (G 0, 16, .inl word))]] (xQv D [[(h, .inr (11, [.ref a_pairs, .ref a_above, .int objects, .int steps, .ref a_sources, .ref a_targets, .ref a_labels, .ref a_lengths, .ref a_letters, .ref a_distances, .ref a_longest, .int firstStep, .int secondStep, .ref a_lengthsTo, .ref a_lengthsFrom, .ref a_path, .int pathLength, .ref a_output, .int outputLength, .ref a_found, .int foundSteps, .ref a_keptLabels, .ref a_keptPairs, .ref a_input, .int inputLength, .int rules, .ref a_sides, .ref a_sideLengths, .int out.2.2, .int newSteps, .ref a_newLengths, .ref a_newLetters, .ref a_newSources, .ref a_newTargets, .ref a_newLabels, .ref a_word, .int wordSize, .ref a_failed, .ref a_sizes, .ref a_arrays, .int hasSnapshot, .int savedObjects, .int savedSteps, .int savedRules, .ref a_savedLengths, .ref a_savedSources, .ref a_savedTargets, .ref a_savedLabels, .ref a_savedSideLengths, .ref a_savedLetters, .ref a_savedSides, .ref a_savedPairs]))], [(a_newLengths, .inl (G 0, 16, .inl out.1))], [gO (G 4) a_newLetters r_newLetters 16], gI (G 0) r_newLetters 16 8 out.2.1, [(a_word, .inl (G 0, 16, .inl word))]]) := by
  refine x_ent (cc := cX12_addWord) (maxL := 2) (by decide) rfl (Nat.le_of_ble_eq_true rfl) ?_
  intro p e s m blw meth c aa ls args Q H locs hQ hx hb hr hml hown hts hlocks hE hN hl hP hS
  have hown : s.vm.findClass RX12 = some m.cls := hown
  have hl : lv_has ls 2 [(0, .ref h)] := hl
  have J46 : ∀ (newLengths : (Nat → Int32)) (newLetters : (Nat → Nat → Int32)) (newObjects : Int32) (H : Heap) (locs : List Loc) (ls : Array Slot), xW D aa [[(h, .inr (11, [.ref a_pairs, .ref a_above, .int objects, .int steps, .ref a_sources, .ref a_targets, .ref a_labels, .ref a_lengths, .ref a_letters, .ref a_distances, .ref a_longest, .int firstStep, .int secondStep, .ref a_lengthsTo, .ref a_lengthsFrom, .ref a_path, .int pathLength, .ref a_output, .int outputLength, .ref a_found, .int foundSteps, .ref a_keptLabels, .ref a_keptPairs, .ref a_input, .int inputLength, .int rules, .ref a_sides, .ref a_sideLengths, .int newObjects, .int newSteps, .ref a_newLengths, .ref a_newLetters, .ref a_newSources, .ref a_newTargets, .ref a_newLabels, .ref a_word, .int wordSize, .ref a_failed, .ref a_sizes, .ref a_arrays, .int hasSnapshot, .int savedObjects, .int savedSteps, .int savedRules, .ref a_savedLengths, .ref a_savedSources, .ref a_savedTargets, .ref a_savedLabels, .ref a_savedSideLengths, .ref a_savedLetters, .ref a_savedSides, .ref a_savedPairs]))], [(a_newLengths, .inl (G 0, 16, .inl newLengths))], [gO (G 4) a_newLetters r_newLetters 16], gI (G 0) r_newLetters 16 8 newLetters, [(a_word, .inl (G 0, 16, .inl word))]] H → va_S (xA aa) s.heap H locs → lv_has ls 2 [(0, .ref h)] → f_X12_addWord_J46  newLengths newLetters newObjects = some out → W p l e (rM 0 0) s m args blw meth c H locs 0 0 Q (F0 m 46 ls []) := by
    intro newLengths newLetters newObjects  H locs ls  hP hS hl hf
    refine lv_aload_n hx hb dX12_addWord_46 rfl (lv_at hl 0 rfl) ?_
    refine lv_dup hx hb dX12_addWord_47 rfl ?_
    refine x_get hx hb hts u_X12_addWord_X12 hown hE hP 0 rfl rfl 28 (by decide) (hts (.fieldLink RX12 268 "DecreasingDiagramsModel" "newObjects" "I") (List.mem_of_getElem? (i := 2) rfl)) rfl dX12_addWord_48 ?_
    refine lv_iconst (v := 1) hx hb dX12_addWord_51 (by decide) ?_
    refine lv_iadd hx hb dX12_addWord_52 ?_
    obtain ⟨newObjects_53, e_newObjects_53, hf⟩ := lt_some hf
    refine x_put (w := .int newObjects_53) (ty := .int) (I' := [[(h, .inr (11, [.ref a_pairs, .ref a_above, .int objects, .int steps, .ref a_sources, .ref a_targets, .ref a_labels, .ref a_lengths, .ref a_letters, .ref a_distances, .ref a_longest, .int firstStep, .int secondStep, .ref a_lengthsTo, .ref a_lengthsFrom, .ref a_path, .int pathLength, .ref a_output, .int outputLength, .ref a_found, .int foundSteps, .ref a_keptLabels, .ref a_keptPairs, .ref a_input, .int inputLength, .int rules, .ref a_sides, .ref a_sideLengths, .int newObjects_53, .int newSteps, .ref a_newLengths, .ref a_newLetters, .ref a_newSources, .ref a_newTargets, .ref a_newLabels, .ref a_word, .int wordSize, .ref a_failed, .ref a_sizes, .ref a_arrays, .int hasSnapshot, .int savedObjects, .int savedSteps, .int savedRules, .ref a_savedLengths, .ref a_savedSources, .ref a_savedTargets, .ref a_savedLabels, .ref a_savedSideLengths, .ref a_savedLetters, .ref a_savedSides, .ref a_savedPairs]))], [(a_newLengths, .inl (G 0, 16, .inl newLengths))], [gO (G 4) a_newLetters r_newLetters 16], gI (G 0) r_newLetters 16 8 newLetters, [(a_word, .inl (G 0, 16, .inl word))]]) hx hb hts u_X12_addWord_X12 tyX12 tyX12_ok nmX12 hown hE hP hN hS 0 rfl rfl 28 (by decide) (hts (.fieldLink RX12 268 "DecreasingDiagramsModel" "newObjects" "I") (List.mem_of_getElem? (i := 2) rfl)) rfl (congrArg Value.int e_newObjects_53) (by decide +kernel) rfl rfl (Nat.le_of_ble_eq_true rfl) rfl dX12_addWord_53 (fun H locs hP hS => ?_)
    have hf := Option.some.inj hf
    rewrite [← hQ, ← hf]
    exact x_vret hx hb hr hlocks hP hS dX12_addWord_56
  have L15 : ∀ (newLengths : (Nat → Int32)) (newObjects : Int32), ∀ (n_15 : Nat) (v1 : Int32) (newLetters : (Nat → Nat → Int32)) (H : Heap) (locs : List Loc) (ls : Array Slot), xW D aa [[(h, .inr (11, [.ref a_pairs, .ref a_above, .int objects, .int steps, .ref a_sources, .ref a_targets, .ref a_labels, .ref a_lengths, .ref a_letters, .ref a_distances, .ref a_longest, .int firstStep, .int secondStep, .ref a_lengthsTo, .ref a_lengthsFrom, .ref a_path, .int pathLength, .ref a_output, .int outputLength, .ref a_found, .int foundSteps, .ref a_keptLabels, .ref a_keptPairs, .ref a_input, .int inputLength, .int rules, .ref a_sides, .ref a_sideLengths, .int newObjects, .int newSteps, .ref a_newLengths, .ref a_newLetters, .ref a_newSources, .ref a_newTargets, .ref a_newLabels, .ref a_word, .int wordSize, .ref a_failed, .ref a_sizes, .ref a_arrays, .int hasSnapshot, .int savedObjects, .int savedSteps, .int savedRules, .ref a_savedLengths, .ref a_savedSources, .ref a_savedTargets, .ref a_savedLabels, .ref a_savedSideLengths, .ref a_savedLetters, .ref a_savedSides, .ref a_savedPairs]))], [(a_newLengths, .inl (G 0, 16, .inl newLengths))], [gO (G 4) a_newLetters r_newLetters 16], gI (G 0) r_newLetters 16 8 newLetters, [(a_word, .inl (G 0, 16, .inl word))]] H → va_S (xA aa) s.heap H locs → lv_has ls 2 [(0, .ref h), (1, .int v1)] → lp (τ := Int32 → (Nat → Nat → Int32) → Option ((Nat → Int32) × (Nat → Nat → Int32) × Int32)) (fun _ _ => none) (f_X12_addWord_L15 newObjects wordSize newLengths word) n_15 v1 newLetters = some out → W p l e (rM 0 0) s m args blw meth c H locs 0 0 Q (F0 m 15 ls []) := by
    intro newLengths newObjects   n_15
    induction n_15 with
    | zero =>
      intro v1 newLetters H locs ls hP hS hl hf
      exact no_some hf
    | succ n_15 ih_15 =>
      intro v1 newLetters H locs ls hP hS hl hf
      have hf : f_X12_addWord_L15 newObjects wordSize newLengths word (lp (τ := Int32 → (Nat → Nat → Int32) → Option ((Nat → Int32) × (Nat → Nat → Int32) × Int32)) (fun _ _ => none) (f_X12_addWord_L15 newObjects wordSize newLengths word) n_15) v1 newLetters = some out := hf
      refine lv_iload_n hx hb dX12_addWord_15 rfl (lv_at hl 1 rfl) ?_
      refine lv_aload_n hx hb dX12_addWord_16 rfl (lv_at hl 0 rfl) ?_
      refine x_get hx hb hts u_X12_addWord_X12 hown hE hP 0 rfl rfl 36 (by decide) (hts (.fieldLink RX12 265 "DecreasingDiagramsModel" "wordSize" "I") (List.mem_of_getElem? (i := 3) rfl)) rfl dX12_addWord_17 ?_
      refine lv_icmp_ge (tgt := 46) hx hb dX12_addWord_20 (by decide) (fun c_20 => ?_) (fun c_20 => ?_)
      · have hf := it_pos c_20 hf
        exact J46 newLengths newLetters newObjects  H locs ls  hP hS (lv_sub hl [0] rfl) hf
      · have hf := it_neg c_20 hf
        refine lv_aload_n hx hb dX12_addWord_23 rfl (lv_at hl 0 rfl) ?_
        refine x_get hx hb hts u_X12_addWord_X12 hown hE hP 0 rfl rfl 31 (by decide) (hts (.fieldLink RX12 78 "DecreasingDiagramsModel" "newLetters" "[[I") (List.mem_of_getElem? (i := 4) rfl)) rfl dX12_addWord_24 ?_
        refine lv_aload_n hx hb dX12_addWord_27 rfl (lv_at hl 0 rfl) ?_
        refine x_get hx hb hts u_X12_addWord_X12 hown hE hP 0 rfl rfl 28 (by decide) (hts (.fieldLink RX12 268 "DecreasingDiagramsModel" "newObjects" "I") (List.mem_of_getElem? (i := 2) rfl)) rfl dX12_addWord_28 ?_
        obtain ⟨hq_31, hf⟩ := ck_some hf
        refine x_aald hx hb hE hP 2 4 rfl rfl hq_31 dX12_addWord_31 ?_
        refine lv_iload_n hx hb dX12_addWord_32 rfl (lv_at hl 1 rfl) ?_
        refine lv_aload_n hx hb dX12_addWord_33 rfl (lv_at hl 0 rfl) ?_
        refine x_get hx hb hts u_X12_addWord_X12 hown hE hP 0 rfl rfl 35 (by decide) (hts (.fieldLink RX12 90 "DecreasingDiagramsModel" "word" "[I") (List.mem_of_getElem? (i := 5) rfl)) rfl dX12_addWord_34 ?_
        refine lv_iload_n hx hb dX12_addWord_37 rfl (lv_at hl 1 rfl) ?_
        obtain ⟨hi, hf⟩ := ck_some hf
        refine x_iald hx hb hE hP 4 rfl hi dX12_addWord_38 ?_
        obtain ⟨hi, hf⟩ := ck_some hf
        obtain ⟨newLetters_39, e_newLetters_39, hf⟩ := lt_some hf
        refine x_iast2 (I' := [[(h, .inr (11, [.ref a_pairs, .ref a_above, .int objects, .int steps, .ref a_sources, .ref a_targets, .ref a_labels, .ref a_lengths, .ref a_letters, .ref a_distances, .ref a_longest, .int firstStep, .int secondStep, .ref a_lengthsTo, .ref a_lengthsFrom, .ref a_path, .int pathLength, .ref a_output, .int outputLength, .ref a_found, .int foundSteps, .ref a_keptLabels, .ref a_keptPairs, .ref a_input, .int inputLength, .int rules, .ref a_sides, .ref a_sideLengths, .int newObjects, .int newSteps, .ref a_newLengths, .ref a_newLetters, .ref a_newSources, .ref a_newTargets, .ref a_newLabels, .ref a_word, .int wordSize, .ref a_failed, .ref a_sizes, .ref a_arrays, .int hasSnapshot, .int savedObjects, .int savedSteps, .int savedRules, .ref a_savedLengths, .ref a_savedSources, .ref a_savedTargets, .ref a_savedLabels, .ref a_savedSideLengths, .ref a_savedLetters, .ref a_savedSides, .ref a_savedPairs]))], [(a_newLengths, .inl (G 0, 16, .inl newLengths))], [gO (G 4) a_newLetters r_newLetters 16], gI (G 0) r_newLetters 16 8 newLetters_39, [(a_word, .inl (G 0, 16, .inl word))]]) hx hb hE hP hN hS 3 rfl hq_31 hi e_newLetters_39 rfl dX12_addWord_39 (fun H locs hP hS => ?_)
        obtain ⟨v1_40, e_v1_40, hf⟩ := lt_some hf
        refine lv_iinc (v := v1_40) (lv' := [(1, .int v1_40), (0, .ref h)]) hx hb dX12_addWord_40 hl (k := 1) rfl (by rw [e_v1_40]; rfl) (by decide) rfl (fun ls hl => ?_)
        refine lv_goto (tgt := 15) hx hb dX12_addWord_43 (by decide) ?_
        exact ih_15 v1_40 newLetters_39 H locs ls hP hS (lv_sub hl [1, 0] rfl) hf
  refine lv_aload_n hx hb dX12_addWord_0 rfl (lv_at hl 0 rfl) ?_
  refine x_get hx hb hts u_X12_addWord_X12 hown hE hP 0 rfl rfl 30 (by decide) (hts (.fieldLink RX12 75 "DecreasingDiagramsModel" "newLengths" "[I") (List.mem_of_getElem? (i := 1) rfl)) rfl dX12_addWord_1 ?_
  refine lv_aload_n hx hb dX12_addWord_4 rfl (lv_at hl 0 rfl) ?_
  refine x_get hx hb hts u_X12_addWord_X12 hown hE hP 0 rfl rfl 28 (by decide) (hts (.fieldLink RX12 268 "DecreasingDiagramsModel" "newObjects" "I") (List.mem_of_getElem? (i := 2) rfl)) rfl dX12_addWord_5 ?_
  refine lv_aload_n hx hb dX12_addWord_8 rfl (lv_at hl 0 rfl) ?_
  refine x_get hx hb hts u_X12_addWord_X12 hown hE hP 0 rfl rfl 36 (by decide) (hts (.fieldLink RX12 265 "DecreasingDiagramsModel" "wordSize" "I") (List.mem_of_getElem? (i := 3) rfl)) rfl dX12_addWord_9 ?_
  obtain ⟨hi, hf⟩ := ck_some hf
  obtain ⟨newLengths_12, e_newLengths_12, hf⟩ := lt_some hf
  refine x_iast (I' := [[(h, .inr (11, [.ref a_pairs, .ref a_above, .int objects, .int steps, .ref a_sources, .ref a_targets, .ref a_labels, .ref a_lengths, .ref a_letters, .ref a_distances, .ref a_longest, .int firstStep, .int secondStep, .ref a_lengthsTo, .ref a_lengthsFrom, .ref a_path, .int pathLength, .ref a_output, .int outputLength, .ref a_found, .int foundSteps, .ref a_keptLabels, .ref a_keptPairs, .ref a_input, .int inputLength, .int rules, .ref a_sides, .ref a_sideLengths, .int newObjects, .int newSteps, .ref a_newLengths, .ref a_newLetters, .ref a_newSources, .ref a_newTargets, .ref a_newLabels, .ref a_word, .int wordSize, .ref a_failed, .ref a_sizes, .ref a_arrays, .int hasSnapshot, .int savedObjects, .int savedSteps, .int savedRules, .ref a_savedLengths, .ref a_savedSources, .ref a_savedTargets, .ref a_savedLabels, .ref a_savedSideLengths, .ref a_savedLetters, .ref a_savedSides, .ref a_savedPairs]))], [(a_newLengths, .inl (G 0, 16, .inl newLengths_12))], [gO (G 4) a_newLetters r_newLetters 16], gI (G 0) r_newLetters 16 8 newLetters, [(a_word, .inl (G 0, 16, .inl word))]]) hx hb hE hP hN hS 1 rfl hi e_newLengths_12 rfl dX12_addWord_12 (fun H locs hP hS => ?_)
  refine lv_iconst (v := 0) hx hb dX12_addWord_13 (by decide) ?_
  obtain ⟨v1_14, e_v1_14, hf⟩ := lt_some hf
  refine x_istore_n (v := v1_14) (lv' := [(1, .int v1_14), (0, .ref h)]) hx hb dX12_addWord_14 e_v1_14 rfl hl (by decide) rfl (fun ls hl => ?_)
  exact L15 newLengths_12 newObjects   fu v1_14 newLetters H locs ls hP hS (lv_sub hl [1, 0] rfl) hf

set_option maxRecDepth 20000 in
theorem u_X12_useNaturalOrder_X12 : ∀ w ∈ wsX120, w ∈ wsX12_useNaturalOrder := xx_pl _ [8, 9, 10, 11, 12, 13, 14, 15, 16, 17, 18, 19, 20, 21, 22, 23, 24, 25, 26, 27, 28, 29, 30, 31, 32, 33, 34, 35, 36, 37, 38, 39, 40, 41, 42, 43, 44, 45, 46, 47, 48, 49, 50, 51, 52, 53, 54, 55, 56, 57, 58, 59] (by decide +kernel)
def f_X12_useNaturalOrder_J67 (fu : Nat) (v1 : Int32) (above : (Nat → Nat → Int32)) (pairs : (Nat → Nat → Int32)) : Option (Int32 × (Nat → Nat → Int32) × (Nat → Nat → Int32)) :=
  (f_X12_closeOrder fu above pairs).bind (fun r_68 => some (v1, r_68, pairs))
def f_X12_useNaturalOrder_J61 (rec_4 : (Int32 → Int32 → (Nat → Nat → Int32) → Option (Int32 × (Nat → Nat → Int32) × (Nat → Nat → Int32)))) (v1 : Int32) (v2 : Int32) (pairs : (Nat → Nat → Int32)) : Option (Int32 × (Nat → Nat → Int32) × (Nat → Nat → Int32)) :=
  lt (v2 + 1) (fun v2_61 => rec_4 v1 v2_61 pairs)
def f_X12_useNaturalOrder_J54 (t0_row : Int32) (rec_12 : (Int32 → Int32 → (Nat → Nat → Int32) → Option (Int32 × (Nat → Nat → Int32) × (Nat → Nat → Int32)))) (t1 : Int32) (t2 : Int32) (v1 : Int32) (v3 : Int32) (pairs : (Nat → Nat → Int32)) : Option (Int32 × (Nat → Nat → Int32) × (Nat → Nat → Int32)) :=
  ck t1 8 (lt (up2 pairs t0_row.toNatClampNeg t1.toNatClampNeg (vp_nar .boolean t2)) (fun pairs_54 => lt (v3 + 1) (fun v3_55 => rec_12 v1 v3_55 pairs_54)))
def f_X12_useNaturalOrder_J35 (v2 : Int32) (rec_12 : (Int32 → Int32 → (Nat → Nat → Int32) → Option (Int32 × (Nat → Nat → Int32) × (Nat → Nat → Int32)))) (t0 : Int32) (t1 : Int32) (v3 : Int32) (pairs : (Nat → Nat → Int32)) : Option (Int32 × (Nat → Nat → Int32) × (Nat → Nat → Int32)) :=
  lt (t0 + t1) (fun v1_36 => ck v2 8 (if v2 ≤ v3 then (f_X12_useNaturalOrder_J54 v2 rec_12 v3 0 v1_36 v3 pairs) else (f_X12_useNaturalOrder_J54 v2 rec_12 v3 1 v1_36 v3 pairs)))
def f_X12_useNaturalOrder_L12 (v2 : Int32) (rec_4 : (Int32 → Int32 → (Nat → Nat → Int32) → Option (Int32 × (Nat → Nat → Int32) × (Nat → Nat → Int32)))) (rec_12 : Int32 → Int32 → (Nat → Nat → Int32) → Option (Int32 × (Nat → Nat → Int32) × (Nat → Nat → Int32))) (v1 : Int32) (v3 : Int32) (pairs : (Nat → Nat → Int32)) : Option (Int32 × (Nat → Nat → Int32) × (Nat → Nat → Int32)) :=
  if 8 ≤ v3 then (f_X12_useNaturalOrder_J61 rec_4 v1 v2 pairs) else (ck v2 8 (ck v3 8 (if (pairs v2.toNatClampNeg v3.toNatClampNeg) = 0 then (f_X12_useNaturalOrder_J35 v2 rec_12 v1 0 v3 pairs) else (f_X12_useNaturalOrder_J35 v2 rec_12 v1 1 v3 pairs))))
def f_X12_useNaturalOrder_L4 (fu : Nat) (above : (Nat → Nat → Int32)) (rec_4 : Int32 → Int32 → (Nat → Nat → Int32) → Option (Int32 × (Nat → Nat → Int32) × (Nat → Nat → Int32))) (v1 : Int32) (v2 : Int32) (pairs : (Nat → Nat → Int32)) : Option (Int32 × (Nat → Nat → Int32) × (Nat → Nat → Int32)) :=
  if 8 ≤ v2 then (f_X12_useNaturalOrder_J67 fu v1 above pairs) else (lt (0 : Int32) (fun v3_11 => lp (τ := Int32 → Int32 → (Nat → Nat → Int32) → Option (Int32 × (Nat → Nat → Int32) × (Nat → Nat → Int32))) (fun _ _ _ => none) (f_X12_useNaturalOrder_L12 v2 rec_4) fu v1 v3_11 pairs))
def f_X12_useNaturalOrder (fu : Nat) (above : (Nat → Nat → Int32)) (pairs : (Nat → Nat → Int32)) : Option (Int32 × (Nat → Nat → Int32) × (Nat → Nat → Int32)) :=
  lt (0 : Int32) (fun v1_1 => lt (0 : Int32) (fun v2_3 => lp (τ := Int32 → Int32 → (Nat → Nat → Int32) → Option (Int32 × (Nat → Nat → Int32) × (Nat → Nat → Int32))) (fun _ _ _ => none) (f_X12_useNaturalOrder_L4 fu above) fu v1_1 v2_3 pairs))
set_option maxHeartbeats 4000000 in
set_option maxRecDepth 100000 in
theorem k_X12_useNaturalOrder (l : Launch) (D : va_G) (G : Nat → ClassId) (fu : Nat) (h : Nat) (a_pairs : Nat) (a_above : Nat) (a_sources : Nat) (a_targets : Nat) (a_labels : Nat) (a_lengths : Nat) (a_letters : Nat) (a_distances : Nat) (a_longest : Nat) (a_lengthsTo : Nat) (a_lengthsFrom : Nat) (a_path : Nat) (a_output : Nat) (a_found : Nat) (a_keptLabels : Nat) (a_keptPairs : Nat) (a_input : Nat) (a_sides : Nat) (a_sideLengths : Nat) (a_newLengths : Nat) (a_newLetters : Nat) (a_newSources : Nat) (a_newTargets : Nat) (a_newLabels : Nat) (a_word : Nat) (a_failed : Nat) (a_sizes : Nat) (a_arrays : Nat) (a_savedLengths : Nat) (a_savedSources : Nat) (a_savedTargets : Nat) (a_savedLabels : Nat) (a_savedSideLengths : Nat) (a_savedLetters : Nat) (a_savedSides : Nat) (a_savedPairs : Nat) (r_above : Nat → Nat) (r_pairs : Nat → Nat) (objects : Int32) (steps : Int32) (firstStep : Int32) (secondStep : Int32) (pathLength : Int32) (outputLength : Int32) (foundSteps : Int32) (inputLength : Int32) (rules : Int32) (newObjects : Int32) (newSteps : Int32) (wordSize : Int32) (hasSnapshot : Int32) (savedObjects : Int32) (savedSteps : Int32) (savedRules : Int32) (above : (Nat → Nat → Int32)) (pairs : (Nat → Nat → Int32))   (out : Int32 × (Nat → Nat → Int32) × (Nat → Nat → Int32)) (hf : f_X12_useNaturalOrder fu above pairs = some out) : xMet l yX12_useNaturalOrder wsX12_useNaturalOrder (rM 1 23) D G [.ref h] [[(h, .inr (11, [.ref a_pairs, .ref a_above, .int objects, .int steps, .ref a_sources, .ref a_targets, .ref a_labels, .ref a_lengths, .ref a_letters, .ref a_distances, .ref a_longest, .int firstStep, .int secondStep, .ref a_lengthsTo, .ref a_lengthsFrom, .ref a_path, .int pathLength, .ref a_output, .int outputLength, .ref a_found, .int foundSteps, .ref a_keptLabels, .ref a_keptPairs, .ref a_input, .int inputLength, .int rules, .ref a_sides, .ref a_sideLengths, .int newObjects, .int newSteps, .ref a_newLengths, .ref a_newLetters, .ref a_newSources, .ref a_newTargets, .ref a_newLabels, .ref a_word, .int wordSize, .ref a_failed, .ref a_sizes, .ref a_arrays, .int hasSnapshot, .int savedObjects, .int savedSteps, .int savedRules, .ref a_savedLengths, .ref a_savedSources, .ref a_savedTargets, .ref a_savedLabels, .ref a_savedSideLengths, .ref a_savedLetters, .ref a_savedSides, .ref a_savedPairs]))], [gO (G 6) a_above r_above 8], gI (G 2) r_above 8 8 above, [gO (G 6) a_pairs r_pairs 8], gI (G 2) r_pairs 8 8 pairs] (xQi D [[(h, .inr (11, [.ref a_pairs, .ref a_above, .int objects, .int steps, .ref a_sources, .ref a_targets, .ref a_labels, .ref a_lengths, .ref a_letters, .ref a_distances, .ref a_longest, .int firstStep, .int secondStep, .ref a_lengthsTo, .ref a_lengthsFrom, .ref a_path, .int pathLength, .ref a_output, .int outputLength, .ref a_found, .int foundSteps, .ref a_keptLabels, .ref a_keptPairs, .ref a_input, .int inputLength, .int rules, .ref a_sides, .ref a_sideLengths, .int newObjects, .int newSteps, .ref a_newLengths, .ref a_newLetters, .ref a_newSources, .ref a_newTargets, .ref a_newLabels, .ref a_word, .int wordSize, .ref a_failed, .ref a_sizes, .ref a_arrays, .int hasSnapshot, .int savedObjects, .int savedSteps, .int savedRules, .ref a_savedLengths, .ref a_savedSources, .ref a_savedTargets, .ref a_savedLabels, .ref a_savedSideLengths, .ref a_savedLetters, .ref a_savedSides, .ref a_savedPairs]))], [gO (G 6) a_above r_above 8], gI (G 2) r_above 8 8 out.2.1, [gO (G 6) a_pairs r_pairs 8], gI (G 2) r_pairs 8 8 out.2.2] out.1) := by
  refine x_ent (cc := cX12_useNaturalOrder) (maxL := 4) (by decide) rfl (Nat.le_of_ble_eq_true rfl) ?_
  intro p e s m blw meth c aa ls args Q H locs hQ hx hb hr hml hown hts hlocks hE hN hl hP hS
  have hown : s.vm.findClass RX12 = some m.cls := hown
  have hl : lv_has ls 4 [(0, .ref h)] := hl
  have J67 : ∀ (v1 : Int32) (above : (Nat → Nat → Int32)) (pairs : (Nat → Nat → Int32)) (H : Heap) (locs : List Loc) (ls : Array Slot), xW D aa [[(h, .inr (11, [.ref a_pairs, .ref a_above, .int objects, .int steps, .ref a_sources, .ref a_targets, .ref a_labels, .ref a_lengths, .ref a_letters, .ref a_distances, .ref a_longest, .int firstStep, .int secondStep, .ref a_lengthsTo, .ref a_lengthsFrom, .ref a_path, .int pathLength, .ref a_output, .int outputLength, .ref a_found, .int foundSteps, .ref a_keptLabels, .ref a_keptPairs, .ref a_input, .int inputLength, .int rules, .ref a_sides, .ref a_sideLengths, .int newObjects, .int newSteps, .ref a_newLengths, .ref a_newLetters, .ref a_newSources, .ref a_newTargets, .ref a_newLabels, .ref a_word, .int wordSize, .ref a_failed, .ref a_sizes, .ref a_arrays, .int hasSnapshot, .int savedObjects, .int savedSteps, .int savedRules, .ref a_savedLengths, .ref a_savedSources, .ref a_savedTargets, .ref a_savedLabels, .ref a_savedSideLengths, .ref a_savedLetters, .ref a_savedSides, .ref a_savedPairs]))], [gO (G 6) a_above r_above 8], gI (G 2) r_above 8 8 above, [gO (G 6) a_pairs r_pairs 8], gI (G 2) r_pairs 8 8 pairs] H → va_S (xA aa) s.heap H locs → lv_has ls 4 [(0, .ref h), (1, .int v1)] → f_X12_useNaturalOrder_J67 fu v1 above pairs = some out → W p l e (rM 1 23) s m args blw meth c H locs 0 0 Q (F0 m 67 ls []) := by
    intro v1 above pairs  H locs ls  hP hS hl hf
    refine lv_aload_n hx hb dX12_useNaturalOrder_67 rfl (lv_at hl 0 rfl) ?_
    obtain ⟨r_68, hr_68, hf⟩ := bd_some hf
    refine x_gov (ps := [0, 1, 2, 3, 4]) (qs := []) (n := 5) (I' := [[(h, .inr (11, [.ref a_pairs, .ref a_above, .int objects, .int steps, .ref a_sources, .ref a_targets, .ref a_labels, .ref a_lengths, .ref a_letters, .ref a_distances, .ref a_longest, .int firstStep, .int secondStep, .ref a_lengthsTo, .ref a_lengthsFrom, .ref a_path, .int pathLength, .ref a_output, .int outputLength, .ref a_found, .int foundSteps, .ref a_keptLabels, .ref a_keptPairs, .ref a_input, .int inputLength, .int rules, .ref a_sides, .ref a_sideLengths, .int newObjects, .int newSteps, .ref a_newLengths, .ref a_newLetters, .ref a_newSources, .ref a_newTargets, .ref a_newLabels, .ref a_word, .int wordSize, .ref a_failed, .ref a_sizes, .ref a_arrays, .int hasSnapshot, .int savedObjects, .int savedSteps, .int savedRules, .ref a_savedLengths, .ref a_savedSources, .ref a_savedTargets, .ref a_savedLabels, .ref a_savedSideLengths, .ref a_savedLetters, .ref a_savedSides, .ref a_savedPairs]))], [gO (G 6) a_above r_above 8], gI (G 2) r_above 8 8 r_68, [gO (G 6) a_pairs r_pairs 8], gI (G 2) r_pairs 8 8 pairs]) (x_runV (As := []) (rest := []) (ps := [0, 1, 2, 3, 4]) ⟨hx, hb, hml, hown, hts⟩ (k_X12_closeOrder l D G fu h a_pairs a_above a_sources a_targets a_labels a_lengths a_letters a_distances a_longest a_lengthsTo a_lengthsFrom a_path a_output a_found a_keptLabels a_keptPairs a_input a_sides a_sideLengths a_newLengths a_newLetters a_newSources a_newTargets a_newLabels a_word a_failed a_sizes a_arrays a_savedLengths a_savedSources a_savedTargets a_savedLabels a_savedSideLengths a_savedLetters a_savedSides a_savedPairs r_above r_pairs objects steps firstStep secondStep pathLength outputLength foundSteps inputLength rules newObjects newSteps wordSize hasSnapshot savedObjects savedSteps savedRules above pairs r_68 hr_68) (cwV 0 hts gX12_useNaturalOrder_X12_closeOrder rfl rfl rfl (by decide +kernel) ⟨Nat.le_of_ble_eq_true rfl, Nat.le_of_ble_eq_true rfl⟩) hE hP hN rfl (by decide) 0 rfl rfl rfl hl.1 (Nat.le_of_ble_eq_true rfl) dX12_useNaturalOrder_68 ⟨Nat.zero_le _, Nat.zero_le _⟩) hP hN hS rfl rfl rfl rfl rfl (by decide) (fun H locs hP hS => ?_)
    refine lv_iload_n hx hb dX12_useNaturalOrder_71 rfl (lv_at hl 1 rfl) ?_
    have hf := Option.some.inj hf
    rewrite [← hQ, ← hf]
    exact x_iret hx hb hr hlocks hP hS dX12_useNaturalOrder_72
  have L4 : ∀ (above : (Nat → Nat → Int32)), ∀ (n_4 : Nat) (v1 : Int32) (v2 : Int32) (pairs : (Nat → Nat → Int32)) (H : Heap) (locs : List Loc) (ls : Array Slot), xW D aa [[(h, .inr (11, [.ref a_pairs, .ref a_above, .int objects, .int steps, .ref a_sources, .ref a_targets, .ref a_labels, .ref a_lengths, .ref a_letters, .ref a_distances, .ref a_longest, .int firstStep, .int secondStep, .ref a_lengthsTo, .ref a_lengthsFrom, .ref a_path, .int pathLength, .ref a_output, .int outputLength, .ref a_found, .int foundSteps, .ref a_keptLabels, .ref a_keptPairs, .ref a_input, .int inputLength, .int rules, .ref a_sides, .ref a_sideLengths, .int newObjects, .int newSteps, .ref a_newLengths, .ref a_newLetters, .ref a_newSources, .ref a_newTargets, .ref a_newLabels, .ref a_word, .int wordSize, .ref a_failed, .ref a_sizes, .ref a_arrays, .int hasSnapshot, .int savedObjects, .int savedSteps, .int savedRules, .ref a_savedLengths, .ref a_savedSources, .ref a_savedTargets, .ref a_savedLabels, .ref a_savedSideLengths, .ref a_savedLetters, .ref a_savedSides, .ref a_savedPairs]))], [gO (G 6) a_above r_above 8], gI (G 2) r_above 8 8 above, [gO (G 6) a_pairs r_pairs 8], gI (G 2) r_pairs 8 8 pairs] H → va_S (xA aa) s.heap H locs → lv_has ls 4 [(0, .ref h), (1, .int v1), (2, .int v2)] → lp (τ := Int32 → Int32 → (Nat → Nat → Int32) → Option (Int32 × (Nat → Nat → Int32) × (Nat → Nat → Int32))) (fun _ _ _ => none) (f_X12_useNaturalOrder_L4 fu above) n_4 v1 v2 pairs = some out → W p l e (rM 1 23) s m args blw meth c H locs 0 0 Q (F0 m 4 ls []) := by
    intro above   n_4
    induction n_4 with
    | zero =>
      intro v1 v2 pairs H locs ls hP hS hl hf
      exact no_some hf
    | succ n_4 ih_4 =>
      intro v1 v2 pairs H locs ls hP hS hl hf
      have hf : f_X12_useNaturalOrder_L4 fu above (lp (τ := Int32 → Int32 → (Nat → Nat → Int32) → Option (Int32 × (Nat → Nat → Int32) × (Nat → Nat → Int32))) (fun _ _ _ => none) (f_X12_useNaturalOrder_L4 fu above) n_4) v1 v2 pairs = some out := hf
      have J61 : ∀ (v1 : Int32) (v2 : Int32) (pairs : (Nat → Nat → Int32)) (H : Heap) (locs : List Loc) (ls : Array Slot), xW D aa [[(h, .inr (11, [.ref a_pairs, .ref a_above, .int objects, .int steps, .ref a_sources, .ref a_targets, .ref a_labels, .ref a_lengths, .ref a_letters, .ref a_distances, .ref a_longest, .int firstStep, .int secondStep, .ref a_lengthsTo, .ref a_lengthsFrom, .ref a_path, .int pathLength, .ref a_output, .int outputLength, .ref a_found, .int foundSteps, .ref a_keptLabels, .ref a_keptPairs, .ref a_input, .int inputLength, .int rules, .ref a_sides, .ref a_sideLengths, .int newObjects, .int newSteps, .ref a_newLengths, .ref a_newLetters, .ref a_newSources, .ref a_newTargets, .ref a_newLabels, .ref a_word, .int wordSize, .ref a_failed, .ref a_sizes, .ref a_arrays, .int hasSnapshot, .int savedObjects, .int savedSteps, .int savedRules, .ref a_savedLengths, .ref a_savedSources, .ref a_savedTargets, .ref a_savedLabels, .ref a_savedSideLengths, .ref a_savedLetters, .ref a_savedSides, .ref a_savedPairs]))], [gO (G 6) a_above r_above 8], gI (G 2) r_above 8 8 above, [gO (G 6) a_pairs r_pairs 8], gI (G 2) r_pairs 8 8 pairs] H → va_S (xA aa) s.heap H locs → lv_has ls 4 [(0, .ref h), (1, .int v1), (2, .int v2)] → f_X12_useNaturalOrder_J61 (lp (τ := Int32 → Int32 → (Nat → Nat → Int32) → Option (Int32 × (Nat → Nat → Int32) × (Nat → Nat → Int32))) (fun _ _ _ => none) (f_X12_useNaturalOrder_L4 fu above) n_4) v1 v2 pairs = some out → W p l e (rM 1 23) s m args blw meth c H locs 0 0 Q (F0 m 61 ls []) := by
        intro v1 v2 pairs  H locs ls  hP hS hl hf
        obtain ⟨v2_61, e_v2_61, hf⟩ := lt_some hf
        refine lv_iinc (v := v2_61) (lv' := [(2, .int v2_61), (0, .ref h), (1, .int v1)]) hx hb dX12_useNaturalOrder_61 hl (k := 2) rfl (by rw [e_v2_61]; rfl) (by decide) rfl (fun ls hl => ?_)
        refine lv_goto (tgt := 4) hx hb dX12_useNaturalOrder_64 (by decide) ?_
        exact ih_4 v1 v2_61 pairs H locs ls hP hS (lv_sub hl [1, 2, 0] rfl) hf
      have L12 : ∀ (v2 : Int32), ∀ (n_12 : Nat) (v1 : Int32) (v3 : Int32) (pairs : (Nat → Nat → Int32)) (H : Heap) (locs : List Loc) (ls : Array Slot), xW D aa [[(h, .inr (11, [.ref a_pairs, .ref a_above, .int objects, .int steps, .ref a_sources, .ref a_targets, .ref a_labels, .ref a_lengths, .ref a_letters, .ref a_distances, .ref a_longest, .int firstStep, .int secondStep, .ref a_lengthsTo, .ref a_lengthsFrom, .ref a_path, .int pathLength, .ref a_output, .int outputLength, .ref a_found, .int foundSteps, .ref a_keptLabels, .ref a_keptPairs, .ref a_input, .int inputLength, .int rules, .ref a_sides, .ref a_sideLengths, .int newObjects, .int newSteps, .ref a_newLengths, .ref a_newLetters, .ref a_newSources, .ref a_newTargets, .ref a_newLabels, .ref a_word, .int wordSize, .ref a_failed, .ref a_sizes, .ref a_arrays, .int hasSnapshot, .int savedObjects, .int savedSteps, .int savedRules, .ref a_savedLengths, .ref a_savedSources, .ref a_savedTargets, .ref a_savedLabels, .ref a_savedSideLengths, .ref a_savedLetters, .ref a_savedSides, .ref a_savedPairs]))], [gO (G 6) a_above r_above 8], gI (G 2) r_above 8 8 above, [gO (G 6) a_pairs r_pairs 8], gI (G 2) r_pairs 8 8 pairs] H → va_S (xA aa) s.heap H locs → lv_has ls 4 [(0, .ref h), (1, .int v1), (2, .int v2), (3, .int v3)] → lp (τ := Int32 → Int32 → (Nat → Nat → Int32) → Option (Int32 × (Nat → Nat → Int32) × (Nat → Nat → Int32))) (fun _ _ _ => none) (f_X12_useNaturalOrder_L12 v2 (lp (τ := Int32 → Int32 → (Nat → Nat → Int32) → Option (Int32 × (Nat → Nat → Int32) × (Nat → Nat → Int32))) (fun _ _ _ => none) (f_X12_useNaturalOrder_L4 fu above) n_4)) n_12 v1 v3 pairs = some out → W p l e (rM 1 23) s m args blw meth c H locs 0 0 Q (F0 m 12 ls []) := by
        intro v2   n_12
        induction n_12 with
        | zero =>
          intro v1 v3 pairs H locs ls hP hS hl hf
          exact no_some hf
        | succ n_12 ih_12 =>
          intro v1 v3 pairs H locs ls hP hS hl hf
          have hf : f_X12_useNaturalOrder_L12 v2 (lp (τ := Int32 → Int32 → (Nat → Nat → Int32) → Option (Int32 × (Nat → Nat → Int32) × (Nat → Nat → Int32))) (fun _ _ _ => none) (f_X12_useNaturalOrder_L4 fu above) n_4) (lp (τ := Int32 → Int32 → (Nat → Nat → Int32) → Option (Int32 × (Nat → Nat → Int32) × (Nat → Nat → Int32))) (fun _ _ _ => none) (f_X12_useNaturalOrder_L12 v2 (lp (τ := Int32 → Int32 → (Nat → Nat → Int32) → Option (Int32 × (Nat → Nat → Int32) × (Nat → Nat → Int32))) (fun _ _ _ => none) (f_X12_useNaturalOrder_L4 fu above) n_4)) n_12) v1 v3 pairs = some out := hf
          have J54 : ∀ (t1 : Int32) (t2 : Int32) (v1 : Int32) (v3 : Int32) (pairs : (Nat → Nat → Int32)) (t0_row : Int32) (H : Heap) (locs : List Loc) (ls : Array Slot), vp_in t0_row 8 → xW D aa [[(h, .inr (11, [.ref a_pairs, .ref a_above, .int objects, .int steps, .ref a_sources, .ref a_targets, .ref a_labels, .ref a_lengths, .ref a_letters, .ref a_distances, .ref a_longest, .int firstStep, .int secondStep, .ref a_lengthsTo, .ref a_lengthsFrom, .ref a_path, .int pathLength, .ref a_output, .int outputLength, .ref a_found, .int foundSteps, .ref a_keptLabels, .ref a_keptPairs, .ref a_input, .int inputLength, .int rules, .ref a_sides, .ref a_sideLengths, .int newObjects, .int newSteps, .ref a_newLengths, .ref a_newLetters, .ref a_newSources, .ref a_newTargets, .ref a_newLabels, .ref a_word, .int wordSize, .ref a_failed, .ref a_sizes, .ref a_arrays, .int hasSnapshot, .int savedObjects, .int savedSteps, .int savedRules, .ref a_savedLengths, .ref a_savedSources, .ref a_savedTargets, .ref a_savedLabels, .ref a_savedSideLengths, .ref a_savedLetters, .ref a_savedSides, .ref a_savedPairs]))], [gO (G 6) a_above r_above 8], gI (G 2) r_above 8 8 above, [gO (G 6) a_pairs r_pairs 8], gI (G 2) r_pairs 8 8 pairs] H → va_S (xA aa) s.heap H locs → lv_has ls 4 [(0, .ref h), (1, .int v1), (2, .int v2), (3, .int v3)] → f_X12_useNaturalOrder_J54 t0_row (lp (τ := Int32 → Int32 → (Nat → Nat → Int32) → Option (Int32 × (Nat → Nat → Int32) × (Nat → Nat → Int32))) (fun _ _ _ => none) (f_X12_useNaturalOrder_L12 v2 (lp (τ := Int32 → Int32 → (Nat → Nat → Int32) → Option (Int32 × (Nat → Nat → Int32) × (Nat → Nat → Int32))) (fun _ _ _ => none) (f_X12_useNaturalOrder_L4 fu above) n_4)) n_12) t1 t2 v1 v3 pairs = some out → W p l e (rM 1 23) s m args blw meth c H locs 0 0 Q (F0 m 54 ls [.int t2, .int t1, .ref (r_pairs t0_row.toNatClampNeg)]) := by
            intro t1 t2 v1 v3 pairs t0_row H locs ls ht0_row hP hS hl hf
            obtain ⟨hi, hf⟩ := ck_some hf
            obtain ⟨pairs_54, e_pairs_54, hf⟩ := lt_some hf
            refine x_zast2 (I' := [[(h, .inr (11, [.ref a_pairs, .ref a_above, .int objects, .int steps, .ref a_sources, .ref a_targets, .ref a_labels, .ref a_lengths, .ref a_letters, .ref a_distances, .ref a_longest, .int firstStep, .int secondStep, .ref a_lengthsTo, .ref a_lengthsFrom, .ref a_path, .int pathLength, .ref a_output, .int outputLength, .ref a_found, .int foundSteps, .ref a_keptLabels, .ref a_keptPairs, .ref a_input, .int inputLength, .int rules, .ref a_sides, .ref a_sideLengths, .int newObjects, .int newSteps, .ref a_newLengths, .ref a_newLetters, .ref a_newSources, .ref a_newTargets, .ref a_newLabels, .ref a_word, .int wordSize, .ref a_failed, .ref a_sizes, .ref a_arrays, .int hasSnapshot, .int savedObjects, .int savedSteps, .int savedRules, .ref a_savedLengths, .ref a_savedSources, .ref a_savedTargets, .ref a_savedLabels, .ref a_savedSideLengths, .ref a_savedLetters, .ref a_savedSides, .ref a_savedPairs]))], [gO (G 6) a_above r_above 8], gI (G 2) r_above 8 8 above, [gO (G 6) a_pairs r_pairs 8], gI (G 2) r_pairs 8 8 pairs_54]) hx hb hE hP hN hS 4 rfl ht0_row hi e_pairs_54 rfl dX12_useNaturalOrder_54 (fun H locs hP hS => ?_)
            obtain ⟨v3_55, e_v3_55, hf⟩ := lt_some hf
            refine lv_iinc (v := v3_55) (lv' := [(3, .int v3_55), (0, .ref h), (1, .int v1), (2, .int v2)]) hx hb dX12_useNaturalOrder_55 hl (k := 3) rfl (by rw [e_v3_55]; rfl) (by decide) rfl (fun ls hl => ?_)
            refine lv_goto (tgt := 12) hx hb dX12_useNaturalOrder_58 (by decide) ?_
            exact ih_12 v1 v3_55 pairs_54 H locs ls hP hS (lv_sub hl [1, 2, 3, 0] rfl) hf
          have J35 : ∀ (t0 : Int32) (t1 : Int32) (v3 : Int32) (pairs : (Nat → Nat → Int32)) (H : Heap) (locs : List Loc) (ls : Array Slot), xW D aa [[(h, .inr (11, [.ref a_pairs, .ref a_above, .int objects, .int steps, .ref a_sources, .ref a_targets, .ref a_labels, .ref a_lengths, .ref a_letters, .ref a_distances, .ref a_longest, .int firstStep, .int secondStep, .ref a_lengthsTo, .ref a_lengthsFrom, .ref a_path, .int pathLength, .ref a_output, .int outputLength, .ref a_found, .int foundSteps, .ref a_keptLabels, .ref a_keptPairs, .ref a_input, .int inputLength, .int rules, .ref a_sides, .ref a_sideLengths, .int newObjects, .int newSteps, .ref a_newLengths, .ref a_newLetters, .ref a_newSources, .ref a_newTargets, .ref a_newLabels, .ref a_word, .int wordSize, .ref a_failed, .ref a_sizes, .ref a_arrays, .int hasSnapshot, .int savedObjects, .int savedSteps, .int savedRules, .ref a_savedLengths, .ref a_savedSources, .ref a_savedTargets, .ref a_savedLabels, .ref a_savedSideLengths, .ref a_savedLetters, .ref a_savedSides, .ref a_savedPairs]))], [gO (G 6) a_above r_above 8], gI (G 2) r_above 8 8 above, [gO (G 6) a_pairs r_pairs 8], gI (G 2) r_pairs 8 8 pairs] H → va_S (xA aa) s.heap H locs → lv_has ls 4 [(0, .ref h), (2, .int v2), (3, .int v3)] → f_X12_useNaturalOrder_J35 v2 (lp (τ := Int32 → Int32 → (Nat → Nat → Int32) → Option (Int32 × (Nat → Nat → Int32) × (Nat → Nat → Int32))) (fun _ _ _ => none) (f_X12_useNaturalOrder_L12 v2 (lp (τ := Int32 → Int32 → (Nat → Nat → Int32) → Option (Int32 × (Nat → Nat → Int32) × (Nat → Nat → Int32))) (fun _ _ _ => none) (f_X12_useNaturalOrder_L4 fu above) n_4)) n_12) t0 t1 v3 pairs = some out → W p l e (rM 1 23) s m args blw meth c H locs 0 0 Q (F0 m 35 ls [.int t1, .int t0]) := by
            intro t0 t1 v3 pairs  H locs ls  hP hS hl hf
            refine lv_iadd hx hb dX12_useNaturalOrder_35 ?_
            obtain ⟨v1_36, e_v1_36, hf⟩ := lt_some hf
            refine x_istore_n (v := v1_36) (lv' := [(1, .int v1_36), (0, .ref h), (2, .int v2), (3, .int v3)]) hx hb dX12_useNaturalOrder_36 e_v1_36 rfl hl (by decide) rfl (fun ls hl => ?_)
            refine lv_aload_n hx hb dX12_useNaturalOrder_37 rfl (lv_at hl 1 rfl) ?_
            refine x_get hx hb hts u_X12_useNaturalOrder_X12 hown hE hP 0 rfl rfl 0 (by decide) (hts (.fieldLink RX12 11 "DecreasingDiagramsModel" "pairs" "[[Z") (List.mem_of_getElem? (i := 1) rfl)) rfl dX12_useNaturalOrder_38 ?_
            refine lv_iload_n hx hb dX12_useNaturalOrder_41 rfl (lv_at hl 2 rfl) ?_
            obtain ⟨hq_42, hf⟩ := ck_some hf
            refine x_aald hx hb hE hP 3 6 rfl rfl hq_42 dX12_useNaturalOrder_42 ?_
            refine lv_iload_n hx hb dX12_useNaturalOrder_43 rfl (lv_at hl 3 rfl) ?_
            refine lv_iload_n hx hb dX12_useNaturalOrder_44 rfl (lv_at hl 2 rfl) ?_
            refine lv_iload_n hx hb dX12_useNaturalOrder_45 rfl (lv_at hl 3 rfl) ?_
            refine lv_icmp_le (tgt := 53) hx hb dX12_useNaturalOrder_46 (by decide) (fun c_46 => ?_) (fun c_46 => ?_)
            · have hf := it_pos c_46 hf
              refine lv_iconst (v := 0) hx hb dX12_useNaturalOrder_53 (by decide) ?_
              exact J54 v3 0 v1_36 v3 pairs v2 H locs ls hq_42 hP hS (lv_sub hl [1, 0, 2, 3] rfl) hf
            · have hf := it_neg c_46 hf
              refine lv_iconst (v := 1) hx hb dX12_useNaturalOrder_49 (by decide) ?_
              refine lv_goto (tgt := 54) hx hb dX12_useNaturalOrder_50 (by decide) ?_
              exact J54 v3 1 v1_36 v3 pairs v2 H locs ls hq_42 hP hS (lv_sub hl [1, 0, 2, 3] rfl) hf
          refine lv_iload_n hx hb dX12_useNaturalOrder_12 rfl (lv_at hl 3 rfl) ?_
          refine lv_bipush (v := 8) hx hb dX12_useNaturalOrder_13 (by decide) ?_
          refine lv_icmp_ge (tgt := 61) hx hb dX12_useNaturalOrder_15 (by decide) (fun c_15 => ?_) (fun c_15 => ?_)
          · have hf := it_pos c_15 hf
            exact J61 v1 v2 pairs  H locs ls  hP hS (lv_sub hl [0, 1, 2] rfl) hf
          · have hf := it_neg c_15 hf
            refine lv_iload_n hx hb dX12_useNaturalOrder_18 rfl (lv_at hl 1 rfl) ?_
            refine lv_aload_n hx hb dX12_useNaturalOrder_19 rfl (lv_at hl 0 rfl) ?_
            refine x_get hx hb hts u_X12_useNaturalOrder_X12 hown hE hP 0 rfl rfl 0 (by decide) (hts (.fieldLink RX12 11 "DecreasingDiagramsModel" "pairs" "[[Z") (List.mem_of_getElem? (i := 1) rfl)) rfl dX12_useNaturalOrder_20 ?_
            refine lv_iload_n hx hb dX12_useNaturalOrder_23 rfl (lv_at hl 2 rfl) ?_
            obtain ⟨hq_24, hf⟩ := ck_some hf
            refine x_aald hx hb hE hP 3 6 rfl rfl hq_24 dX12_useNaturalOrder_24 ?_
            refine lv_iload_n hx hb dX12_useNaturalOrder_25 rfl (lv_at hl 3 rfl) ?_
            obtain ⟨hi, hf⟩ := ck_some hf
            refine x_zald2 hx hb hE hP 4 rfl hq_24 hi dX12_useNaturalOrder_26 ?_
            refine lv_if_eq (tgt := 34) hx hb dX12_useNaturalOrder_27 (by decide) (fun c_27 => ?_) (fun c_27 => ?_)
            · have hf := it_pos c_27 hf
              refine lv_iconst (v := 0) hx hb dX12_useNaturalOrder_34 (by decide) ?_
              exact J35 v1 0 v3 pairs  H locs ls  hP hS (lv_sub hl [0, 2, 3] rfl) hf
            · have hf := it_neg c_27 hf
              refine lv_iconst (v := 1) hx hb dX12_useNaturalOrder_30 (by decide) ?_
              refine lv_goto (tgt := 35) hx hb dX12_useNaturalOrder_31 (by decide) ?_
              exact J35 v1 1 v3 pairs  H locs ls  hP hS (lv_sub hl [0, 2, 3] rfl) hf
      refine lv_iload_n hx hb dX12_useNaturalOrder_4 rfl (lv_at hl 2 rfl) ?_
      refine lv_bipush (v := 8) hx hb dX12_useNaturalOrder_5 (by decide) ?_
      refine lv_icmp_ge (tgt := 67) hx hb dX12_useNaturalOrder_7 (by decide) (fun c_7 => ?_) (fun c_7 => ?_)
      · have hf := it_pos c_7 hf
        exact J67 v1 above pairs  H locs ls  hP hS (lv_sub hl [0, 1] rfl) hf
      · have hf := it_neg c_7 hf
        refine lv_iconst (v := 0) hx hb dX12_useNaturalOrder_10 (by decide) ?_
        obtain ⟨v3_11, e_v3_11, hf⟩ := lt_some hf
        refine x_istore_n (v := v3_11) (lv' := [(3, .int v3_11), (0, .ref h), (1, .int v1), (2, .int v2)]) hx hb dX12_useNaturalOrder_11 e_v3_11 rfl hl (by decide) rfl (fun ls hl => ?_)
        exact L12 v2   fu v1 v3_11 pairs H locs ls hP hS (lv_sub hl [1, 2, 3, 0] rfl) hf
  refine lv_iconst (v := 0) hx hb dX12_useNaturalOrder_0 (by decide) ?_
  obtain ⟨v1_1, e_v1_1, hf⟩ := lt_some hf
  refine x_istore_n (v := v1_1) (lv' := [(1, .int v1_1), (0, .ref h)]) hx hb dX12_useNaturalOrder_1 e_v1_1 rfl hl (by decide) rfl (fun ls hl => ?_)
  refine lv_iconst (v := 0) hx hb dX12_useNaturalOrder_2 (by decide) ?_
  obtain ⟨v2_3, e_v2_3, hf⟩ := lt_some hf
  refine x_istore_n (v := v2_3) (lv' := [(2, .int v2_3), (1, .int v1_1), (0, .ref h)]) hx hb dX12_useNaturalOrder_3 e_v2_3 rfl hl (by decide) rfl (fun ls hl => ?_)
  exact L4 above   fu v1_1 v2_3 pairs H locs ls hP hS (lv_sub hl [2, 1, 0] rfl) hf

set_option maxRecDepth 20000 in
theorem u_X12_applyLabelling_X12 : ∀ w ∈ wsX120, w ∈ wsX12_applyLabelling := xx_pl _ [16, 17, 18, 19, 20, 21, 22, 23, 24, 25, 26, 27, 28, 29, 30, 31, 32, 33, 34, 35, 36, 37, 38, 39, 40, 41, 42, 43, 44, 45, 46, 47, 48, 49, 50, 51, 52, 53, 54, 55, 56, 57, 58, 59, 60, 61, 62, 63, 64, 65, 66, 67] (by decide +kernel)
def f_X12_applyLabelling_J67 (fu : Nat) (v1 : Int32) (above : (Nat → Nat → Int32)) (labels : (Nat → Int32)) (pairs : (Nat → Nat → Int32)) : Option (Int32 × (Nat → Nat → Int32) × (Nat → Int32) × (Nat → Nat → Int32)) :=
  (f_X12_useNaturalOrder fu above pairs).bind (fun r_68 => some (v1, r_68.2.1, labels, r_68.2.2))
def f_X12_applyLabelling_J47 (found : (Nat → Int32)) (rec_18 : (Int32 → Int32 → (Nat → Int32) → Option (Int32 × (Nat → Nat → Int32) × (Nat → Int32) × (Nat → Nat → Int32)))) (t0 : Int32) (t1 : Int32) (v2 : Int32) (labels : (Nat → Int32)) : Option (Int32 × (Nat → Nat → Int32) × (Nat → Int32) × (Nat → Nat → Int32)) :=
  lt (t0 + t1) (fun v1_48 => ck v2 8 (ck v2 32 (lt (upd labels v2.toNatClampNeg (found v2.toNatClampNeg)) (fun labels_60 => lt (v2 + 1) (fun v2_61 => rec_18 v1_48 v2_61 labels_60)))))
def f_X12_applyLabelling_L18 (fu : Nat) (steps : Int32) (above : (Nat → Nat → Int32)) (found : (Nat → Int32)) (pairs : (Nat → Nat → Int32)) (rec_18 : Int32 → Int32 → (Nat → Int32) → Option (Int32 × (Nat → Nat → Int32) × (Nat → Int32) × (Nat → Nat → Int32))) (v1 : Int32) (v2 : Int32) (labels : (Nat → Int32)) : Option (Int32 × (Nat → Nat → Int32) × (Nat → Int32) × (Nat → Nat → Int32)) :=
  if steps ≤ v2 then (f_X12_applyLabelling_J67 fu v1 above labels pairs) else (ck v2 32 (ck v2 8 (if (labels v2.toNatClampNeg) = (found v2.toNatClampNeg) then (f_X12_applyLabelling_J47 found rec_18 v1 0 v2 labels) else (f_X12_applyLabelling_J47 found rec_18 v1 1 v2 labels))))
def f_X12_applyLabelling (fu : Nat) (steps : Int32) (foundSteps : Int32) (above : (Nat → Nat → Int32)) (found : (Nat → Int32)) (labels : (Nat → Int32)) (pairs : (Nat → Nat → Int32)) : Option (Int32 × (Nat → Nat → Int32) × (Nat → Int32) × (Nat → Nat → Int32)) :=
  if foundSteps = steps then (lt (0 : Int32) (fun v1_15 => lt (0 : Int32) (fun v2_17 => lp (τ := Int32 → Int32 → (Nat → Int32) → Option (Int32 × (Nat → Nat → Int32) × (Nat → Int32) × (Nat → Nat → Int32))) (fun _ _ _ => none) (f_X12_applyLabelling_L18 fu steps above found pairs) fu v1_15 v2_17 labels))) else (some ((-2), above, labels, pairs))
set_option maxHeartbeats 4000000 in
set_option maxRecDepth 100000 in
theorem k_X12_applyLabelling (l : Launch) (D : va_G) (G : Nat → ClassId) (fu : Nat) (h : Nat) (a_pairs : Nat) (a_above : Nat) (a_sources : Nat) (a_targets : Nat) (a_labels : Nat) (a_lengths : Nat) (a_letters : Nat) (a_distances : Nat) (a_longest : Nat) (a_lengthsTo : Nat) (a_lengthsFrom : Nat) (a_path : Nat) (a_output : Nat) (a_found : Nat) (a_keptLabels : Nat) (a_keptPairs : Nat) (a_input : Nat) (a_sides : Nat) (a_sideLengths : Nat) (a_newLengths : Nat) (a_newLetters : Nat) (a_newSources : Nat) (a_newTargets : Nat) (a_newLabels : Nat) (a_word : Nat) (a_failed : Nat) (a_sizes : Nat) (a_arrays : Nat) (a_savedLengths : Nat) (a_savedSources : Nat) (a_savedTargets : Nat) (a_savedLabels : Nat) (a_savedSideLengths : Nat) (a_savedLetters : Nat) (a_savedSides : Nat) (a_savedPairs : Nat) (r_above : Nat → Nat) (r_pairs : Nat → Nat) (objects : Int32) (steps : Int32) (firstStep : Int32) (secondStep : Int32) (pathLength : Int32) (outputLength : Int32) (foundSteps : Int32) (inputLength : Int32) (rules : Int32) (newObjects : Int32) (newSteps : Int32) (wordSize : Int32) (hasSnapshot : Int32) (savedObjects : Int32) (savedSteps : Int32) (savedRules : Int32) (above : (Nat → Nat → Int32)) (found : (Nat → Int32)) (labels : (Nat → Int32)) (pairs : (Nat → Nat → Int32))   (out : Int32 × (Nat → Nat → Int32) × (Nat → Int32) × (Nat → Nat → Int32)) (hf : f_X12_applyLabelling fu steps foundSteps above found labels pairs = some out) : xMet l yX12_applyLabelling wsX12_applyLabelling (rM 2 46) D G [.ref h] [[(h, .inr (11, [.ref a_pairs, .ref a_above, .int objects, .int steps, .ref a_sources, .ref a_targets, .ref a_labels, .ref a_lengths, .ref a_letters, .ref a_distances, .ref a_longest, .int firstStep, .int secondStep, .ref a_lengthsTo, .ref a_lengthsFrom, .ref a_path, .int pathLength, .ref a_output, .int outputLength, .ref a_found, .int foundSteps, .ref a_keptLabels, .ref a_keptPairs, .ref a_input, .int inputLength, .int rules, .ref a_sides, .ref a_sideLengths, .int newObjects, .int newSteps, .ref a_newLengths, .ref a_newLetters, .ref a_newSources, .ref a_newTargets, .ref a_newLabels, .ref a_word, .int wordSize, .ref a_failed, .ref a_sizes, .ref a_arrays, .int hasSnapshot, .int savedObjects, .int savedSteps, .int savedRules, .ref a_savedLengths, .ref a_savedSources, .ref a_savedTargets, .ref a_savedLabels, .ref a_savedSideLengths, .ref a_savedLetters, .ref a_savedSides, .ref a_savedPairs]))], [gO (G 6) a_above r_above 8], gI (G 2) r_above 8 8 above, [(a_found, .inl (G 0, 8, .inl found))], [(a_labels, .inl (G 0, 32, .inl labels))], [gO (G 6) a_pairs r_pairs 8], gI (G 2) r_pairs 8 8 pairs] (xQi D [[(h, .inr (11, [.ref a_pairs, .ref a_above, .int objects, .int steps, .ref a_sources, .ref a_targets, .ref a_labels, .ref a_lengths, .ref a_letters, .ref a_distances, .ref a_longest, .int firstStep, .int secondStep, .ref a_lengthsTo, .ref a_lengthsFrom, .ref a_path, .int pathLength, .ref a_output, .int outputLength, .ref a_found, .int foundSteps, .ref a_keptLabels, .ref a_keptPairs, .ref a_input, .int inputLength, .int rules, .ref a_sides, .ref a_sideLengths, .int newObjects, .int newSteps, .ref a_newLengths, .ref a_newLetters, .ref a_newSources, .ref a_newTargets, .ref a_newLabels, .ref a_word, .int wordSize, .ref a_failed, .ref a_sizes, .ref a_arrays, .int hasSnapshot, .int savedObjects, .int savedSteps, .int savedRules, .ref a_savedLengths, .ref a_savedSources, .ref a_savedTargets, .ref a_savedLabels, .ref a_savedSideLengths, .ref a_savedLetters, .ref a_savedSides, .ref a_savedPairs]))], [gO (G 6) a_above r_above 8], gI (G 2) r_above 8 8 out.2.1, [(a_found, .inl (G 0, 8, .inl found))], [(a_labels, .inl (G 0, 32, .inl out.2.2.1))], [gO (G 6) a_pairs r_pairs 8], gI (G 2) r_pairs 8 8 out.2.2.2] out.1) := by
  refine x_ent (cc := cX12_applyLabelling) (maxL := 3) (by decide) rfl (Nat.le_of_ble_eq_true rfl) ?_
  intro p e s m blw meth c aa ls args Q H locs hQ hx hb hr hml hown hts hlocks hE hN hl hP hS
  have hown : s.vm.findClass RX12 = some m.cls := hown
  have hl : lv_has ls 3 [(0, .ref h)] := hl
  have J67 : ∀ (v1 : Int32) (above : (Nat → Nat → Int32)) (labels : (Nat → Int32)) (pairs : (Nat → Nat → Int32)) (H : Heap) (locs : List Loc) (ls : Array Slot), xW D aa [[(h, .inr (11, [.ref a_pairs, .ref a_above, .int objects, .int steps, .ref a_sources, .ref a_targets, .ref a_labels, .ref a_lengths, .ref a_letters, .ref a_distances, .ref a_longest, .int firstStep, .int secondStep, .ref a_lengthsTo, .ref a_lengthsFrom, .ref a_path, .int pathLength, .ref a_output, .int outputLength, .ref a_found, .int foundSteps, .ref a_keptLabels, .ref a_keptPairs, .ref a_input, .int inputLength, .int rules, .ref a_sides, .ref a_sideLengths, .int newObjects, .int newSteps, .ref a_newLengths, .ref a_newLetters, .ref a_newSources, .ref a_newTargets, .ref a_newLabels, .ref a_word, .int wordSize, .ref a_failed, .ref a_sizes, .ref a_arrays, .int hasSnapshot, .int savedObjects, .int savedSteps, .int savedRules, .ref a_savedLengths, .ref a_savedSources, .ref a_savedTargets, .ref a_savedLabels, .ref a_savedSideLengths, .ref a_savedLetters, .ref a_savedSides, .ref a_savedPairs]))], [gO (G 6) a_above r_above 8], gI (G 2) r_above 8 8 above, [(a_found, .inl (G 0, 8, .inl found))], [(a_labels, .inl (G 0, 32, .inl labels))], [gO (G 6) a_pairs r_pairs 8], gI (G 2) r_pairs 8 8 pairs] H → va_S (xA aa) s.heap H locs → lv_has ls 3 [(0, .ref h), (1, .int v1)] → f_X12_applyLabelling_J67 fu v1 above labels pairs = some out → W p l e (rM 2 46) s m args blw meth c H locs 0 0 Q (F0 m 67 ls []) := by
    intro v1 above labels pairs  H locs ls  hP hS hl hf
    refine lv_aload_n hx hb dX12_applyLabelling_67 rfl (lv_at hl 0 rfl) ?_
    obtain ⟨r_68, hr_68, hf⟩ := bd_some hf
    refine x_goi (ps := [0, 1, 2, 5, 6]) (qs := [3, 4]) (n := 7) (I' := [[(h, .inr (11, [.ref a_pairs, .ref a_above, .int objects, .int steps, .ref a_sources, .ref a_targets, .ref a_labels, .ref a_lengths, .ref a_letters, .ref a_distances, .ref a_longest, .int firstStep, .int secondStep, .ref a_lengthsTo, .ref a_lengthsFrom, .ref a_path, .int pathLength, .ref a_output, .int outputLength, .ref a_found, .int foundSteps, .ref a_keptLabels, .ref a_keptPairs, .ref a_input, .int inputLength, .int rules, .ref a_sides, .ref a_sideLengths, .int newObjects, .int newSteps, .ref a_newLengths, .ref a_newLetters, .ref a_newSources, .ref a_newTargets, .ref a_newLabels, .ref a_word, .int wordSize, .ref a_failed, .ref a_sizes, .ref a_arrays, .int hasSnapshot, .int savedObjects, .int savedSteps, .int savedRules, .ref a_savedLengths, .ref a_savedSources, .ref a_savedTargets, .ref a_savedLabels, .ref a_savedSideLengths, .ref a_savedLetters, .ref a_savedSides, .ref a_savedPairs]))], [gO (G 6) a_above r_above 8], gI (G 2) r_above 8 8 r_68.2.1, [(a_found, .inl (G 0, 8, .inl found))], [(a_labels, .inl (G 0, 32, .inl labels))], [gO (G 6) a_pairs r_pairs 8], gI (G 2) r_pairs 8 8 r_68.2.2]) (x_runV (As := []) (rest := []) (ps := [0, 1, 2, 5, 6]) ⟨hx, hb, hml, hown, hts⟩ (k_X12_useNaturalOrder l D G fu h a_pairs a_above a_sources a_targets a_labels a_lengths a_letters a_distances a_longest a_lengthsTo a_lengthsFrom a_path a_output a_found a_keptLabels a_keptPairs a_input a_sides a_sideLengths a_newLengths a_newLetters a_newSources a_newTargets a_newLabels a_word a_failed a_sizes a_arrays a_savedLengths a_savedSources a_savedTargets a_savedLabels a_savedSideLengths a_savedLetters a_savedSides a_savedPairs r_above r_pairs objects steps firstStep secondStep pathLength outputLength foundSteps inputLength rules newObjects newSteps wordSize hasSnapshot savedObjects savedSteps savedRules above pairs r_68 hr_68) (cwV 0 hts gX12_applyLabelling_X12_useNaturalOrder rfl rfl rfl (by decide +kernel) ⟨Nat.le_of_ble_eq_true rfl, Nat.le_of_ble_eq_true rfl⟩) hE hP hN rfl (by decide) 0 rfl rfl rfl hl.1 (Nat.le_of_ble_eq_true rfl) dX12_applyLabelling_68 ⟨Nat.zero_le _, Nat.zero_le _⟩) hP hN hS rfl rfl rfl rfl rfl (by decide) (fun H locs hP hS => ?_)
    refine lv_pop hx hb dX12_applyLabelling_71 rfl ?_
    refine lv_iload_n hx hb dX12_applyLabelling_72 rfl (lv_at hl 1 rfl) ?_
    have hf := Option.some.inj hf
    rewrite [← hQ, ← hf]
    exact x_iret hx hb hr hlocks hP hS dX12_applyLabelling_73
  have L18 : ∀ (above : (Nat → Nat → Int32)) (pairs : (Nat → Nat → Int32)), ∀ (n_18 : Nat) (v1 : Int32) (v2 : Int32) (labels : (Nat → Int32)) (H : Heap) (locs : List Loc) (ls : Array Slot), xW D aa [[(h, .inr (11, [.ref a_pairs, .ref a_above, .int objects, .int steps, .ref a_sources, .ref a_targets, .ref a_labels, .ref a_lengths, .ref a_letters, .ref a_distances, .ref a_longest, .int firstStep, .int secondStep, .ref a_lengthsTo, .ref a_lengthsFrom, .ref a_path, .int pathLength, .ref a_output, .int outputLength, .ref a_found, .int foundSteps, .ref a_keptLabels, .ref a_keptPairs, .ref a_input, .int inputLength, .int rules, .ref a_sides, .ref a_sideLengths, .int newObjects, .int newSteps, .ref a_newLengths, .ref a_newLetters, .ref a_newSources, .ref a_newTargets, .ref a_newLabels, .ref a_word, .int wordSize, .ref a_failed, .ref a_sizes, .ref a_arrays, .int hasSnapshot, .int savedObjects, .int savedSteps, .int savedRules, .ref a_savedLengths, .ref a_savedSources, .ref a_savedTargets, .ref a_savedLabels, .ref a_savedSideLengths, .ref a_savedLetters, .ref a_savedSides, .ref a_savedPairs]))], [gO (G 6) a_above r_above 8], gI (G 2) r_above 8 8 above, [(a_found, .inl (G 0, 8, .inl found))], [(a_labels, .inl (G 0, 32, .inl labels))], [gO (G 6) a_pairs r_pairs 8], gI (G 2) r_pairs 8 8 pairs] H → va_S (xA aa) s.heap H locs → lv_has ls 3 [(0, .ref h), (1, .int v1), (2, .int v2)] → lp (τ := Int32 → Int32 → (Nat → Int32) → Option (Int32 × (Nat → Nat → Int32) × (Nat → Int32) × (Nat → Nat → Int32))) (fun _ _ _ => none) (f_X12_applyLabelling_L18 fu steps above found pairs) n_18 v1 v2 labels = some out → W p l e (rM 2 46) s m args blw meth c H locs 0 0 Q (F0 m 18 ls []) := by
    intro above pairs   n_18
    induction n_18 with
    | zero =>
      intro v1 v2 labels H locs ls hP hS hl hf
      exact no_some hf
    | succ n_18 ih_18 =>
      intro v1 v2 labels H locs ls hP hS hl hf
      have hf : f_X12_applyLabelling_L18 fu steps above found pairs (lp (τ := Int32 → Int32 → (Nat → Int32) → Option (Int32 × (Nat → Nat → Int32) × (Nat → Int32) × (Nat → Nat → Int32))) (fun _ _ _ => none) (f_X12_applyLabelling_L18 fu steps above found pairs) n_18) v1 v2 labels = some out := hf
      have J47 : ∀ (t0 : Int32) (t1 : Int32) (v2 : Int32) (labels : (Nat → Int32)) (H : Heap) (locs : List Loc) (ls : Array Slot), xW D aa [[(h, .inr (11, [.ref a_pairs, .ref a_above, .int objects, .int steps, .ref a_sources, .ref a_targets, .ref a_labels, .ref a_lengths, .ref a_letters, .ref a_distances, .ref a_longest, .int firstStep, .int secondStep, .ref a_lengthsTo, .ref a_lengthsFrom, .ref a_path, .int pathLength, .ref a_output, .int outputLength, .ref a_found, .int foundSteps, .ref a_keptLabels, .ref a_keptPairs, .ref a_input, .int inputLength, .int rules, .ref a_sides, .ref a_sideLengths, .int newObjects, .int newSteps, .ref a_newLengths, .ref a_newLetters, .ref a_newSources, .ref a_newTargets, .ref a_newLabels, .ref a_word, .int wordSize, .ref a_failed, .ref a_sizes, .ref a_arrays, .int hasSnapshot, .int savedObjects, .int savedSteps, .int savedRules, .ref a_savedLengths, .ref a_savedSources, .ref a_savedTargets, .ref a_savedLabels, .ref a_savedSideLengths, .ref a_savedLetters, .ref a_savedSides, .ref a_savedPairs]))], [gO (G 6) a_above r_above 8], gI (G 2) r_above 8 8 above, [(a_found, .inl (G 0, 8, .inl found))], [(a_labels, .inl (G 0, 32, .inl labels))], [gO (G 6) a_pairs r_pairs 8], gI (G 2) r_pairs 8 8 pairs] H → va_S (xA aa) s.heap H locs → lv_has ls 3 [(0, .ref h), (2, .int v2)] → f_X12_applyLabelling_J47 found (lp (τ := Int32 → Int32 → (Nat → Int32) → Option (Int32 × (Nat → Nat → Int32) × (Nat → Int32) × (Nat → Nat → Int32))) (fun _ _ _ => none) (f_X12_applyLabelling_L18 fu steps above found pairs) n_18) t0 t1 v2 labels = some out → W p l e (rM 2 46) s m args blw meth c H locs 0 0 Q (F0 m 47 ls [.int t1, .int t0]) := by
        intro t0 t1 v2 labels  H locs ls  hP hS hl hf
        refine lv_iadd hx hb dX12_applyLabelling_47 ?_
        obtain ⟨v1_48, e_v1_48, hf⟩ := lt_some hf
        refine x_istore_n (v := v1_48) (lv' := [(1, .int v1_48), (0, .ref h), (2, .int v2)]) hx hb dX12_applyLabelling_48 e_v1_48 rfl hl (by decide) rfl (fun ls hl => ?_)
        refine lv_aload_n hx hb dX12_applyLabelling_49 rfl (lv_at hl 1 rfl) ?_
        refine x_get hx hb hts u_X12_applyLabelling_X12 hown hE hP 0 rfl rfl 6 (by decide) (hts (.fieldLink RX12 24 "DecreasingDiagramsModel" "labels" "[I") (List.mem_of_getElem? (i := 3) rfl)) rfl dX12_applyLabelling_50 ?_
        refine lv_iload_n hx hb dX12_applyLabelling_53 rfl (lv_at hl 2 rfl) ?_
        refine lv_aload_n hx hb dX12_applyLabelling_54 rfl (lv_at hl 1 rfl) ?_
        refine x_get hx hb hts u_X12_applyLabelling_X12 hown hE hP 0 rfl rfl 19 (by decide) (hts (.fieldLink RX12 53 "DecreasingDiagramsModel" "found" "[I") (List.mem_of_getElem? (i := 4) rfl)) rfl dX12_applyLabelling_55 ?_
        refine lv_iload_n hx hb dX12_applyLabelling_58 rfl (lv_at hl 2 rfl) ?_
        obtain ⟨hi, hf⟩ := ck_some hf
        refine x_iald hx hb hE hP 3 rfl hi dX12_applyLabelling_59 ?_
        obtain ⟨hi, hf⟩ := ck_some hf
        obtain ⟨labels_60, e_labels_60, hf⟩ := lt_some hf
        refine x_iast (I' := [[(h, .inr (11, [.ref a_pairs, .ref a_above, .int objects, .int steps, .ref a_sources, .ref a_targets, .ref a_labels, .ref a_lengths, .ref a_letters, .ref a_distances, .ref a_longest, .int firstStep, .int secondStep, .ref a_lengthsTo, .ref a_lengthsFrom, .ref a_path, .int pathLength, .ref a_output, .int outputLength, .ref a_found, .int foundSteps, .ref a_keptLabels, .ref a_keptPairs, .ref a_input, .int inputLength, .int rules, .ref a_sides, .ref a_sideLengths, .int newObjects, .int newSteps, .ref a_newLengths, .ref a_newLetters, .ref a_newSources, .ref a_newTargets, .ref a_newLabels, .ref a_word, .int wordSize, .ref a_failed, .ref a_sizes, .ref a_arrays, .int hasSnapshot, .int savedObjects, .int savedSteps, .int savedRules, .ref a_savedLengths, .ref a_savedSources, .ref a_savedTargets, .ref a_savedLabels, .ref a_savedSideLengths, .ref a_savedLetters, .ref a_savedSides, .ref a_savedPairs]))], [gO (G 6) a_above r_above 8], gI (G 2) r_above 8 8 above, [(a_found, .inl (G 0, 8, .inl found))], [(a_labels, .inl (G 0, 32, .inl labels_60))], [gO (G 6) a_pairs r_pairs 8], gI (G 2) r_pairs 8 8 pairs]) hx hb hE hP hN hS 4 rfl hi e_labels_60 rfl dX12_applyLabelling_60 (fun H locs hP hS => ?_)
        obtain ⟨v2_61, e_v2_61, hf⟩ := lt_some hf
        refine lv_iinc (v := v2_61) (lv' := [(2, .int v2_61), (1, .int v1_48), (0, .ref h)]) hx hb dX12_applyLabelling_61 hl (k := 2) rfl (by rw [e_v2_61]; rfl) (by decide) rfl (fun ls hl => ?_)
        refine lv_goto (tgt := 18) hx hb dX12_applyLabelling_64 (by decide) ?_
        exact ih_18 v1_48 v2_61 labels_60 H locs ls hP hS (lv_sub hl [2, 1, 0] rfl) hf
      refine lv_iload_n hx hb dX12_applyLabelling_18 rfl (lv_at hl 2 rfl) ?_
      refine lv_aload_n hx hb dX12_applyLabelling_19 rfl (lv_at hl 0 rfl) ?_
      refine x_get hx hb hts u_X12_applyLabelling_X12 hown hE hP 0 rfl rfl 3 (by decide) (hts (.fieldLink RX12 135 "DecreasingDiagramsModel" "steps" "I") (List.mem_of_getElem? (i := 2) rfl)) rfl dX12_applyLabelling_20 ?_
      refine lv_icmp_ge (tgt := 67) hx hb dX12_applyLabelling_23 (by decide) (fun c_23 => ?_) (fun c_23 => ?_)
      · have hf := it_pos c_23 hf
        exact J67 v1 above labels pairs  H locs ls  hP hS (lv_sub hl [0, 1] rfl) hf
      · have hf := it_neg c_23 hf
        refine lv_iload_n hx hb dX12_applyLabelling_26 rfl (lv_at hl 1 rfl) ?_
        refine lv_aload_n hx hb dX12_applyLabelling_27 rfl (lv_at hl 0 rfl) ?_
        refine x_get hx hb hts u_X12_applyLabelling_X12 hown hE hP 0 rfl rfl 6 (by decide) (hts (.fieldLink RX12 24 "DecreasingDiagramsModel" "labels" "[I") (List.mem_of_getElem? (i := 3) rfl)) rfl dX12_applyLabelling_28 ?_
        refine lv_iload_n hx hb dX12_applyLabelling_31 rfl (lv_at hl 2 rfl) ?_
        obtain ⟨hi, hf⟩ := ck_some hf
        refine x_iald hx hb hE hP 4 rfl hi dX12_applyLabelling_32 ?_
        refine lv_aload_n hx hb dX12_applyLabelling_33 rfl (lv_at hl 0 rfl) ?_
        refine x_get hx hb hts u_X12_applyLabelling_X12 hown hE hP 0 rfl rfl 19 (by decide) (hts (.fieldLink RX12 53 "DecreasingDiagramsModel" "found" "[I") (List.mem_of_getElem? (i := 4) rfl)) rfl dX12_applyLabelling_34 ?_
        refine lv_iload_n hx hb dX12_applyLabelling_37 rfl (lv_at hl 2 rfl) ?_
        obtain ⟨hi, hf⟩ := ck_some hf
        refine x_iald hx hb hE hP 3 rfl hi dX12_applyLabelling_38 ?_
        refine lv_icmp_eq (tgt := 46) hx hb dX12_applyLabelling_39 (by decide) (fun c_39 => ?_) (fun c_39 => ?_)
        · have hf := it_pos c_39 hf
          refine lv_iconst (v := 0) hx hb dX12_applyLabelling_46 (by decide) ?_
          exact J47 v1 0 v2 labels  H locs ls  hP hS (lv_sub hl [0, 2] rfl) hf
        · have hf := it_neg c_39 hf
          refine lv_iconst (v := 1) hx hb dX12_applyLabelling_42 (by decide) ?_
          refine lv_goto (tgt := 47) hx hb dX12_applyLabelling_43 (by decide) ?_
          exact J47 v1 1 v2 labels  H locs ls  hP hS (lv_sub hl [0, 2] rfl) hf
  refine lv_aload_n hx hb dX12_applyLabelling_0 rfl (lv_at hl 0 rfl) ?_
  refine x_get hx hb hts u_X12_applyLabelling_X12 hown hE hP 0 rfl rfl 20 (by decide) (hts (.fieldLink RX12 56 "DecreasingDiagramsModel" "foundSteps" "I") (List.mem_of_getElem? (i := 1) rfl)) rfl dX12_applyLabelling_1 ?_
  refine lv_aload_n hx hb dX12_applyLabelling_4 rfl (lv_at hl 0 rfl) ?_
  refine x_get hx hb hts u_X12_applyLabelling_X12 hown hE hP 0 rfl rfl 3 (by decide) (hts (.fieldLink RX12 135 "DecreasingDiagramsModel" "steps" "I") (List.mem_of_getElem? (i := 2) rfl)) rfl dX12_applyLabelling_5 ?_
  refine lv_icmp_eq (tgt := 14) hx hb dX12_applyLabelling_8 (by decide) (fun c_8 => ?_) (fun c_8 => ?_)
  · have hf := it_pos c_8 hf
    refine lv_iconst (v := 0) hx hb dX12_applyLabelling_14 (by decide) ?_
    obtain ⟨v1_15, e_v1_15, hf⟩ := lt_some hf
    refine x_istore_n (v := v1_15) (lv' := [(1, .int v1_15), (0, .ref h)]) hx hb dX12_applyLabelling_15 e_v1_15 rfl hl (by decide) rfl (fun ls hl => ?_)
    refine lv_iconst (v := 0) hx hb dX12_applyLabelling_16 (by decide) ?_
    obtain ⟨v2_17, e_v2_17, hf⟩ := lt_some hf
    refine x_istore_n (v := v2_17) (lv' := [(2, .int v2_17), (1, .int v1_15), (0, .ref h)]) hx hb dX12_applyLabelling_17 e_v2_17 rfl hl (by decide) rfl (fun ls hl => ?_)
    exact L18 above pairs   fu v1_15 v2_17 labels H locs ls hP hS (lv_sub hl [2, 1, 0] rfl) hf
  · have hf := it_neg c_8 hf
    refine lv_bipush (v := -2) hx hb dX12_applyLabelling_11 (by decide) ?_
    have hf := Option.some.inj hf
    rewrite [← hQ, ← hf]
    exact x_iret hx hb hr hlocks hP hS dX12_applyLabelling_13
