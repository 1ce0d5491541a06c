set_option maxRecDepth 20000 in
theorem u_X3_successors_X3 : ∀ w ∈ wsX30, w ∈ wsX3_successors := xx_pl _ [5, 6, 7, 8, 9, 10] (by decide +kernel)
def f_X3_successors_J50 (rec_5 : (Int32 → Int32 → Option (Int32))) (v3 : Int32) (v4 : Int32) : Option (Int32) :=
  lt (v4 + 1) (fun v4_50 => rec_5 v3 v4_50)
def f_X3_successors_L5 (steps : Int32) (labels : (Nat → Int32)) (sources : (Nat → Int32)) (targets : (Nat → Int32)) (v1 : Int32) (v2 : Int32) (rec_5 : Int32 → Int32 → Option (Int32)) (v3 : Int32) (v4 : Int32) : Option (Int32) :=
  if steps ≤ v4 then (some v3) else (ck v4 32 (ck v4 32 (if (((v1 >>> ((sources v4.toNatClampNeg) &&& 31)) &&& (v2 >>> ((labels v4.toNatClampNeg) &&& 31))) &&& 1) = 0 then (f_X3_successors_J50 rec_5 v3 v4) else (ck v4 32 (lt (v3 ||| (1 <<< ((targets v4.toNatClampNeg) &&& 31))) (fun v3_49 => f_X3_successors_J50 rec_5 v3_49 v4))))))
def f_X3_successors (steps : Int32) (labels : (Nat → Int32)) (sources : (Nat → Int32)) (targets : (Nat → Int32)) (v1 : Int32) (v2 : Int32) : Option (Int32) :=
  lt 0 (fun v3_1 => lt 0 (fun v4_3 => lp (τ := Int32 → Int32 → Option (Int32)) (fun _ _ => none) (f_X3_successors_L5 steps labels sources targets v1 v2) fuel v3_1 v4_3))
set_option maxHeartbeats 4000000 in
set_option maxRecDepth 100000 in
theorem k_X3_successors (l : Launch) (D : va_G) (G : Nat → ClassId) (h : Nat) (a_words : Nat) (a_sources : Nat) (a_targets : Nat) (a_labels : Nat) (objects : Int32) (steps : Int32) (labels : (Nat → Int32)) (sources : (Nat → Int32)) (targets : (Nat → Int32))  (v1 : Int32) (v2 : Int32) (out : Int32) (hf : f_X3_successors steps labels sources targets v1 v2 = some out) : xMet l yX3_successors wsX3_successors (rM 0 0) D G [.ref h, .int v1, .int v2] [[(h, .inr (3, [.int objects, .ref a_words, .int steps, .ref a_sources, .ref a_targets, .ref a_labels]))], [(a_labels, .inl (G 0, 32, .inl labels))], [(a_sources, .inl (G 0, 32, .inl sources))], [(a_targets, .inl (G 0, 32, .inl targets))]] (xQi D [[(h, .inr (3, [.int objects, .ref a_words, .int steps, .ref a_sources, .ref a_targets, .ref a_labels]))], [(a_labels, .inl (G 0, 32, .inl labels))], [(a_sources, .inl (G 0, 32, .inl sources))], [(a_targets, .inl (G 0, 32, .inl targets))]] out) := by
  refine x_ent (cc := cX3_successors) (maxL := 5) (by decide) rfl (Nat.le_of_ble_eq_true rfl) ?_
  intro p e s m below meth c aa ls args Q hQ hx hb hr hml hown hts hlocks hE hN hP hl hS
  have hown : s.vm.findClass RX3 = some m.cls := hown
  have hl : lv_has ls 5 [(0, .ref h), (1, .int v1), (2, .int v2)] := hl
  have L5 : ∀ (n_5 : Nat) (v3 : Int32) (v4 : Int32) (H : Heap) (locs : List Loc) (ls : Array Slot), xW D aa [[(h, .inr (3, [.int objects, .ref a_words, .int steps, .ref a_sources, .ref a_targets, .ref a_labels]))], [(a_labels, .inl (G 0, 32, .inl labels))], [(a_sources, .inl (G 0, 32, .inl sources))], [(a_targets, .inl (G 0, 32, .inl targets))]] H → va_S (xA aa) s.heap H locs → lv_has ls 5 [(0, .ref h), (1, .int v1), (2, .int v2), (3, .int v3), (4, .int v4)] → lp (τ := Int32 → Int32 → Option (Int32)) (fun _ _ => none) (f_X3_successors_L5 steps labels sources targets v1 v2) n_5 v3 v4 = some out → W p l e (rM 0 0) s m args below meth c H locs 0 0 Q (F0 m 5 ls []) := by
    intro    n_5
    induction n_5 with
    | zero =>
      intro v3 v4 H locs ls hP hS hl hf
      exact no_some hf
    | succ n_5 ih_5 =>
      intro v3 v4 H locs ls hP hS hl hf
      have hf : f_X3_successors_L5 steps labels sources targets v1 v2 (lp (τ := Int32 → Int32 → Option (Int32)) (fun _ _ => none) (f_X3_successors_L5 steps labels sources targets v1 v2) n_5) v3 v4 = some out := hf
      rw [f_X3_successors_L5] at hf
      have J50 : ∀ (v3 : Int32) (v4 : Int32) (H : Heap) (locs : List Loc) (ls : Array Slot), xW D aa [[(h, .inr (3, [.int objects, .ref a_words, .int steps, .ref a_sources, .ref a_targets, .ref a_labels]))], [(a_labels, .inl (G 0, 32, .inl labels))], [(a_sources, .inl (G 0, 32, .inl sources))], [(a_targets, .inl (G 0, 32, .inl targets))]] H → va_S (xA aa) s.heap H locs → lv_has ls 5 [(0, .ref h), (1, .int v1), (2, .int v2), (3, .int v3), (4, .int v4)] → f_X3_successors_J50 (lp (τ := Int32 → Int32 → Option (Int32)) (fun _ _ => none) (f_X3_successors_L5 steps labels sources targets v1 v2) n_5) v3 v4 = some out → W p l e (rM 0 0) s m args below meth c H locs 0 0 Q (F0 m 50 ls []) := by
        intro v3 v4  H locs ls  hP hS hl hf
        rw [f_X3_successors_J50] at hf
        obtain ⟨v4_50, e_v4_50, hf⟩ := lt_some hf
        refine lv_iinc (v := v4_50) (lv' := [(4, .int v4_50), (0, .ref h), (1, .int v1), (2, .int v2), (3, .int v3)]) hx hb dX3_successors_50 hl (k := 4) rfl (by rw [e_v4_50]; rfl) (by decide) rfl (fun ls hl => ?_)
        refine lv_goto (tgt := 5) hx hb dX3_successors_53 (by decide) ?_
        exact ih_5 v3 v4_50 H locs ls hP hS (lv_sub hl [1, 2, 3, 4, 0] rfl) hf
      refine lv_iload hx hb dX3_successors_5 (lv_at hl 4 rfl) ?_
      refine lv_aload_n hx hb dX3_successors_7 rfl (lv_at hl 0 rfl) ?_
      refine x_get hx hb hts u_X3_successors_X3 hown hE hP 0 rfl rfl 2 (by decide) (hts (.fieldLink RX3 19 "DecreasingDiagrams$LabelledSystem" "steps" "I") (List.mem_of_getElem? (i := 1) rfl)) rfl dX3_successors_8 ?_
      refine lv_icmp_ge (tgt := 56) hx hb dX3_successors_11 (by decide) (fun c_11 => ?_) (fun c_11 => ?_)
      · have hf := it_pos c_11 hf
        refine lv_iload_n hx hb dX3_successors_56 rfl (lv_at hl 3 rfl) ?_
        have hf := Option.some.inj hf
        subst hf
        subst hQ
        exact x_iret hx hb hr hlocks hP hS dX3_successors_57
      · have hf := it_neg c_11 hf
        refine lv_iload_n hx hb dX3_successors_14 rfl (lv_at hl 1 rfl) ?_
        refine lv_aload_n hx hb dX3_successors_15 rfl (lv_at hl 0 rfl) ?_
        refine x_get hx hb hts u_X3_successors_X3 hown hE hP 0 rfl rfl 3 (by decide) (hts (.fieldLink RX3 22 "DecreasingDiagrams$LabelledSystem" "sources" "[I") (List.mem_of_getElem? (i := 2) rfl)) rfl dX3_successors_16 ?_
        refine lv_iload hx hb dX3_successors_19 (lv_at hl 4 rfl) ?_
        obtain ⟨hi, hf⟩ := ck_some hf
        refine x_iald hx hb hE hP 2 rfl hi dX3_successors_21 ?_
        refine lv_ishr hx hb dX3_successors_22 ?_
        refine lv_iload_n hx hb dX3_successors_23 rfl (lv_at hl 2 rfl) ?_
        refine lv_aload_n hx hb dX3_successors_24 rfl (lv_at hl 0 rfl) ?_
        refine x_get hx hb hts u_X3_successors_X3 hown hE hP 0 rfl rfl 5 (by decide) (hts (.fieldLink RX3 28 "DecreasingDiagrams$LabelledSystem" "labels" "[I") (List.mem_of_getElem? (i := 3) rfl)) rfl dX3_successors_25 ?_
        refine lv_iload hx hb dX3_successors_28 (lv_at hl 4 rfl) ?_
        obtain ⟨hi, hf⟩ := ck_some hf
        refine x_iald hx hb hE hP 1 rfl hi dX3_successors_30 ?_
        refine lv_ishr hx hb dX3_successors_31 ?_
        refine lv_iand hx hb dX3_successors_32 ?_
        refine lv_iconst (v := 1) hx hb dX3_successors_33 (by decide) ?_
        refine lv_iand hx hb dX3_successors_34 ?_
        refine lv_if_eq (tgt := 50) hx hb dX3_successors_35 (by decide) (fun c_35 => ?_) (fun c_35 => ?_)
        · have hf := it_pos c_35 hf
          exact J50 v3 v4  H locs ls  hP hS (lv_sub hl [0, 1, 2, 3, 4] rfl) hf
        · have hf := it_neg c_35 hf
          refine lv_iload_n hx hb dX3_successors_38 rfl (lv_at hl 3 rfl) ?_
          refine lv_iconst (v := 1) hx hb dX3_successors_39 (by decide) ?_
          refine lv_aload_n hx hb dX3_successors_40 rfl (lv_at hl 0 rfl) ?_
          refine x_get hx hb hts u_X3_successors_X3 hown hE hP 0 rfl rfl 4 (by decide) (hts (.fieldLink RX3 25 "DecreasingDiagrams$LabelledSystem" "targets" "[I") (List.mem_of_getElem? (i := 4) rfl)) rfl dX3_successors_41 ?_
          refine lv_iload hx hb dX3_successors_44 (lv_at hl 4 rfl) ?_
          obtain ⟨hi, hf⟩ := ck_some hf
          refine x_iald hx hb hE hP 3 rfl hi dX3_successors_46 ?_
          refine lv_ishl hx hb dX3_successors_47 ?_
          refine lv_ior hx hb dX3_successors_48 ?_
          obtain ⟨v3_49, e_v3_49, hf⟩ := lt_some hf
          refine x_istore_n (v := v3_49) (lv' := [(3, .int v3_49), (0, .ref h), (1, .int v1), (2, .int v2), (4, .int v4)]) hx hb dX3_successors_49 e_v3_49 rfl hl (by decide) rfl (fun ls hl => ?_)
          exact J50 v3_49 v4  H locs ls  hP hS (lv_sub hl [1, 2, 3, 0, 4] rfl) hf
  rw [f_X3_successors] at hf
  obtain ⟨H, hH⟩ : ∃ H : Heap, H = s.heap := ⟨_, rfl⟩
  obtain ⟨locs, hlocs⟩ : ∃ locs : List Loc, locs = [] := ⟨_, rfl⟩
  have hP : xW D aa [[(h, .inr (3, [.int objects, .ref a_words, .int steps, .ref a_sources, .ref a_targets, .ref a_labels]))], [(a_labels, .inl (G 0, 32, .inl labels))], [(a_sources, .inl (G 0, 32, .inl sources))], [(a_targets, .inl (G 0, 32, .inl targets))]] H := by rw [hH]; exact hP
  have hS : va_S (xA aa) s.heap H locs := by rw [hH, hlocs]; exact hS
  suffices GO : W p l e (rM 0 0) s m args below meth c H locs 0 0 Q (F0 m 0 ls []) by
    rw [hH, hlocs] at GO
    exact GO
  clear hH hlocs
  refine lv_iconst (v := 0) hx hb dX3_successors_0 (by decide) ?_
  obtain ⟨v3_1, e_v3_1, hf⟩ := lt_some hf
  refine x_istore_n (v := v3_1) (lv' := [(3, .int v3_1), (0, .ref h), (1, .int v1), (2, .int v2)]) hx hb dX3_successors_1 e_v3_1 rfl hl (by decide) rfl (fun ls hl => ?_)
  refine lv_iconst (v := 0) hx hb dX3_successors_2 (by decide) ?_
  obtain ⟨v4_3, e_v4_3, hf⟩ := lt_some hf
  refine x_istore (v := v4_3) (lv' := [(4, .int v4_3), (3, .int v3_1), (0, .ref h), (1, .int v1), (2, .int v2)]) hx hb dX3_successors_3 e_v4_3 hl (by decide) rfl (fun ls hl => ?_)
  exact L5    fuel v3_1 v4_3 H locs ls hP hS (lv_sub hl [2, 3, 4, 1, 0] rfl) hf

set_option maxRecDepth 20000 in
theorem u_X3_closure_X3 : ∀ w ∈ wsX30, w ∈ wsX3_closure := xx_pl _ [11, 12, 13, 14, 15, 16] (by decide +kernel)
def f_X3_closure_L11 (objects : Int32) (steps : Int32) (labels : (Nat → Int32)) (sources : (Nat → Int32)) (targets : (Nat → Int32)) (v2 : Int32) (rec_11 : Int32 → Int32 → Option (Int32)) (v3 : Int32) (v4 : Int32) : Option (Int32) :=
  if objects ≤ v4 then (some v3) else ((f_X3_successors steps labels sources targets v3 v2).bind (fun r_24 => lt (v3 ||| r_24) (fun v5_28 => if ¬ v5_28 = v3 then (lt v5_28 (fun v3_40 => lt (v4 + 1) (fun v4_41 => rec_11 v3_40 v4_41))) else (some v3))))
def f_X3_closure (objects : Int32) (steps : Int32) (labels : (Nat → Int32)) (sources : (Nat → Int32)) (targets : (Nat → Int32)) (v1 : Int32) (v2 : Int32) : Option (Int32) :=
  if ¬ v2 = 0 then (lt v1 (fun v3_7 => lt 0 (fun v4_9 => lp (τ := Int32 → Int32 → Option (Int32)) (fun _ _ => none) (f_X3_closure_L11 objects steps labels sources targets v2) fuel v3_7 v4_9))) else (some v1)
set_option maxHeartbeats 4000000 in
set_option maxRecDepth 100000 in
theorem k_X3_closure (l : Launch) (D : va_G) (G : Nat → ClassId) (h : Nat) (a_words : Nat) (a_sources : Nat) (a_targets : Nat) (a_labels : Nat) (objects : Int32) (steps : Int32) (labels : (Nat → Int32)) (sources : (Nat → Int32)) (targets : (Nat → Int32))  (v1 : Int32) (v2 : Int32) (out : Int32) (hf : f_X3_closure objects steps labels sources targets v1 v2 = some out) : xMet l yX3_closure wsX3_closure (rM 1 24) D G [.ref h, .int v1, .int v2] [[(h, .inr (3, [.int objects, .ref a_words, .int steps, .ref a_sources, .ref a_targets, .ref a_labels]))], [(a_labels, .inl (G 0, 32, .inl labels))], [(a_sources, .inl (G 0, 32, .inl sources))], [(a_targets, .inl (G 0, 32, .inl targets))]] (xQi D [[(h, .inr (3, [.int objects, .ref a_words, .int steps, .ref a_sources, .ref a_targets, .ref a_labels]))], [(a_labels, .inl (G 0, 32, .inl labels))], [(a_sources, .inl (G 0, 32, .inl sources))], [(a_targets, .inl (G 0, 32, .inl targets))]] out) := by
  refine x_ent (cc := cX3_closure) (maxL := 6) (by decide) rfl (Nat.le_of_ble_eq_true rfl) ?_
  intro p e s m below meth c aa ls args Q hQ hx hb hr hml hown hts hlocks hE hN hP hl hS
  have hown : s.vm.findClass RX3 = some m.cls := hown
  have hl : lv_has ls 6 [(0, .ref h), (1, .int v1), (2, .int v2)] := hl
  have L11 : ∀ (n_11 : Nat) (v3 : Int32) (v4 : Int32) (H : Heap) (locs : List Loc) (ls : Array Slot), xW D aa [[(h, .inr (3, [.int objects, .ref a_words, .int steps, .ref a_sources, .ref a_targets, .ref a_labels]))], [(a_labels, .inl (G 0, 32, .inl labels))], [(a_sources, .inl (G 0, 32, .inl sources))], [(a_targets, .inl (G 0, 32, .inl targets))]] H → va_S (xA aa) s.heap H locs → lv_has ls 6 [(0, .ref h), (2, .int v2), (3, .int v3), (4, .int v4)] → lp (τ := Int32 → Int32 → Option (Int32)) (fun _ _ => none) (f_X3_closure_L11 objects steps labels sources targets v2) n_11 v3 v4 = some out → W p l e (rM 1 24) s m args below meth c H locs 0 0 Q (F0 m 11 ls []) := by
    intro    n_11
    induction n_11 with
    | zero =>
      intro v3 v4 H locs ls hP hS hl hf
      exact no_some hf
    | succ n_11 ih_11 =>
      intro v3 v4 H locs ls hP hS hl hf
      have hf : f_X3_closure_L11 objects steps labels sources targets v2 (lp (τ := Int32 → Int32 → Option (Int32)) (fun _ _ => none) (f_X3_closure_L11 objects steps labels sources targets v2) n_11) v3 v4 = some out := hf
      rw [f_X3_closure_L11] at hf
      refine lv_iload hx hb dX3_closure_11 (lv_at hl 3 rfl) ?_
      refine lv_aload_n hx hb dX3_closure_13 rfl (lv_at hl 0 rfl) ?_
      refine x_get hx hb hts u_X3_closure_X3 hown hE hP 0 rfl rfl 0 (by decide) (hts (.fieldLink RX3 9 "DecreasingDiagrams$LabelledSystem" "objects" "I") (List.mem_of_getElem? (i := 1) rfl)) rfl dX3_closure_14 ?_
      refine lv_icmp_ge (tgt := 47) hx hb dX3_closure_17 (by decide) (fun c_17 => ?_) (fun c_17 => ?_)
      · have hf := it_pos c_17 hf
        refine lv_iload_n hx hb dX3_closure_47 rfl (lv_at hl 2 rfl) ?_
        have hf := Option.some.inj hf
        subst hf
        subst hQ
        exact x_iret hx hb hr hlocks hP hS dX3_closure_48
      · have hf := it_neg c_17 hf
        refine lv_iload_n hx hb dX3_closure_20 rfl (lv_at hl 2 rfl) ?_
        refine lv_aload_n hx hb dX3_closure_21 rfl (lv_at hl 0 rfl) ?_
        refine lv_iload_n hx hb dX3_closure_22 rfl (lv_at hl 2 rfl) ?_
        refine lv_iload_n hx hb dX3_closure_23 rfl (lv_at hl 1 rfl) ?_
        obtain ⟨r_24, hr_24, hf⟩ := bd_some hf
        refine x_goi (ps := [0, 1, 2, 3]) (I' := [[(h, .inr (3, [.int objects, .ref a_words, .int steps, .ref a_sources, .ref a_targets, .ref a_labels]))], [(a_labels, .inl (G 0, 32, .inl labels))], [(a_sources, .inl (G 0, 32, .inl sources))], [(a_targets, .inl (G 0, 32, .inl targets))]]) (x_runV (As := [.int v3, .int v2]) (rest := [.int v3]) (ps := [0, 1, 2, 3]) ⟨hx, hb, hml, hown, hts⟩ (k_X3_successors l D G h a_words a_sources a_targets a_labels objects steps labels sources targets v3 v2 r_24 hr_24) (cwV 2 hts gX3_closure_X3_successors rfl rfl rfl (by decide +kernel) ⟨Nat.le_of_ble_eq_true rfl, Nat.le_of_ble_eq_true rfl⟩) hE hP hN rfl (by decide) 0 rfl rfl rfl hl.1 (Nat.le_of_ble_eq_true rfl) dX3_closure_24 ⟨Nat.zero_le _, Nat.zero_le _⟩) hP hN hS rfl rfl (fun H locs hP hS => ?_)
        refine lv_ior hx hb dX3_closure_27 ?_
        obtain ⟨v5_28, e_v5_28, hf⟩ := lt_some hf
        refine x_istore (v := v5_28) (lv' := [(5, .int v5_28), (0, .ref h), (2, .int v2), (3, .int v3), (4, .int v4)]) hx hb dX3_closure_28 e_v5_28 hl (by decide) rfl (fun ls hl => ?_)
        refine lv_iload hx hb dX3_closure_30 (lv_at hl 0 rfl) ?_
        refine lv_iload_n hx hb dX3_closure_32 rfl (lv_at hl 3 rfl) ?_
        refine lv_icmp_ne (tgt := 38) hx hb dX3_closure_33 (by decide) (fun c_33 => ?_) (fun c_33 => ?_)
        · have hf := it_pos c_33 hf
          refine lv_iload hx hb dX3_closure_38 (lv_at hl 0 rfl) ?_
          obtain ⟨v3_40, e_v3_40, hf⟩ := lt_some hf
          refine x_istore_n (v := v3_40) (lv' := [(3, .int v3_40), (5, .int v5_28), (0, .ref h), (2, .int v2), (4, .int v4)]) hx hb dX3_closure_40 e_v3_40 rfl hl (by decide) rfl (fun ls hl => ?_)
          obtain ⟨v4_41, e_v4_41, hf⟩ := lt_some hf
          refine lv_iinc (v := v4_41) (lv' := [(4, .int v4_41), (3, .int v3_40), (5, .int v5_28), (0, .ref h), (2, .int v2)]) hx hb dX3_closure_41 hl (k := 4) rfl (by rw [e_v4_41]; rfl) (by decide) rfl (fun ls hl => ?_)
          refine lv_goto (tgt := 11) hx hb dX3_closure_44 (by decide) ?_
          exact ih_11 v3_40 v4_41 H locs ls hP hS (lv_sub hl [3, 4, 1, 0] rfl) hf
        · have hf := it_neg (fun h => h c_33) hf
          refine lv_iload_n hx hb dX3_closure_36 rfl (lv_at hl 3 rfl) ?_
          have hf := Option.some.inj hf
          subst hf
          subst hQ
          exact x_iret hx hb hr hlocks hP hS dX3_closure_37
  rw [f_X3_closure] at hf
  obtain ⟨H, hH⟩ : ∃ H : Heap, H = s.heap := ⟨_, rfl⟩
  obtain ⟨locs, hlocs⟩ : ∃ locs : List Loc, locs = [] := ⟨_, rfl⟩
  have hP : xW D aa [[(h, .inr (3, [.int objects, .ref a_words, .int steps, .ref a_sources, .ref a_targets, .ref a_labels]))], [(a_labels, .inl (G 0, 32, .inl labels))], [(a_sources, .inl (G 0, 32, .inl sources))], [(a_targets, .inl (G 0, 32, .inl targets))]] H := by rw [hH]; exact hP
  have hS : va_S (xA aa) s.heap H locs := by rw [hH, hlocs]; exact hS
  suffices GO : W p l e (rM 1 24) s m args below meth c H locs 0 0 Q (F0 m 0 ls []) by
    rw [hH, hlocs] at GO
    exact GO
  clear hH hlocs
  refine lv_iload_n hx hb dX3_closure_0 rfl (lv_at hl 2 rfl) ?_
  refine lv_if_ne (tgt := 6) hx hb dX3_closure_1 (by decide) (fun c_1 => ?_) (fun c_1 => ?_)
  · have hf := it_pos c_1 hf
    refine lv_iload_n hx hb dX3_closure_6 rfl (lv_at hl 1 rfl) ?_
    obtain ⟨v3_7, e_v3_7, hf⟩ := lt_some hf
    refine x_istore_n (v := v3_7) (lv' := [(3, .int v3_7), (0, .ref h), (1, .int v1), (2, .int v2)]) hx hb dX3_closure_7 e_v3_7 rfl hl (by decide) rfl (fun ls hl => ?_)
    refine lv_iconst (v := 0) hx hb dX3_closure_8 (by decide) ?_
    obtain ⟨v4_9, e_v4_9, hf⟩ := lt_some hf
    refine x_istore (v := v4_9) (lv' := [(4, .int v4_9), (3, .int v3_7), (0, .ref h), (1, .int v1), (2, .int v2)]) hx hb dX3_closure_9 e_v4_9 hl (by decide) rfl (fun ls hl => ?_)
    exact L11    fuel v3_7 v4_9 H locs ls hP hS (lv_sub hl [2, 4, 1, 0] rfl) hf
  · have hf := it_neg (fun h => h c_1) hf
    refine lv_iload_n hx hb dX3_closure_4 rfl (lv_at hl 1 rfl) ?_
    have hf := Option.some.inj hf
    subst hf
    subst hQ
    exact x_iret hx hb hr hlocks hP hS dX3_closure_5
