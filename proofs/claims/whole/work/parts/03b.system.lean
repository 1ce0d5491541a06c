set_option maxRecDepth 20000 in
theorem u_X3_objectOf_X3 : ∀ w ∈ wsX30, w ∈ wsX3_objectOf := xx_pl _ [3, 4, 5, 6, 7, 8] (by decide +kernel)
def f_X3_objectOf_L2 (objects : Int32) (words : (Nat → Int32)) (v1 : Int32) (rec_2 : Int32 → Option (Int32)) (v2 : Int32) : Option (Int32) :=
  if objects ≤ v2 then (some (-2)) else (ck v2 16 (if ¬ (words v2.toNatClampNeg) = v1 then (lt (v2 + 1) (fun v2_22 => rec_2 v2_22)) else (some v2)))
def f_X3_objectOf (objects : Int32) (words : (Nat → Int32)) (v1 : Int32) : Option (Int32) :=
  lt 0 (fun v2_1 => lp (τ := Int32 → Option (Int32)) (fun _ => none) (f_X3_objectOf_L2 objects words v1) fuel v2_1)
set_option maxHeartbeats 4000000 in
set_option maxRecDepth 100000 in
theorem k_X3_objectOf (l : Launch) (D : va_G) (G : Nat → ClassId) (h : Nat) (a_words : Nat) (a_sources : Nat) (a_targets : Nat) (a_labels : Nat) (objects : Int32) (steps : Int32) (words : (Nat → Int32))  (v1 : Int32) (out : Int32) (hf : f_X3_objectOf objects words v1 = some out) : xMet l yX3_objectOf wsX3_objectOf (rM 0 0) D G [.ref h, .int v1] [[(h, .inr (3, [.int objects, .ref a_words, .int steps, .ref a_sources, .ref a_targets, .ref a_labels]))], [(a_words, .inl (G 0, 16, .inl words))]] (xQi D [[(h, .inr (3, [.int objects, .ref a_words, .int steps, .ref a_sources, .ref a_targets, .ref a_labels]))], [(a_words, .inl (G 0, 16, .inl words))]] out) := by
  refine x_ent (cc := cX3_objectOf) (maxL := 3) (by decide) rfl (Nat.le_of_ble_eq_true rfl) ?_
  intro p e s m below meth c aa ls args Q hQ hx hb hr hml hown hts hlocks hE hN hP hl hS
  have hown : s.vm.findClass RX3 = some m.cls := hown
  have hl : lv_has ls 3 [(0, .ref h), (1, .int v1)] := hl
  have L2 : ∀ (n_2 : Nat) (v2 : Int32) (H : Heap) (locs : List Loc) (ls : Array Slot), xW D aa [[(h, .inr (3, [.int objects, .ref a_words, .int steps, .ref a_sources, .ref a_targets, .ref a_labels]))], [(a_words, .inl (G 0, 16, .inl words))]] H → va_S (xA aa) s.heap H locs → lv_has ls 3 [(0, .ref h), (1, .int v1), (2, .int v2)] → lp (τ := Int32 → Option (Int32)) (fun _ => none) (f_X3_objectOf_L2 objects words v1) n_2 v2 = some out → W p l e (rM 0 0) s m args below meth c H locs 0 0 Q (F0 m 2 ls []) := by
    intro    n_2
    induction n_2 with
    | zero =>
      intro v2 H locs ls hP hS hl hf
      exact no_some hf
    | succ n_2 ih_2 =>
      intro v2 H locs ls hP hS hl hf
      have hf : f_X3_objectOf_L2 objects words v1 (lp (τ := Int32 → Option (Int32)) (fun _ => none) (f_X3_objectOf_L2 objects words v1) n_2) v2 = some out := hf
      rw [f_X3_objectOf_L2] at hf
      refine lv_iload_n hx hb dX3_objectOf_2 rfl (lv_at hl 2 rfl) ?_
      refine lv_aload_n hx hb dX3_objectOf_3 rfl (lv_at hl 0 rfl) ?_
      refine x_get hx hb hts u_X3_objectOf_X3 hown hE hP 0 rfl rfl 0 (by decide) (hts (.fieldLink RX3 9 "DecreasingDiagrams$LabelledSystem" "objects" "I") (List.mem_of_getElem? (i := 1) rfl)) rfl dX3_objectOf_4 ?_
      refine lv_icmp_ge (tgt := 28) hx hb dX3_objectOf_7 (by decide) (fun c_7 => ?_) (fun c_7 => ?_)
      · have hf := it_pos c_7 hf
        refine lv_bipush (v := -2) hx hb dX3_objectOf_28 (by decide) ?_
        have hf := Option.some.inj hf
        subst hf
        subst hQ
        exact x_iret hx hb hr hlocks hP hS dX3_objectOf_30
      · have hf := it_neg c_7 hf
        refine lv_aload_n hx hb dX3_objectOf_10 rfl (lv_at hl 0 rfl) ?_
        refine x_get hx hb hts u_X3_objectOf_X3 hown hE hP 0 rfl rfl 1 (by decide) (hts (.fieldLink RX3 15 "DecreasingDiagrams$LabelledSystem" "words" "[I") (List.mem_of_getElem? (i := 2) rfl)) rfl dX3_objectOf_11 ?_
        refine lv_iload_n hx hb dX3_objectOf_14 rfl (lv_at hl 2 rfl) ?_
        obtain ⟨hi, hf⟩ := ck_some hf
        refine x_iald hx hb hE hP 1 rfl hi dX3_objectOf_15 ?_
        refine lv_iload_n hx hb dX3_objectOf_16 rfl (lv_at hl 1 rfl) ?_
        refine lv_icmp_ne (tgt := 22) hx hb dX3_objectOf_17 (by decide) (fun c_17 => ?_) (fun c_17 => ?_)
        · have hf := it_pos c_17 hf
          obtain ⟨v2_22, e_v2_22, hf⟩ := lt_some hf
          refine lv_iinc (v := v2_22) (lv' := [(2, .int v2_22), (0, .ref h), (1, .int v1)]) hx hb dX3_objectOf_22 hl (k := 2) rfl (by rw [e_v2_22]; rfl) (by decide) rfl (fun ls hl => ?_)
          refine lv_goto (tgt := 2) hx hb dX3_objectOf_25 (by decide) ?_
          exact ih_2 v2_22 H locs ls hP hS (lv_sub hl [1, 2, 0] rfl) hf
        · have hf := it_neg (fun h => h c_17) hf
          refine lv_iload_n hx hb dX3_objectOf_20 rfl (lv_at hl 2 rfl) ?_
          have hf := Option.some.inj hf
          subst hf
          subst hQ
          exact x_iret hx hb hr hlocks hP hS dX3_objectOf_21
  rw [f_X3_objectOf] at hf
  obtain ⟨H, hH⟩ : ∃ H : Heap, H = s.heap := ⟨_, rfl⟩
  obtain ⟨locs, hlocs⟩ : ∃ locs : List Loc, locs = [] := ⟨_, rfl⟩
  have hP : xW D aa [[(h, .inr (3, [.int objects, .ref a_words, .int steps, .ref a_sources, .ref a_targets, .ref a_labels]))], [(a_words, .inl (G 0, 16, .inl words))]] H := by rw [hH]; exact hP
  have hS : va_S (xA aa) s.heap H locs := by rw [hH, hlocs]; exact hS
  suffices GO : W p l e (rM 0 0) s m args below meth c H locs 0 0 Q (F0 m 0 ls []) by
    rw [hH, hlocs] at GO
    exact GO
  clear hH hlocs
  refine lv_iconst (v := 0) hx hb dX3_objectOf_0 (by decide) ?_
  obtain ⟨v2_1, e_v2_1, hf⟩ := lt_some hf
  refine x_istore_n (v := v2_1) (lv' := [(2, .int v2_1), (0, .ref h), (1, .int v1)]) hx hb dX3_objectOf_1 e_v2_1 rfl hl (by decide) rfl (fun ls hl => ?_)
  exact L2    fuel v2_1 H locs ls hP hS (lv_sub hl [1, 2, 0] rfl) hf

set_option maxRecDepth 20000 in
theorem u_X3_appendObject_X3 : ∀ w ∈ wsX30, w ∈ wsX3_appendObject := xx_pl _ [3, 4, 5, 6, 7, 8] (by decide +kernel)
def f_X3_appendObject (objects : Int32) (words : (Nat → Int32)) (v1 : Int32) : Option (Int32 × Int32 × (Nat → Int32)) :=
  if objects < 16 then (ck objects 16 (lt (upd words objects.toNatClampNeg v1) (fun words_21 => lt (objects + 1) (fun objects_29 => some (objects_29 - 1, objects_29, words_21))))) else (some ((-3), objects, words))
set_option maxHeartbeats 4000000 in
set_option maxRecDepth 100000 in
theorem k_X3_appendObject (l : Launch) (D : va_G) (G : Nat → ClassId) (h : Nat) (a_words : Nat) (a_sources : Nat) (a_targets : Nat) (a_labels : Nat) (objects : Int32) (steps : Int32) (words : (Nat → Int32))  (v1 : Int32) (out : Int32 × Int32 × (Nat → Int32)) (hf : f_X3_appendObject objects words v1 = some out) : xMet l yX3_appendObject wsX3_appendObject (rM 0 0) D G [.ref h, .int v1] [[(h, .inr (3, [.int objects, .ref a_words, .int steps, .ref a_sources, .ref a_targets, .ref a_labels]))], [(a_words, .inl (G 0, 16, .inl words))]] (xQi D [[(h, .inr (3, [.int out.2.1, .ref a_words, .int steps, .ref a_sources, .ref a_targets, .ref a_labels]))], [(a_words, .inl (G 0, 16, .inl out.2.2))]] out.1) := by
  refine x_ent (cc := cX3_appendObject) (maxL := 2) (by decide) rfl (Nat.le_of_ble_eq_true rfl) ?_
  intro p e s m below meth c aa ls args Q hQ hx hb hr hml hown hts hlocks hE hN hP hl hS
  have hown : s.vm.findClass RX3 = some m.cls := hown
  have hl : lv_has ls 2 [(0, .ref h), (1, .int v1)] := hl
  rw [f_X3_appendObject] at hf
  obtain ⟨H, hH⟩ : ∃ H : Heap, H = s.heap := ⟨_, rfl⟩
  obtain ⟨locs, hlocs⟩ : ∃ locs : List Loc, locs = [] := ⟨_, rfl⟩
  have hP : xW D aa [[(h, .inr (3, [.int objects, .ref a_words, .int steps, .ref a_sources, .ref a_targets, .ref a_labels]))], [(a_words, .inl (G 0, 16, .inl words))]] H := by rw [hH]; exact hP
  have hS : va_S (xA aa) s.heap H locs := by rw [hH, hlocs]; exact hS
  suffices GO : W p l e (rM 0 0) s m args below meth c H locs 0 0 Q (F0 m 0 ls []) by
    rw [hH, hlocs] at GO
    exact GO
  clear hH hlocs
  refine lv_aload_n hx hb dX3_appendObject_0 rfl (lv_at hl 0 rfl) ?_
  refine x_get hx hb hts u_X3_appendObject_X3 hown hE hP 0 rfl rfl 0 (by decide) (hts (.fieldLink RX3 9 "DecreasingDiagrams$LabelledSystem" "objects" "I") (List.mem_of_getElem? (i := 1) rfl)) rfl dX3_appendObject_1 ?_
  refine lv_bipush (v := 16) hx hb dX3_appendObject_4 (by decide) ?_
  refine lv_icmp_lt (tgt := 12) hx hb dX3_appendObject_6 (by decide) (fun c_6 => ?_) (fun c_6 => ?_)
  · have hf := it_pos c_6 hf
    refine lv_aload_n hx hb dX3_appendObject_12 rfl (lv_at hl 0 rfl) ?_
    refine x_get hx hb hts u_X3_appendObject_X3 hown hE hP 0 rfl rfl 1 (by decide) (hts (.fieldLink RX3 15 "DecreasingDiagrams$LabelledSystem" "words" "[I") (List.mem_of_getElem? (i := 2) rfl)) rfl dX3_appendObject_13 ?_
    refine lv_aload_n hx hb dX3_appendObject_16 rfl (lv_at hl 0 rfl) ?_
    refine x_get hx hb hts u_X3_appendObject_X3 hown hE hP 0 rfl rfl 0 (by decide) (hts (.fieldLink RX3 9 "DecreasingDiagrams$LabelledSystem" "objects" "I") (List.mem_of_getElem? (i := 1) rfl)) rfl dX3_appendObject_17 ?_
    refine lv_iload_n hx hb dX3_appendObject_20 rfl (lv_at hl 1 rfl) ?_
    obtain ⟨hi, hf⟩ := ck_some hf
    obtain ⟨words_21, e_words_21, hf⟩ := lt_some hf
    refine x_iast (I' := [[(h, .inr (3, [.int objects, .ref a_words, .int steps, .ref a_sources, .ref a_targets, .ref a_labels]))], [(a_words, .inl (G 0, 16, .inl words_21))]]) hx hb hE hP hN hS 1 rfl hi e_words_21 rfl dX3_appendObject_21 (fun H locs hP hS => ?_)
    refine lv_aload_n hx hb dX3_appendObject_22 rfl (lv_at hl 0 rfl) ?_
    refine lv_dup hx hb dX3_appendObject_23 rfl ?_
    refine x_get hx hb hts u_X3_appendObject_X3 hown hE hP 0 rfl rfl 0 (by decide) (hts (.fieldLink RX3 9 "DecreasingDiagrams$LabelledSystem" "objects" "I") (List.mem_of_getElem? (i := 1) rfl)) rfl dX3_appendObject_24 ?_
    refine lv_iconst (v := 1) hx hb dX3_appendObject_27 (by decide) ?_
    refine lv_iadd hx hb dX3_appendObject_28 ?_
    obtain ⟨objects_29, e_objects_29, hf⟩ := lt_some hf
    refine x_put (w := .int objects_29) (ty := .int) (I' := [[(h, .inr (3, [.int objects_29, .ref a_words, .int steps, .ref a_sources, .ref a_targets, .ref a_labels]))], [(a_words, .inl (G 0, 16, .inl words_21))]]) hx hb hts u_X3_appendObject_X3 tyX3 tyX3_ok nmX3 hown hE hP hN hS 0 rfl rfl 0 (by decide) (hts (.fieldLink RX3 9 "DecreasingDiagrams$LabelledSystem" "objects" "I") (List.mem_of_getElem? (i := 1) rfl)) rfl (congrArg Value.int e_objects_29) (by decide +kernel) rfl rfl (Nat.le_of_ble_eq_true rfl) rfl dX3_appendObject_29 (fun H locs hP hS => ?_)
    refine lv_aload_n hx hb dX3_appendObject_32 rfl (lv_at hl 0 rfl) ?_
    refine x_get hx hb hts u_X3_appendObject_X3 hown hE hP 0 rfl rfl 0 (by decide) (hts (.fieldLink RX3 9 "DecreasingDiagrams$LabelledSystem" "objects" "I") (List.mem_of_getElem? (i := 1) rfl)) rfl dX3_appendObject_33 ?_
    refine lv_iconst (v := 1) hx hb dX3_appendObject_36 (by decide) ?_
    refine lv_isub hx hb dX3_appendObject_37 ?_
    have hf := Option.some.inj hf
    subst hf
    subst hQ
    exact x_iret hx hb hr hlocks hP hS dX3_appendObject_38
  · have hf := it_neg c_6 hf
    refine lv_bipush (v := -3) hx hb dX3_appendObject_9 (by decide) ?_
    have hf := Option.some.inj hf
    subst hf
    subst hQ
    exact x_iret hx hb hr hlocks hP hS dX3_appendObject_11

set_option maxRecDepth 20000 in
theorem u_X3_isJoined_X3 : ∀ w ∈ wsX30, w ∈ wsX3_isJoined := xx_pl _ [5, 6, 7, 8, 9, 10] (by decide +kernel)
def f_X3_isJoined_J47 (rec_3 : (Int32 → Option (Int32))) (v4 : Int32) : Option (Int32) :=
  lt (v4 + 1) (fun v4_47 => rec_3 v4_47)
def f_X3_isJoined_L3 (steps : Int32) (labels : (Nat → Int32)) (sources : (Nat → Int32)) (targets : (Nat → Int32)) (v1 : Int32) (v2 : Int32) (v3 : Int32) (rec_3 : Int32 → Option (Int32)) (v4 : Int32) : Option (Int32) :=
  if steps ≤ v4 then (some 0) else (ck v4 32 (if ¬ (sources v4.toNatClampNeg) = v1 then (f_X3_isJoined_J47 rec_3 v4) else (ck v4 32 (if ¬ (targets v4.toNatClampNeg) = v2 then (f_X3_isJoined_J47 rec_3 v4) else (ck v4 32 (if ¬ (labels v4.toNatClampNeg) = v3 then (f_X3_isJoined_J47 rec_3 v4) else (some 1)))))))
def f_X3_isJoined (steps : Int32) (labels : (Nat → Int32)) (sources : (Nat → Int32)) (targets : (Nat → Int32)) (v1 : Int32) (v2 : Int32) (v3 : Int32) : Option (Int32) :=
  lt 0 (fun v4_1 => lp (τ := Int32 → Option (Int32)) (fun _ => none) (f_X3_isJoined_L3 steps labels sources targets v1 v2 v3) fuel v4_1)
set_option maxHeartbeats 4000000 in
set_option maxRecDepth 100000 in
theorem k_X3_isJoined (l : Launch) (D : va_G) (G : Nat → ClassId) (h : Nat) (a_words : Nat) (a_sources : Nat) (a_targets : Nat) (a_labels : Nat) (objects : Int32) (steps : Int32) (labels : (Nat → Int32)) (sources : (Nat → Int32)) (targets : (Nat → Int32))  (v1 : Int32) (v2 : Int32) (v3 : Int32) (out : Int32) (hf : f_X3_isJoined steps labels sources targets v1 v2 v3 = some out) : xMet l yX3_isJoined wsX3_isJoined (rM 0 0) D G [.ref h, .int v1, .int v2, .int v3] [[(h, .inr (3, [.int objects, .ref a_words, .int steps, .ref a_sources, .ref a_targets, .ref a_labels]))], [(a_labels, .inl (G 0, 32, .inl labels))], [(a_sources, .inl (G 0, 32, .inl sources))], [(a_targets, .inl (G 0, 32, .inl targets))]] (xQi D [[(h, .inr (3, [.int objects, .ref a_words, .int steps, .ref a_sources, .ref a_targets, .ref a_labels]))], [(a_labels, .inl (G 0, 32, .inl labels))], [(a_sources, .inl (G 0, 32, .inl sources))], [(a_targets, .inl (G 0, 32, .inl targets))]] out) := by
  refine x_ent (cc := cX3_isJoined) (maxL := 5) (by decide) rfl (Nat.le_of_ble_eq_true rfl) ?_
  intro p e s m below meth c aa ls args Q hQ hx hb hr hml hown hts hlocks hE hN hP hl hS
  have hown : s.vm.findClass RX3 = some m.cls := hown
  have hl : lv_has ls 5 [(0, .ref h), (1, .int v1), (2, .int v2), (3, .int v3)] := hl
  have L3 : ∀ (n_3 : Nat) (v4 : Int32) (H : Heap) (locs : List Loc) (ls : Array Slot), xW D aa [[(h, .inr (3, [.int objects, .ref a_words, .int steps, .ref a_sources, .ref a_targets, .ref a_labels]))], [(a_labels, .inl (G 0, 32, .inl labels))], [(a_sources, .inl (G 0, 32, .inl sources))], [(a_targets, .inl (G 0, 32, .inl targets))]] H → va_S (xA aa) s.heap H locs → lv_has ls 5 [(0, .ref h), (1, .int v1), (2, .int v2), (3, .int v3), (4, .int v4)] → lp (τ := Int32 → Option (Int32)) (fun _ => none) (f_X3_isJoined_L3 steps labels sources targets v1 v2 v3) n_3 v4 = some out → W p l e (rM 0 0) s m args below meth c H locs 0 0 Q (F0 m 3 ls []) := by
    intro    n_3
    induction n_3 with
    | zero =>
      intro v4 H locs ls hP hS hl hf
      exact no_some hf
    | succ n_3 ih_3 =>
      intro v4 H locs ls hP hS hl hf
      have hf : f_X3_isJoined_L3 steps labels sources targets v1 v2 v3 (lp (τ := Int32 → Option (Int32)) (fun _ => none) (f_X3_isJoined_L3 steps labels sources targets v1 v2 v3) n_3) v4 = some out := hf
      rw [f_X3_isJoined_L3] at hf
      have J47 : ∀ (v4 : Int32) (H : Heap) (locs : List Loc) (ls : Array Slot), xW D aa [[(h, .inr (3, [.int objects, .ref a_words, .int steps, .ref a_sources, .ref a_targets, .ref a_labels]))], [(a_labels, .inl (G 0, 32, .inl labels))], [(a_sources, .inl (G 0, 32, .inl sources))], [(a_targets, .inl (G 0, 32, .inl targets))]] H → va_S (xA aa) s.heap H locs → lv_has ls 5 [(0, .ref h), (1, .int v1), (2, .int v2), (3, .int v3), (4, .int v4)] → f_X3_isJoined_J47 (lp (τ := Int32 → Option (Int32)) (fun _ => none) (f_X3_isJoined_L3 steps labels sources targets v1 v2 v3) n_3) v4 = some out → W p l e (rM 0 0) s m args below meth c H locs 0 0 Q (F0 m 47 ls []) := by
        intro v4  H locs ls  hP hS hl hf
        rw [f_X3_isJoined_J47] at hf
        obtain ⟨v4_47, e_v4_47, hf⟩ := lt_some hf
        refine lv_iinc (v := v4_47) (lv' := [(4, .int v4_47), (0, .ref h), (1, .int v1), (2, .int v2), (3, .int v3)]) hx hb dX3_isJoined_47 hl (k := 4) rfl (by rw [e_v4_47]; rfl) (by decide) rfl (fun ls hl => ?_)
        refine lv_goto (tgt := 3) hx hb dX3_isJoined_50 (by decide) ?_
        exact ih_3 v4_47 H locs ls hP hS (lv_sub hl [1, 2, 3, 4, 0] rfl) hf
      refine lv_iload hx hb dX3_isJoined_3 (lv_at hl 4 rfl) ?_
      refine lv_aload_n hx hb dX3_isJoined_5 rfl (lv_at hl 0 rfl) ?_
      refine x_get hx hb hts u_X3_isJoined_X3 hown hE hP 0 rfl rfl 2 (by decide) (hts (.fieldLink RX3 19 "DecreasingDiagrams$LabelledSystem" "steps" "I") (List.mem_of_getElem? (i := 1) rfl)) rfl dX3_isJoined_6 ?_
      refine lv_icmp_ge (tgt := 53) hx hb dX3_isJoined_9 (by decide) (fun c_9 => ?_) (fun c_9 => ?_)
      · have hf := it_pos c_9 hf
        refine lv_iconst (v := 0) hx hb dX3_isJoined_53 (by decide) ?_
        have hf := Option.some.inj hf
        subst hf
        subst hQ
        exact x_zret hx hb hr hlocks rfl hP hS dX3_isJoined_54
      · have hf := it_neg c_9 hf
        refine lv_aload_n hx hb dX3_isJoined_12 rfl (lv_at hl 0 rfl) ?_
        refine x_get hx hb hts u_X3_isJoined_X3 hown hE hP 0 rfl rfl 3 (by decide) (hts (.fieldLink RX3 22 "DecreasingDiagrams$LabelledSystem" "sources" "[I") (List.mem_of_getElem? (i := 2) rfl)) rfl dX3_isJoined_13 ?_
        refine lv_iload hx hb dX3_isJoined_16 (lv_at hl 4 rfl) ?_
        obtain ⟨hi, hf⟩ := ck_some hf
        refine x_iald hx hb hE hP 2 rfl hi dX3_isJoined_18 ?_
        refine lv_iload_n hx hb dX3_isJoined_19 rfl (lv_at hl 1 rfl) ?_
        refine lv_icmp_ne (tgt := 47) hx hb dX3_isJoined_20 (by decide) (fun c_20 => ?_) (fun c_20 => ?_)
        · have hf := it_pos c_20 hf
          exact J47 v4  H locs ls  hP hS (lv_sub hl [0, 1, 2, 3, 4] rfl) hf
        · have hf := it_neg (fun h => h c_20) hf
          refine lv_aload_n hx hb dX3_isJoined_23 rfl (lv_at hl 0 rfl) ?_
          refine x_get hx hb hts u_X3_isJoined_X3 hown hE hP 0 rfl rfl 4 (by decide) (hts (.fieldLink RX3 25 "DecreasingDiagrams$LabelledSystem" "targets" "[I") (List.mem_of_getElem? (i := 3) rfl)) rfl dX3_isJoined_24 ?_
          refine lv_iload hx hb dX3_isJoined_27 (lv_at hl 4 rfl) ?_
          obtain ⟨hi, hf⟩ := ck_some hf
          refine x_iald hx hb hE hP 3 rfl hi dX3_isJoined_29 ?_
          refine lv_iload_n hx hb dX3_isJoined_30 rfl (lv_at hl 2 rfl) ?_
          refine lv_icmp_ne (tgt := 47) hx hb dX3_isJoined_31 (by decide) (fun c_31 => ?_) (fun c_31 => ?_)
          · have hf := it_pos c_31 hf
            exact J47 v4  H locs ls  hP hS (lv_sub hl [0, 1, 2, 3, 4] rfl) hf
          · have hf := it_neg (fun h => h c_31) hf
            refine lv_aload_n hx hb dX3_isJoined_34 rfl (lv_at hl 0 rfl) ?_
            refine x_get hx hb hts u_X3_isJoined_X3 hown hE hP 0 rfl rfl 5 (by decide) (hts (.fieldLink RX3 28 "DecreasingDiagrams$LabelledSystem" "labels" "[I") (List.mem_of_getElem? (i := 4) rfl)) rfl dX3_isJoined_35 ?_
            refine lv_iload hx hb dX3_isJoined_38 (lv_at hl 4 rfl) ?_
            obtain ⟨hi, hf⟩ := ck_some hf
            refine x_iald hx hb hE hP 1 rfl hi dX3_isJoined_40 ?_
            refine lv_iload_n hx hb dX3_isJoined_41 rfl (lv_at hl 3 rfl) ?_
            refine lv_icmp_ne (tgt := 47) hx hb dX3_isJoined_42 (by decide) (fun c_42 => ?_) (fun c_42 => ?_)
            · have hf := it_pos c_42 hf
              exact J47 v4  H locs ls  hP hS (lv_sub hl [0, 1, 2, 3, 4] rfl) hf
            · have hf := it_neg (fun h => h c_42) hf
              refine lv_iconst (v := 1) hx hb dX3_isJoined_45 (by decide) ?_
              have hf := Option.some.inj hf
              subst hf
              subst hQ
              exact x_zret hx hb hr hlocks rfl hP hS dX3_isJoined_46
  rw [f_X3_isJoined] at hf
  obtain ⟨H, hH⟩ : ∃ H : Heap, H = s.heap := ⟨_, rfl⟩
  obtain ⟨locs, hlocs⟩ : ∃ locs : List Loc, locs = [] := ⟨_, rfl⟩
  have hP : xW D aa [[(h, .inr (3, [.int objects, .ref a_words, .int steps, .ref a_sources, .ref a_targets, .ref a_labels]))], [(a_labels, .inl (G 0, 32, .inl labels))], [(a_sources, .inl (G 0, 32, .inl sources))], [(a_targets, .inl (G 0, 32, .inl targets))]] H := by rw [hH]; exact hP
  have hS : va_S (xA aa) s.heap H locs := by rw [hH, hlocs]; exact hS
  suffices GO : W p l e (rM 0 0) s m args below meth c H locs 0 0 Q (F0 m 0 ls []) by
    rw [hH, hlocs] at GO
    exact GO
  clear hH hlocs
  refine lv_iconst (v := 0) hx hb dX3_isJoined_0 (by decide) ?_
  obtain ⟨v4_1, e_v4_1, hf⟩ := lt_some hf
  refine x_istore (v := v4_1) (lv' := [(4, .int v4_1), (0, .ref h), (1, .int v1), (2, .int v2), (3, .int v3)]) hx hb dX3_isJoined_1 e_v4_1 hl (by decide) rfl (fun ls hl => ?_)
  exact L3    fuel v4_1 H locs ls hP hS (lv_sub hl [1, 2, 3, 4, 0] rfl) hf

set_option maxRecDepth 20000 in
theorem u_X3_appendStep_X3 : ∀ w ∈ wsX30, w ∈ wsX3_appendStep := xx_pl _ [5, 6, 7, 8, 9, 10] (by decide +kernel)
def f_X3_appendStep (steps : Int32) (labels : (Nat → Int32)) (sources : (Nat → Int32)) (targets : (Nat → Int32)) (v1 : Int32) (v2 : Int32) (v3 : Int32) : Option (Int32 × (Nat → Int32) × (Nat → Int32) × Int32 × (Nat → Int32)) :=
  if steps < 32 then (ck steps 32 (lt (upd sources steps.toNatClampNeg v1) (fun sources_21 => ck steps 32 (lt (upd targets steps.toNatClampNeg v2) (fun targets_31 => ck steps 32 (lt (upd labels steps.toNatClampNeg v3) (fun labels_41 => lt (steps + 1) (fun steps_49 => some (steps_49 - 1, labels_41, sources_21, steps_49, targets_31))))))))) else (some ((-3), labels, sources, steps, targets))
set_option maxHeartbeats 4000000 in
set_option maxRecDepth 100000 in
theorem k_X3_appendStep (l : Launch) (D : va_G) (G : Nat → ClassId) (h : Nat) (a_words : Nat) (a_sources : Nat) (a_targets : Nat) (a_labels : Nat) (objects : Int32) (steps : Int32) (labels : (Nat → Int32)) (sources : (Nat → Int32)) (targets : (Nat → Int32))  (v1 : Int32) (v2 : Int32) (v3 : Int32) (out : Int32 × (Nat → Int32) × (Nat → Int32) × Int32 × (Nat → Int32)) (hf : f_X3_appendStep steps labels sources targets v1 v2 v3 = some out) : xMet l yX3_appendStep wsX3_appendStep (rM 0 0) D G [.ref h, .int v1, .int v2, .int v3] [[(h, .inr (3, [.int objects, .ref a_words, .int steps, .ref a_sources, .ref a_targets, .ref a_labels]))], [(a_labels, .inl (G 0, 32, .inl labels))], [(a_sources, .inl (G 0, 32, .inl sources))], [(a_targets, .inl (G 0, 32, .inl targets))]] (xQi D [[(h, .inr (3, [.int objects, .ref a_words, .int out.2.2.2.1, .ref a_sources, .ref a_targets, .ref a_labels]))], [(a_labels, .inl (G 0, 32, .inl out.2.1))], [(a_sources, .inl (G 0, 32, .inl out.2.2.1))], [(a_targets, .inl (G 0, 32, .inl out.2.2.2.2))]] out.1) := by
  refine x_ent (cc := cX3_appendStep) (maxL := 4) (by decide) rfl (Nat.le_of_ble_eq_true rfl) ?_
  intro p e s m below meth c aa ls args Q hQ hx hb hr hml hown hts hlocks hE hN hP hl hS
  have hown : s.vm.findClass RX3 = some m.cls := hown
  have hl : lv_has ls 4 [(0, .ref h), (1, .int v1), (2, .int v2), (3, .int v3)] := hl
  rw [f_X3_appendStep] at hf
  obtain ⟨H, hH⟩ : ∃ H : Heap, H = s.heap := ⟨_, rfl⟩
  obtain ⟨locs, hlocs⟩ : ∃ locs : List Loc, locs = [] := ⟨_, rfl⟩
  have hP : xW D aa [[(h, .inr (3, [.int objects, .ref a_words, .int steps, .ref a_sources, .ref a_targets, .ref a_labels]))], [(a_labels, .inl (G 0, 32, .inl labels))], [(a_sources, .inl (G 0, 32, .inl sources))], [(a_targets, .inl (G 0, 32, .inl targets))]] H := by rw [hH]; exact hP
  have hS : va_S (xA aa) s.heap H locs := by rw [hH, hlocs]; exact hS
  suffices GO : W p l e (rM 0 0) s m args below meth c H locs 0 0 Q (F0 m 0 ls []) by
    rw [hH, hlocs] at GO
    exact GO
  clear hH hlocs
  refine lv_aload_n hx hb dX3_appendStep_0 rfl (lv_at hl 0 rfl) ?_
  refine x_get hx hb hts u_X3_appendStep_X3 hown hE hP 0 rfl rfl 2 (by decide) (hts (.fieldLink RX3 19 "DecreasingDiagrams$LabelledSystem" "steps" "I") (List.mem_of_getElem? (i := 1) rfl)) rfl dX3_appendStep_1 ?_
  refine lv_bipush (v := 32) hx hb dX3_appendStep_4 (by decide) ?_
  refine lv_icmp_lt (tgt := 12) hx hb dX3_appendStep_6 (by decide) (fun c_6 => ?_) (fun c_6 => ?_)
  · have hf := it_pos c_6 hf
    refine lv_aload_n hx hb dX3_appendStep_12 rfl (lv_at hl 0 rfl) ?_
    refine x_get hx hb hts u_X3_appendStep_X3 hown hE hP 0 rfl rfl 3 (by decide) (hts (.fieldLink RX3 22 "DecreasingDiagrams$LabelledSystem" "sources" "[I") (List.mem_of_getElem? (i := 2) rfl)) rfl dX3_appendStep_13 ?_
    refine lv_aload_n hx hb dX3_appendStep_16 rfl (lv_at hl 0 rfl) ?_
    refine x_get hx hb hts u_X3_appendStep_X3 hown hE hP 0 rfl rfl 2 (by decide) (hts (.fieldLink RX3 19 "DecreasingDiagrams$LabelledSystem" "steps" "I") (List.mem_of_getElem? (i := 1) rfl)) rfl dX3_appendStep_17 ?_
    refine lv_iload_n hx hb dX3_appendStep_20 rfl (lv_at hl 1 rfl) ?_
    obtain ⟨hi, hf⟩ := ck_some hf
    obtain ⟨sources_21, e_sources_21, hf⟩ := lt_some hf
    refine x_iast (I' := [[(h, .inr (3, [.int objects, .ref a_words, .int steps, .ref a_sources, .ref a_targets, .ref a_labels]))], [(a_labels, .inl (G 0, 32, .inl labels))], [(a_sources, .inl (G 0, 32, .inl sources_21))], [(a_targets, .inl (G 0, 32, .inl targets))]]) hx hb hE hP hN hS 2 rfl hi e_sources_21 rfl dX3_appendStep_21 (fun H locs hP hS => ?_)
    refine lv_aload_n hx hb dX3_appendStep_22 rfl (lv_at hl 0 rfl) ?_
    refine x_get hx hb hts u_X3_appendStep_X3 hown hE hP 0 rfl rfl 4 (by decide) (hts (.fieldLink RX3 25 "DecreasingDiagrams$LabelledSystem" "targets" "[I") (List.mem_of_getElem? (i := 3) rfl)) rfl dX3_appendStep_23 ?_
    refine lv_aload_n hx hb dX3_appendStep_26 rfl (lv_at hl 0 rfl) ?_
    refine x_get hx hb hts u_X3_appendStep_X3 hown hE hP 0 rfl rfl 2 (by decide) (hts (.fieldLink RX3 19 "DecreasingDiagrams$LabelledSystem" "steps" "I") (List.mem_of_getElem? (i := 1) rfl)) rfl dX3_appendStep_27 ?_
    refine lv_iload_n hx hb dX3_appendStep_30 rfl (lv_at hl 2 rfl) ?_
    obtain ⟨hi, hf⟩ := ck_some hf
    obtain ⟨targets_31, e_targets_31, hf⟩ := lt_some hf
    refine x_iast (I' := [[(h, .inr (3, [.int objects, .ref a_words, .int steps, .ref a_sources, .ref a_targets, .ref a_labels]))], [(a_labels, .inl (G 0, 32, .inl labels))], [(a_sources, .inl (G 0, 32, .inl sources_21))], [(a_targets, .inl (G 0, 32, .inl targets_31))]]) hx hb hE hP hN hS 3 rfl hi e_targets_31 rfl dX3_appendStep_31 (fun H locs hP hS => ?_)
    refine lv_aload_n hx hb dX3_appendStep_32 rfl (lv_at hl 0 rfl) ?_
    refine x_get hx hb hts u_X3_appendStep_X3 hown hE hP 0 rfl rfl 5 (by decide) (hts (.fieldLink RX3 28 "DecreasingDiagrams$LabelledSystem" "labels" "[I") (List.mem_of_getElem? (i := 4) rfl)) rfl dX3_appendStep_33 ?_
    refine lv_aload_n hx hb dX3_appendStep_36 rfl (lv_at hl 0 rfl) ?_
    refine x_get hx hb hts u_X3_appendStep_X3 hown hE hP 0 rfl rfl 2 (by decide) (hts (.fieldLink RX3 19 "DecreasingDiagrams$LabelledSystem" "steps" "I") (List.mem_of_getElem? (i := 1) rfl)) rfl dX3_appendStep_37 ?_
    refine lv_iload_n hx hb dX3_appendStep_40 rfl (lv_at hl 3 rfl) ?_
    obtain ⟨hi, hf⟩ := ck_some hf
    obtain ⟨labels_41, e_labels_41, hf⟩ := lt_some hf
    refine x_iast (I' := [[(h, .inr (3, [.int objects, .ref a_words, .int steps, .ref a_sources, .ref a_targets, .ref a_labels]))], [(a_labels, .inl (G 0, 32, .inl labels_41))], [(a_sources, .inl (G 0, 32, .inl sources_21))], [(a_targets, .inl (G 0, 32, .inl targets_31))]]) hx hb hE hP hN hS 1 rfl hi e_labels_41 rfl dX3_appendStep_41 (fun H locs hP hS => ?_)
    refine lv_aload_n hx hb dX3_appendStep_42 rfl (lv_at hl 0 rfl) ?_
    refine lv_dup hx hb dX3_appendStep_43 rfl ?_
    refine x_get hx hb hts u_X3_appendStep_X3 hown hE hP 0 rfl rfl 2 (by decide) (hts (.fieldLink RX3 19 "DecreasingDiagrams$LabelledSystem" "steps" "I") (List.mem_of_getElem? (i := 1) rfl)) rfl dX3_appendStep_44 ?_
    refine lv_iconst (v := 1) hx hb dX3_appendStep_47 (by decide) ?_
    refine lv_iadd hx hb dX3_appendStep_48 ?_
    obtain ⟨steps_49, e_steps_49, hf⟩ := lt_some hf
    refine x_put (w := .int steps_49) (ty := .int) (I' := [[(h, .inr (3, [.int objects, .ref a_words, .int steps_49, .ref a_sources, .ref a_targets, .ref a_labels]))], [(a_labels, .inl (G 0, 32, .inl labels_41))], [(a_sources, .inl (G 0, 32, .inl sources_21))], [(a_targets, .inl (G 0, 32, .inl targets_31))]]) hx hb hts u_X3_appendStep_X3 tyX3 tyX3_ok nmX3 hown hE hP hN hS 0 rfl rfl 2 (by decide) (hts (.fieldLink RX3 19 "DecreasingDiagrams$LabelledSystem" "steps" "I") (List.mem_of_getElem? (i := 1) rfl)) rfl (congrArg Value.int e_steps_49) (by decide +kernel) rfl rfl (Nat.le_of_ble_eq_true rfl) rfl dX3_appendStep_49 (fun H locs hP hS => ?_)
    refine lv_aload_n hx hb dX3_appendStep_52 rfl (lv_at hl 0 rfl) ?_
    refine x_get hx hb hts u_X3_appendStep_X3 hown hE hP 0 rfl rfl 2 (by decide) (hts (.fieldLink RX3 19 "DecreasingDiagrams$LabelledSystem" "steps" "I") (List.mem_of_getElem? (i := 1) rfl)) rfl dX3_appendStep_53 ?_
    refine lv_iconst (v := 1) hx hb dX3_appendStep_56 (by decide) ?_
    refine lv_isub hx hb dX3_appendStep_57 ?_
    have hf := Option.some.inj hf
    subst hf
    subst hQ
    exact x_iret hx hb hr hlocks hP hS dX3_appendStep_58
  · have hf := it_neg c_6 hf
    refine lv_bipush (v := -3) hx hb dX3_appendStep_9 (by decide) ?_
    have hf := Option.some.inj hf
    subst hf
    subst hQ
    exact x_iret hx hb hr hlocks hP hS dX3_appendStep_11

set_option maxRecDepth 20000 in
theorem u_X3_clear_X3 : ∀ w ∈ wsX30, w ∈ wsX3_clear := xx_pl _ [3, 4, 5, 6, 7, 8] (by decide +kernel)
def f_X3_clear  : Option (Int32 × Int32) :=
  lt 0 (fun objects_2 => lt 0 (fun steps_7 => some (objects_2, steps_7)))
set_option maxHeartbeats 4000000 in
set_option maxRecDepth 100000 in
theorem k_X3_clear (l : Launch) (D : va_G) (G : Nat → ClassId) (h : Nat) (a_words : Nat) (a_sources : Nat) (a_targets : Nat) (a_labels : Nat) (objects : Int32) (steps : Int32)   (out : Int32 × Int32) (hf : f_X3_clear  = some out) : xMet l yX3_clear wsX3_clear (rM 0 0) D G [.ref h] [[(h, .inr (3, [.int objects, .ref a_words, .int steps, .ref a_sources, .ref a_targets, .ref a_labels]))]] (xQv D [[(h, .inr (3, [.int out.1, .ref a_words, .int out.2, .ref a_sources, .ref a_targets, .ref a_labels]))]]) := by
  refine x_ent (cc := cX3_clear) (maxL := 1) (by decide) rfl (Nat.le_of_ble_eq_true rfl) ?_
  intro p e s m below meth c aa ls args Q hQ hx hb hr hml hown hts hlocks hE hN hP hl hS
  have hown : s.vm.findClass RX3 = some m.cls := hown
  have hl : lv_has ls 1 [(0, .ref h)] := hl
  rw [f_X3_clear] at hf
  obtain ⟨H, hH⟩ : ∃ H : Heap, H = s.heap := ⟨_, rfl⟩
  obtain ⟨locs, hlocs⟩ : ∃ locs : List Loc, locs = [] := ⟨_, rfl⟩
  have hP : xW D aa [[(h, .inr (3, [.int objects, .ref a_words, .int steps, .ref a_sources, .ref a_targets, .ref a_labels]))]] H := by rw [hH]; exact hP
  have hS : va_S (xA aa) s.heap H locs := by rw [hH, hlocs]; exact hS
  suffices GO : W p l e (rM 0 0) s m args below meth c H locs 0 0 Q (F0 m 0 ls []) by
    rw [hH, hlocs] at GO
    exact GO
  clear hH hlocs
  refine lv_aload_n hx hb dX3_clear_0 rfl (lv_at hl 0 rfl) ?_
  refine lv_iconst (v := 0) hx hb dX3_clear_1 (by decide) ?_
  obtain ⟨objects_2, e_objects_2, hf⟩ := lt_some hf
  refine x_put (w := .int objects_2) (ty := .int) (I' := [[(h, .inr (3, [.int objects_2, .ref a_words, .int steps, .ref a_sources, .ref a_targets, .ref a_labels]))]]) hx hb hts u_X3_clear_X3 tyX3 tyX3_ok nmX3 hown hE hP hN hS 0 rfl rfl 0 (by decide) (hts (.fieldLink RX3 9 "DecreasingDiagrams$LabelledSystem" "objects" "I") (List.mem_of_getElem? (i := 1) rfl)) rfl (congrArg Value.int e_objects_2) (by decide +kernel) rfl rfl (Nat.le_of_ble_eq_true rfl) rfl dX3_clear_2 (fun H locs hP hS => ?_)
  refine lv_aload_n hx hb dX3_clear_5 rfl (lv_at hl 0 rfl) ?_
  refine lv_iconst (v := 0) hx hb dX3_clear_6 (by decide) ?_
  obtain ⟨steps_7, e_steps_7, hf⟩ := lt_some hf
  refine x_put (w := .int steps_7) (ty := .int) (I' := [[(h, .inr (3, [.int objects_2, .ref a_words, .int steps_7, .ref a_sources, .ref a_targets, .ref a_labels]))]]) hx hb hts u_X3_clear_X3 tyX3 tyX3_ok nmX3 hown hE hP hN hS 0 rfl rfl 2 (by decide) (hts (.fieldLink RX3 19 "DecreasingDiagrams$LabelledSystem" "steps" "I") (List.mem_of_getElem? (i := 2) rfl)) rfl (congrArg Value.int e_steps_7) (by decide +kernel) rfl rfl (Nat.le_of_ble_eq_true rfl) rfl dX3_clear_7 (fun H locs hP hS => ?_)
  have hf := Option.some.inj hf
  subst hf
  subst hQ
  exact x_vret hx hb hr hlocks hP hS dX3_clear_10

set_option maxRecDepth 20000 in
theorem u_X3_hasObject_X3 : ∀ w ∈ wsX30, w ∈ wsX3_hasObject := xx_pl _ [2, 3, 4, 5, 6, 7] (by decide +kernel)
def f_X3_hasObject (objects : Int32) (v1 : Int32) : Option (Int32) :=
  if v1 < 0 then (some 0) else (if objects ≤ v1 then (some 0) else (some 1))
set_option maxHeartbeats 4000000 in
set_option maxRecDepth 100000 in
theorem k_X3_hasObject (l : Launch) (D : va_G) (G : Nat → ClassId) (h : Nat) (a_words : Nat) (a_sources : Nat) (a_targets : Nat) (a_labels : Nat) (objects : Int32) (steps : Int32)  (v1 : Int32) (out : Int32) (hf : f_X3_hasObject objects v1 = some out) : xMet l yX3_hasObject wsX3_hasObject (rM 0 0) D G [.ref h, .int v1] [[(h, .inr (3, [.int objects, .ref a_words, .int steps, .ref a_sources, .ref a_targets, .ref a_labels]))]] (xQi D [[(h, .inr (3, [.int objects, .ref a_words, .int steps, .ref a_sources, .ref a_targets, .ref a_labels]))]] out) := by
  refine x_ent (cc := cX3_hasObject) (maxL := 2) (by decide) rfl (Nat.le_of_ble_eq_true rfl) ?_
  intro p e s m below meth c aa ls args Q hQ hx hb hr hml hown hts hlocks hE hN hP hl hS
  have hown : s.vm.findClass RX3 = some m.cls := hown
  have hl : lv_has ls 2 [(0, .ref h), (1, .int v1)] := hl
  rw [f_X3_hasObject] at hf
  obtain ⟨H, hH⟩ : ∃ H : Heap, H = s.heap := ⟨_, rfl⟩
  obtain ⟨locs, hlocs⟩ : ∃ locs : List Loc, locs = [] := ⟨_, rfl⟩
  have hP : xW D aa [[(h, .inr (3, [.int objects, .ref a_words, .int steps, .ref a_sources, .ref a_targets, .ref a_labels]))]] H := by rw [hH]; exact hP
  have hS : va_S (xA aa) s.heap H locs := by rw [hH, hlocs]; exact hS
  suffices GO : W p l e (rM 0 0) s m args below meth c H locs 0 0 Q (F0 m 0 ls []) by
    rw [hH, hlocs] at GO
    exact GO
  clear hH hlocs
  refine lv_iload_n hx hb dX3_hasObject_0 rfl (lv_at hl 1 rfl) ?_
  refine lv_if_lt (tgt := 16) hx hb dX3_hasObject_1 (by decide) (fun c_1 => ?_) (fun c_1 => ?_)
  · have hf := it_pos c_1 hf
    refine lv_iconst (v := 0) hx hb dX3_hasObject_16 (by decide) ?_
    have hf := Option.some.inj hf
    subst hf
    subst hQ
    exact x_zret hx hb hr hlocks rfl hP hS dX3_hasObject_17
  · have hf := it_neg c_1 hf
    refine lv_iload_n hx hb dX3_hasObject_4 rfl (lv_at hl 1 rfl) ?_
    refine lv_aload_n hx hb dX3_hasObject_5 rfl (lv_at hl 0 rfl) ?_
    refine x_get hx hb hts u_X3_hasObject_X3 hown hE hP 0 rfl rfl 0 (by decide) (hts (.fieldLink RX3 9 "DecreasingDiagrams$LabelledSystem" "objects" "I") (List.mem_of_getElem? (i := 1) rfl)) rfl dX3_hasObject_6 ?_
    refine lv_icmp_ge (tgt := 16) hx hb dX3_hasObject_9 (by decide) (fun c_9 => ?_) (fun c_9 => ?_)
    · have hf := it_pos c_9 hf
      refine lv_iconst (v := 0) hx hb dX3_hasObject_16 (by decide) ?_
      have hf := Option.some.inj hf
      subst hf
      subst hQ
      exact x_zret hx hb hr hlocks rfl hP hS dX3_hasObject_17
    · have hf := it_neg c_9 hf
      refine lv_iconst (v := 1) hx hb dX3_hasObject_12 (by decide) ?_
      refine lv_goto (tgt := 17) hx hb dX3_hasObject_13 (by decide) ?_
      have hf := Option.some.inj hf
      subst hf
      subst hQ
      exact x_zret hx hb hr hlocks rfl hP hS dX3_hasObject_17

set_option maxRecDepth 20000 in
theorem u_X3_successors_X3 : ∀ w ∈ wsX30, w ∈ wsX3_successors := xx_pl _ [5, 6, 7, 8, 9, 10] (by decide +kernel)
def f_X3_successors_J50 (rec_5 : (Int32 → Int32 → Option (Int32))) (v3 : Int32) (v4 : Int32) : Option (Int32) :=
  lt (v4 + 1) (fun v4_50 => rec_5 v3 v4_50)
def f_X3_successors_L5 (steps : Int32) (labels : (Nat → Int32)) (sources : (Nat → Int32)) (targets : (Nat → Int32)) (v1 : Int32) (v2 : Int32) (rec_5 : Int32 → Int32 → Option (Int32)) (v3 : Int32) (v4 : Int32) : Option (Int32) :=
  if steps ≤ v4 then (some v3) else (ck v4 32 (ck v4 32 (if (((v1 >>> ((sources v4.toNatClampNeg) &&& 31)) &&& (v2 >>> ((labels v4.toNatClampNeg) &&& 31))) &&& 1) = 0 then (f_X3_successors_J50 rec_5 v3 v4) else (ck v4 32 (lt (v3 ||| (1 <<< ((targets v4.toNatClampNeg) &&& 31))) (fun v3_49 => f_X3_successors_J50 rec_5 v3_49 v4))))))
def f_X3_successors (steps : Int32) (labels : (Nat → Int32)) (sources : (Nat → Int32)) (targets : (Nat → Int32)) (v1 : Int32) (v2 : Int32) : Option (Int32) :=
  lt 0 (fun v3_1 => lt 0 (fun v4_3 => lp (τ := Int32 → Int32 → Option (Int32)) (fun _ _ => none) (f_X3_successors_L5 steps labels sources targets v1 v2) fuel v3_1 v4_3))
set_option maxHeartbeats 4000000 in
set_option maxRecDepth 100000 in
theorem k_X3_successors (l : Launch) (D : va_G) (G : Nat → ClassId) (h : Nat) (a_words : Nat) (a_sources : Nat) (a_targets : Nat) (a_labels : Nat) (objects : Int32) (steps : Int32) (labels : (Nat → Int32)) (sources : (Nat → Int32)) (targets : (Nat → Int32))  (v1 : Int32) (v2 : Int32) (out : Int32) (hf : f_X3_successors steps labels sources targets v1 v2 = some out) : xMet l yX3_successors wsX3_successors (rM 0 0) D G [.ref h, .int v1, .int v2] [[(h, .inr (3, [.int objects, .ref a_words, .int steps, .ref a_sources, .ref a_targets, .ref a_labels]))], [(a_labels, .inl (G 0, 32, .inl labels))], [(a_sources, .inl (G 0, 32, .inl sources))], [(a_targets, .inl (G 0, 32, .inl targets))]] (xQi D [[(h, .inr (3, [.int objects, .ref a_words, .int steps, .ref a_sources, .ref a_targets, .ref a_labels]))], [(a_labels, .inl (G 0, 32, .inl labels))], [(a_sources, .inl (G 0, 32, .inl sources))], [(a_targets, .inl (G 0, 32, .inl targets))]] out) := by
  refine x_ent (cc := cX3_successors) (maxL := 5) (by decide) rfl (Nat.le_of_ble_eq_true rfl) ?_
  intro p e s m below meth c aa ls args Q hQ hx hb hr hml hown hts hlocks hE hN hP hl hS
  have hown : s.vm.findClass RX3 = some m.cls := hown
  have hl : lv_has ls 5 [(0, .ref h), (1, .int v1), (2, .int v2)] := hl
  have L5 : ∀ (n_5 : Nat) (v3 : Int32) (v4 : Int32) (H : Heap) (locs : List Loc) (ls : Array Slot), xW D aa [[(h, .inr (3, [.int objects, .ref a_words, .int steps, .ref a_sources, .ref a_targets, .ref a_labels]))], [(a_labels, .inl (G 0, 32, .inl labels))], [(a_sources, .inl (G 0, 32, .inl sources))], [(a_targets, .inl (G 0, 32, .inl targets))]] H → va_S (xA aa) s.heap H locs → lv_has ls 5 [(0, .ref h), (1, .int v1), (2, .int v2), (3, .int v3), (4, .int v4)] → lp (τ := Int32 → Int32 → Option (Int32)) (fun _ _ => none) (f_X3_successors_L5 steps labels sources targets v1 v2) n_5 v3 v4 = some out → W p l e (rM 0 0) s m args below meth c H locs 0 0 Q (F0 m 5 ls []) := by
    intro    n_5
    induction n_5 with
    | zero =>
      intro v3 v4 H locs ls hP hS hl hf
      exact no_some hf
    | succ n_5 ih_5 =>
      intro v3 v4 H locs ls hP hS hl hf
      have hf : f_X3_successors_L5 steps labels sources targets v1 v2 (lp (τ := Int32 → Int32 → Option (Int32)) (fun _ _ => none) (f_X3_successors_L5 steps labels sources targets v1 v2) n_5) v3 v4 = some out := hf
      rw [f_X3_successors_L5] at hf
      have J50 : ∀ (v3 : Int32) (v4 : Int32) (H : Heap) (locs : List Loc) (ls : Array Slot), xW D aa [[(h, .inr (3, [.int objects, .ref a_words, .int steps, .ref a_sources, .ref a_targets, .ref a_labels]))], [(a_labels, .inl (G 0, 32, .inl labels))], [(a_sources, .inl (G 0, 32, .inl sources))], [(a_targets, .inl (G 0, 32, .inl targets))]] H → va_S (xA aa) s.heap H locs → lv_has ls 5 [(0, .ref h), (1, .int v1), (2, .int v2), (3, .int v3), (4, .int v4)] → f_X3_successors_J50 (lp (τ := Int32 → Int32 → Option (Int32)) (fun _ _ => none) (f_X3_successors_L5 steps labels sources targets v1 v2) n_5) v3 v4 = some out → W p l e (rM 0 0) s m args below meth c H locs 0 0 Q (F0 m 50 ls []) := by
        intro v3 v4  H locs ls  hP hS hl hf
        rw [f_X3_successors_J50] at hf
        obtain ⟨v4_50, e_v4_50, hf⟩ := lt_some hf
        refine lv_iinc (v := v4_50) (lv' := [(4, .int v4_50), (0, .ref h), (1, .int v1), (2, .int v2), (3, .int v3)]) hx hb dX3_successors_50 hl (k := 4) rfl (by rw [e_v4_50]; rfl) (by decide) rfl (fun ls hl => ?_)
        refine lv_goto (tgt := 5) hx hb dX3_successors_53 (by decide) ?_
        exact ih_5 v3 v4_50 H locs ls hP hS (lv_sub hl [1, 2, 3, 4, 0] rfl) hf
      refine lv_iload hx hb dX3_successors_5 (lv_at hl 4 rfl) ?_
      refine lv_aload_n hx hb dX3_successors_7 rfl (lv_at hl 0 rfl) ?_
      refine x_get hx hb hts u_X3_successors_X3 hown hE hP 0 rfl rfl 2 (by decide) (hts (.fieldLink RX3 19 "DecreasingDiagrams$LabelledSystem" "steps" "I") (List.mem_of_getElem? (i := 1) rfl)) rfl dX3_successors_8 ?_
      refine lv_icmp_ge (tgt := 56) hx hb dX3_successors_11 (by decide) (fun c_11 => ?_) (fun c_11 => ?_)
      · have hf := it_pos c_11 hf
        refine lv_iload_n hx hb dX3_successors_56 rfl (lv_at hl 3 rfl) ?_
        have hf := Option.some.inj hf
        subst hf
        subst hQ
        exact x_iret hx hb hr hlocks hP hS dX3_successors_57
      · have hf := it_neg c_11 hf
        refine lv_iload_n hx hb dX3_successors_14 rfl (lv_at hl 1 rfl) ?_
        refine lv_aload_n hx hb dX3_successors_15 rfl (lv_at hl 0 rfl) ?_
        refine x_get hx hb hts u_X3_successors_X3 hown hE hP 0 rfl rfl 3 (by decide) (hts (.fieldLink RX3 22 "DecreasingDiagrams$LabelledSystem" "sources" "[I") (List.mem_of_getElem? (i := 2) rfl)) rfl dX3_successors_16 ?_
        refine lv_iload hx hb dX3_successors_19 (lv_at hl 4 rfl) ?_
        obtain ⟨hi, hf⟩ := ck_some hf
        refine x_iald hx hb hE hP 2 rfl hi dX3_successors_21 ?_
        refine lv_ishr hx hb dX3_successors_22 ?_
        refine lv_iload_n hx hb dX3_successors_23 rfl (lv_at hl 2 rfl) ?_
        refine lv_aload_n hx hb dX3_successors_24 rfl (lv_at hl 0 rfl) ?_
        refine x_get hx hb hts u_X3_successors_X3 hown hE hP 0 rfl rfl 5 (by decide) (hts (.fieldLink RX3 28 "DecreasingDiagrams$LabelledSystem" "labels" "[I") (List.mem_of_getElem? (i := 3) rfl)) rfl dX3_successors_25 ?_
        refine lv_iload hx hb dX3_successors_28 (lv_at hl 4 rfl) ?_
        obtain ⟨hi, hf⟩ := ck_some hf
        refine x_iald hx hb hE hP 1 rfl hi dX3_successors_30 ?_
        refine lv_ishr hx hb dX3_successors_31 ?_
        refine lv_iand hx hb dX3_successors_32 ?_
        refine lv_iconst (v := 1) hx hb dX3_successors_33 (by decide) ?_
        refine lv_iand hx hb dX3_successors_34 ?_
        refine lv_if_eq (tgt := 50) hx hb dX3_successors_35 (by decide) (fun c_35 => ?_) (fun c_35 => ?_)
        · have hf := it_pos c_35 hf
          exact J50 v3 v4  H locs ls  hP hS (lv_sub hl [0, 1, 2, 3, 4] rfl) hf
        · have hf := it_neg c_35 hf
          refine lv_iload_n hx hb dX3_successors_38 rfl (lv_at hl 3 rfl) ?_
          refine lv_iconst (v := 1) hx hb dX3_successors_39 (by decide) ?_
          refine lv_aload_n hx hb dX3_successors_40 rfl (lv_at hl 0 rfl) ?_
          refine x_get hx hb hts u_X3_successors_X3 hown hE hP 0 rfl rfl 4 (by decide) (hts (.fieldLink RX3 25 "DecreasingDiagrams$LabelledSystem" "targets" "[I") (List.mem_of_getElem? (i := 4) rfl)) rfl dX3_successors_41 ?_
          refine lv_iload hx hb dX3_successors_44 (lv_at hl 4 rfl) ?_
          obtain ⟨hi, hf⟩ := ck_some hf
          refine x_iald hx hb hE hP 3 rfl hi dX3_successors_46 ?_
          refine lv_ishl hx hb dX3_successors_47 ?_
          refine lv_ior hx hb dX3_successors_48 ?_
          obtain ⟨v3_49, e_v3_49, hf⟩ := lt_some hf
          refine x_istore_n (v := v3_49) (lv' := [(3, .int v3_49), (0, .ref h), (1, .int v1), (2, .int v2), (4, .int v4)]) hx hb dX3_successors_49 e_v3_49 rfl hl (by decide) rfl (fun ls hl => ?_)
          exact J50 v3_49 v4  H locs ls  hP hS (lv_sub hl [1, 2, 3, 0, 4] rfl) hf
  rw [f_X3_successors] at hf
  obtain ⟨H, hH⟩ : ∃ H : Heap, H = s.heap := ⟨_, rfl⟩
  obtain ⟨locs, hlocs⟩ : ∃ locs : List Loc, locs = [] := ⟨_, rfl⟩
  have hP : xW D aa [[(h, .inr (3, [.int objects, .ref a_words, .int steps, .ref a_sources, .ref a_targets, .ref a_labels]))], [(a_labels, .inl (G 0, 32, .inl labels))], [(a_sources, .inl (G 0, 32, .inl sources))], [(a_targets, .inl (G 0, 32, .inl targets))]] H := by rw [hH]; exact hP
  have hS : va_S (xA aa) s.heap H locs := by rw [hH, hlocs]; exact hS
  suffices GO : W p l e (rM 0 0) s m args below meth c H locs 0 0 Q (F0 m 0 ls []) by
    rw [hH, hlocs] at GO
    exact GO
  clear hH hlocs
  refine lv_iconst (v := 0) hx hb dX3_successors_0 (by decide) ?_
  obtain ⟨v3_1, e_v3_1, hf⟩ := lt_some hf
  refine x_istore_n (v := v3_1) (lv' := [(3, .int v3_1), (0, .ref h), (1, .int v1), (2, .int v2)]) hx hb dX3_successors_1 e_v3_1 rfl hl (by decide) rfl (fun ls hl => ?_)
  refine lv_iconst (v := 0) hx hb dX3_successors_2 (by decide) ?_
  obtain ⟨v4_3, e_v4_3, hf⟩ := lt_some hf
  refine x_istore (v := v4_3) (lv' := [(4, .int v4_3), (3, .int v3_1), (0, .ref h), (1, .int v1), (2, .int v2)]) hx hb dX3_successors_3 e_v4_3 hl (by decide) rfl (fun ls hl => ?_)
  exact L5    fuel v3_1 v4_3 H locs ls hP hS (lv_sub hl [2, 3, 4, 1, 0] rfl) hf

set_option maxRecDepth 20000 in
theorem u_X3_closure_X3 : ∀ w ∈ wsX30, w ∈ wsX3_closure := xx_pl _ [11, 12, 13, 14, 15, 16] (by decide +kernel)
def f_X3_closure_L11 (objects : Int32) (steps : Int32) (labels : (Nat → Int32)) (sources : (Nat → Int32)) (targets : (Nat → Int32)) (v2 : Int32) (rec_11 : Int32 → Int32 → Option (Int32)) (v3 : Int32) (v4 : Int32) : Option (Int32) :=
  if objects ≤ v4 then (some v3) else ((f_X3_successors steps labels sources targets v3 v2).bind (fun r_24 => lt (v3 ||| r_24) (fun v5_28 => if ¬ v5_28 = v3 then (lt v5_28 (fun v3_40 => lt (v4 + 1) (fun v4_41 => rec_11 v3_40 v4_41))) else (some v3))))
def f_X3_closure (objects : Int32) (steps : Int32) (labels : (Nat → Int32)) (sources : (Nat → Int32)) (targets : (Nat → Int32)) (v1 : Int32) (v2 : Int32) : Option (Int32) :=
  if ¬ v2 = 0 then (lt v1 (fun v3_7 => lt 0 (fun v4_9 => lp (τ := Int32 → Int32 → Option (Int32)) (fun _ _ => none) (f_X3_closure_L11 objects steps labels sources targets v2) fuel v3_7 v4_9))) else (some v1)
set_option maxHeartbeats 4000000 in
set_option maxRecDepth 100000 in
theorem k_X3_closure (l : Launch) (D : va_G) (G : Nat → ClassId) (h : Nat) (a_words : Nat) (a_sources : Nat) (a_targets : Nat) (a_labels : Nat) (objects : Int32) (steps : Int32) (labels : (Nat → Int32)) (sources : (Nat → Int32)) (targets : (Nat → Int32))  (v1 : Int32) (v2 : Int32) (out : Int32) (hf : f_X3_closure objects steps labels sources targets v1 v2 = some out) : xMet l yX3_closure wsX3_closure (rM 1 24) D G [.ref h, .int v1, .int v2] [[(h, .inr (3, [.int objects, .ref a_words, .int steps, .ref a_sources, .ref a_targets, .ref a_labels]))], [(a_labels, .inl (G 0, 32, .inl labels))], [(a_sources, .inl (G 0, 32, .inl sources))], [(a_targets, .inl (G 0, 32, .inl targets))]] (xQi D [[(h, .inr (3, [.int objects, .ref a_words, .int steps, .ref a_sources, .ref a_targets, .ref a_labels]))], [(a_labels, .inl (G 0, 32, .inl labels))], [(a_sources, .inl (G 0, 32, .inl sources))], [(a_targets, .inl (G 0, 32, .inl targets))]] out) := by
  refine x_ent (cc := cX3_closure) (maxL := 6) (by decide) rfl (Nat.le_of_ble_eq_true rfl) ?_
  intro p e s m below meth c aa ls args Q hQ hx hb hr hml hown hts hlocks hE hN hP hl hS
  have hown : s.vm.findClass RX3 = some m.cls := hown
  have hl : lv_has ls 6 [(0, .ref h), (1, .int v1), (2, .int v2)] := hl
  have L11 : ∀ (n_11 : Nat) (v3 : Int32) (v4 : Int32) (H : Heap) (locs : List Loc) (ls : Array Slot), xW D aa [[(h, .inr (3, [.int objects, .ref a_words, .int steps, .ref a_sources, .ref a_targets, .ref a_labels]))], [(a_labels, .inl (G 0, 32, .inl labels))], [(a_sources, .inl (G 0, 32, .inl sources))], [(a_targets, .inl (G 0, 32, .inl targets))]] H → va_S (xA aa) s.heap H locs → lv_has ls 6 [(0, .ref h), (2, .int v2), (3, .int v3), (4, .int v4)] → lp (τ := Int32 → Int32 → Option (Int32)) (fun _ _ => none) (f_X3_closure_L11 objects steps labels sources targets v2) n_11 v3 v4 = some out → W p l e (rM 1 24) s m args below meth c H locs 0 0 Q (F0 m 11 ls []) := by
    intro    n_11
    induction n_11 with
    | zero =>
      intro v3 v4 H locs ls hP hS hl hf
      exact no_some hf
    | succ n_11 ih_11 =>
      intro v3 v4 H locs ls hP hS hl hf
      have hf : f_X3_closure_L11 objects steps labels sources targets v2 (lp (τ := Int32 → Int32 → Option (Int32)) (fun _ _ => none) (f_X3_closure_L11 objects steps labels sources targets v2) n_11) v3 v4 = some out := hf
      rw [f_X3_closure_L11] at hf
      refine lv_iload hx hb dX3_closure_11 (lv_at hl 3 rfl) ?_
      refine lv_aload_n hx hb dX3_closure_13 rfl (lv_at hl 0 rfl) ?_
      refine x_get hx hb hts u_X3_closure_X3 hown hE hP 0 rfl rfl 0 (by decide) (hts (.fieldLink RX3 9 "DecreasingDiagrams$LabelledSystem" "objects" "I") (List.mem_of_getElem? (i := 1) rfl)) rfl dX3_closure_14 ?_
      refine lv_icmp_ge (tgt := 47) hx hb dX3_closure_17 (by decide) (fun c_17 => ?_) (fun c_17 => ?_)
      · have hf := it_pos c_17 hf
        refine lv_iload_n hx hb dX3_closure_47 rfl (lv_at hl 2 rfl) ?_
        have hf := Option.some.inj hf
        subst hf
        subst hQ
        exact x_iret hx hb hr hlocks hP hS dX3_closure_48
      · have hf := it_neg c_17 hf
        refine lv_iload_n hx hb dX3_closure_20 rfl (lv_at hl 2 rfl) ?_
        refine lv_aload_n hx hb dX3_closure_21 rfl (lv_at hl 0 rfl) ?_
        refine lv_iload_n hx hb dX3_closure_22 rfl (lv_at hl 2 rfl) ?_
        refine lv_iload_n hx hb dX3_closure_23 rfl (lv_at hl 1 rfl) ?_
        obtain ⟨r_24, hr_24, hf⟩ := bd_some hf
        refine x_goi (ps := [0, 1, 2, 3]) (I' := [[(h, .inr (3, [.int objects, .ref a_words, .int steps, .ref a_sources, .ref a_targets, .ref a_labels]))], [(a_labels, .inl (G 0, 32, .inl labels))], [(a_sources, .inl (G 0, 32, .inl sources))], [(a_targets, .inl (G 0, 32, .inl targets))]]) (x_runV (As := [.int v3, .int v2]) (rest := [.int v3]) (ps := [0, 1, 2, 3]) ⟨hx, hb, hml, hown, hts⟩ (k_X3_successors l D G h a_words a_sources a_targets a_labels objects steps labels sources targets v3 v2 r_24 hr_24) (cwV 2 hts gX3_closure_X3_successors rfl rfl rfl (by decide +kernel) ⟨Nat.le_of_ble_eq_true rfl, Nat.le_of_ble_eq_true rfl⟩) hE hP hN rfl (by decide) 0 rfl rfl rfl hl.1 (Nat.le_of_ble_eq_true rfl) dX3_closure_24 ⟨Nat.zero_le _, Nat.zero_le _⟩) hP hN hS rfl rfl (fun H locs hP hS => ?_)
        refine lv_ior hx hb dX3_closure_27 ?_
        obtain ⟨v5_28, e_v5_28, hf⟩ := lt_some hf
        refine x_istore (v := v5_28) (lv' := [(5, .int v5_28), (0, .ref h), (2, .int v2), (3, .int v3), (4, .int v4)]) hx hb dX3_closure_28 e_v5_28 hl (by decide) rfl (fun ls hl => ?_)
        refine lv_iload hx hb dX3_closure_30 (lv_at hl 0 rfl) ?_
        refine lv_iload_n hx hb dX3_closure_32 rfl (lv_at hl 3 rfl) ?_
        refine lv_icmp_ne (tgt := 38) hx hb dX3_closure_33 (by decide) (fun c_33 => ?_) (fun c_33 => ?_)
        · have hf := it_pos c_33 hf
          refine lv_iload hx hb dX3_closure_38 (lv_at hl 0 rfl) ?_
          obtain ⟨v3_40, e_v3_40, hf⟩ := lt_some hf
          refine x_istore_n (v := v3_40) (lv' := [(3, .int v3_40), (5, .int v5_28), (0, .ref h), (2, .int v2), (4, .int v4)]) hx hb dX3_closure_40 e_v3_40 rfl hl (by decide) rfl (fun ls hl => ?_)
          obtain ⟨v4_41, e_v4_41, hf⟩ := lt_some hf
          refine lv_iinc (v := v4_41) (lv' := [(4, .int v4_41), (3, .int v3_40), (5, .int v5_28), (0, .ref h), (2, .int v2)]) hx hb dX3_closure_41 hl (k := 4) rfl (by rw [e_v4_41]; rfl) (by decide) rfl (fun ls hl => ?_)
          refine lv_goto (tgt := 11) hx hb dX3_closure_44 (by decide) ?_
          exact ih_11 v3_40 v4_41 H locs ls hP hS (lv_sub hl [3, 4, 1, 0] rfl) hf
        · have hf := it_neg (fun h => h c_33) hf
          refine lv_iload_n hx hb dX3_closure_36 rfl (lv_at hl 3 rfl) ?_
          have hf := Option.some.inj hf
          subst hf
          subst hQ
          exact x_iret hx hb hr hlocks hP hS dX3_closure_37
  rw [f_X3_closure] at hf
  obtain ⟨H, hH⟩ : ∃ H : Heap, H = s.heap := ⟨_, rfl⟩
  obtain ⟨locs, hlocs⟩ : ∃ locs : List Loc, locs = [] := ⟨_, rfl⟩
  have hP : xW D aa [[(h, .inr (3, [.int objects, .ref a_words, .int steps, .ref a_sources, .ref a_targets, .ref a_labels]))], [(a_labels, .inl (G 0, 32, .inl labels))], [(a_sources, .inl (G 0, 32, .inl sources))], [(a_targets, .inl (G 0, 32, .inl targets))]] H := by rw [hH]; exact hP
  have hS : va_S (xA aa) s.heap H locs := by rw [hH, hlocs]; exact hS
  suffices GO : W p l e (rM 1 24) s m args below meth c H locs 0 0 Q (F0 m 0 ls []) by
    rw [hH, hlocs] at GO
    exact GO
  clear hH hlocs
  refine lv_iload_n hx hb dX3_closure_0 rfl (lv_at hl 2 rfl) ?_
  refine lv_if_ne (tgt := 6) hx hb dX3_closure_1 (by decide) (fun c_1 => ?_) (fun c_1 => ?_)
  · have hf := it_pos c_1 hf
    refine lv_iload_n hx hb dX3_closure_6 rfl (lv_at hl 1 rfl) ?_
    obtain ⟨v3_7, e_v3_7, hf⟩ := lt_some hf
    refine x_istore_n (v := v3_7) (lv' := [(3, .int v3_7), (0, .ref h), (1, .int v1), (2, .int v2)]) hx hb dX3_closure_7 e_v3_7 rfl hl (by decide) rfl (fun ls hl => ?_)
    refine lv_iconst (v := 0) hx hb dX3_closure_8 (by decide) ?_
    obtain ⟨v4_9, e_v4_9, hf⟩ := lt_some hf
    refine x_istore (v := v4_9) (lv' := [(4, .int v4_9), (3, .int v3_7), (0, .ref h), (1, .int v1), (2, .int v2)]) hx hb dX3_closure_9 e_v4_9 hl (by decide) rfl (fun ls hl => ?_)
    exact L11    fuel v3_7 v4_9 H locs ls hP hS (lv_sub hl [2, 4, 1, 0] rfl) hf
  · have hf := it_neg (fun h => h c_1) hf
    refine lv_iload_n hx hb dX3_closure_4 rfl (lv_at hl 1 rfl) ?_
    have hf := Option.some.inj hf
    subst hf
    subst hQ
    exact x_iret hx hb hr hlocks hP hS dX3_closure_5

set_option maxRecDepth 20000 in
theorem u_X3_fillReach_X3 : ∀ w ∈ wsX30, w ∈ wsX3_fillReach := xx_pl _ [15, 16, 17, 18, 19, 20] (by decide +kernel)
def f_X3_fillReach_L2 (objects : Int32) (steps : Int32) (labels : (Nat → Int32)) (sources : (Nat → Int32)) (targets : (Nat → Int32)) (n_p1 : Nat) (rec_2 : Int32 → (Nat → Int32) → Option ((Nat → Int32))) (v2 : Int32) (p1 : (Nat → Int32)) : Option ((Nat → Int32)) :=
  if objects ≤ v2 then (some p1) else (if (Int32.ofNat n_p1) ≤ v2 then (some p1) else ((f_X3_closure objects steps labels sources targets (1 <<< (v2 &&& 31)) 255).bind (fun r_25 => ck v2 n_p1 (lt (upd p1 v2.toNatClampNeg r_25) (fun p1_28 => lt (v2 + 1) (fun v2_29 => rec_2 v2_29 p1_28))))))
def f_X3_fillReach (objects : Int32) (steps : Int32) (p1 : (Nat → Int32)) (labels : (Nat → Int32)) (sources : (Nat → Int32)) (targets : (Nat → Int32)) (n_p1 : Nat) : Option ((Nat → Int32)) :=
  lt 0 (fun v2_1 => lp (τ := Int32 → (Nat → Int32) → Option ((Nat → Int32))) (fun _ _ => none) (f_X3_fillReach_L2 objects steps labels sources targets n_p1) fuel v2_1 p1)
set_option maxHeartbeats 4000000 in
set_option maxRecDepth 100000 in
theorem k_X3_fillReach (l : Launch) (D : va_G) (G : Nat → ClassId) (h : Nat) (a_p1 : Nat) (a_words : Nat) (a_sources : Nat) (a_targets : Nat) (a_labels : Nat) (objects : Int32) (steps : Int32) (p1 : (Nat → Int32)) (labels : (Nat → Int32)) (sources : (Nat → Int32)) (targets : (Nat → Int32)) (n_p1 : Nat)  (out : (Nat → Int32)) (hf : f_X3_fillReach objects steps p1 labels sources targets n_p1 = some out) : xMet l yX3_fillReach wsX3_fillReach (rM 2 49) D G [.ref h, .ref a_p1] [[(a_p1, .inl (G 0, n_p1, .inl p1))], [(h, .inr (3, [.int objects, .ref a_words, .int steps, .ref a_sources, .ref a_targets, .ref a_labels]))], [(a_labels, .inl (G 0, 32, .inl labels))], [(a_sources, .inl (G 0, 32, .inl sources))], [(a_targets, .inl (G 0, 32, .inl targets))]] (xQv D [[(a_p1, .inl (G 0, n_p1, .inl out))], [(h, .inr (3, [.int objects, .ref a_words, .int steps, .ref a_sources, .ref a_targets, .ref a_labels]))], [(a_labels, .inl (G 0, 32, .inl labels))], [(a_sources, .inl (G 0, 32, .inl sources))], [(a_targets, .inl (G 0, 32, .inl targets))]]) := by
  refine x_ent (cc := cX3_fillReach) (maxL := 3) (by decide) rfl (Nat.le_of_ble_eq_true rfl) ?_
  intro p e s m below meth c aa ls args Q hQ hx hb hr hml hown hts hlocks hE hN hP hl hS
  have hown : s.vm.findClass RX3 = some m.cls := hown
  have hl : lv_has ls 3 [(0, .ref h), (1, .ref a_p1)] := hl
  have L2 : ∀ (n_2 : Nat) (v2 : Int32) (p1 : (Nat → Int32)) (H : Heap) (locs : List Loc) (ls : Array Slot), xW D aa [[(a_p1, .inl (G 0, n_p1, .inl p1))], [(h, .inr (3, [.int objects, .ref a_words, .int steps, .ref a_sources, .ref a_targets, .ref a_labels]))], [(a_labels, .inl (G 0, 32, .inl labels))], [(a_sources, .inl (G 0, 32, .inl sources))], [(a_targets, .inl (G 0, 32, .inl targets))]] H → va_S (xA aa) s.heap H locs → lv_has ls 3 [(0, .ref h), (1, .ref a_p1), (2, .int v2)] → lp (τ := Int32 → (Nat → Int32) → Option ((Nat → Int32))) (fun _ _ => none) (f_X3_fillReach_L2 objects steps labels sources targets n_p1) n_2 v2 p1 = some out → W p l e (rM 2 49) s m args below meth c H locs 0 0 Q (F0 m 2 ls []) := by
    intro    n_2
    induction n_2 with
    | zero =>
      intro v2 p1 H locs ls hP hS hl hf
      exact no_some hf
    | succ n_2 ih_2 =>
      intro v2 p1 H locs ls hP hS hl hf
      have hf : f_X3_fillReach_L2 objects steps labels sources targets n_p1 (lp (τ := Int32 → (Nat → Int32) → Option ((Nat → Int32))) (fun _ _ => none) (f_X3_fillReach_L2 objects steps labels sources targets n_p1) n_2) v2 p1 = some out := hf
      rw [f_X3_fillReach_L2] at hf
      refine lv_iload_n hx hb dX3_fillReach_2 rfl (lv_at hl 2 rfl) ?_
      refine lv_aload_n hx hb dX3_fillReach_3 rfl (lv_at hl 0 rfl) ?_
      refine x_get hx hb hts u_X3_fillReach_X3 hown hE hP 1 rfl rfl 0 (by decide) (hts (.fieldLink RX3 9 "DecreasingDiagrams$LabelledSystem" "objects" "I") (List.mem_of_getElem? (i := 1) rfl)) rfl dX3_fillReach_4 ?_
      refine lv_icmp_ge (tgt := 35) hx hb dX3_fillReach_7 (by decide) (fun c_7 => ?_) (fun c_7 => ?_)
      · have hf := it_pos c_7 hf
        have hf := Option.some.inj hf
        subst hf
        subst hQ
        exact x_vret hx hb hr hlocks hP hS dX3_fillReach_35
      · have hf := it_neg c_7 hf
        refine lv_iload_n hx hb dX3_fillReach_10 rfl (lv_at hl 2 rfl) ?_
        refine lv_aload_n hx hb dX3_fillReach_11 rfl (lv_at hl 1 rfl) ?_
        refine x_alen (v := Int32.ofNat n_p1) hx hb hE hP 0 0 rfl rfl rfl dX3_fillReach_12 ?_
        refine lv_icmp_ge (tgt := 35) hx hb dX3_fillReach_13 (by decide) (fun c_13 => ?_) (fun c_13 => ?_)
        · have hf := it_pos c_13 hf
          have hf := Option.some.inj hf
          subst hf
          subst hQ
          exact x_vret hx hb hr hlocks hP hS dX3_fillReach_35
        · have hf := it_neg c_13 hf
          refine lv_aload_n hx hb dX3_fillReach_16 rfl (lv_at hl 1 rfl) ?_
          refine lv_iload_n hx hb dX3_fillReach_17 rfl (lv_at hl 2 rfl) ?_
          refine lv_aload_n hx hb dX3_fillReach_18 rfl (lv_at hl 0 rfl) ?_
          refine lv_iconst (v := 1) hx hb dX3_fillReach_19 (by decide) ?_
          refine lv_iload_n hx hb dX3_fillReach_20 rfl (lv_at hl 2 rfl) ?_
          refine lv_ishl hx hb dX3_fillReach_21 ?_
          refine lv_sipush (v := 255) hx hb dX3_fillReach_22 (by decide) ?_
          obtain ⟨r_25, hr_25, hf⟩ := bd_some hf
          refine x_goi (ps := [1, 2, 3, 4]) (I' := [[(a_p1, .inl (G 0, n_p1, .inl p1))], [(h, .inr (3, [.int objects, .ref a_words, .int steps, .ref a_sources, .ref a_targets, .ref a_labels]))], [(a_labels, .inl (G 0, 32, .inl labels))], [(a_sources, .inl (G 0, 32, .inl sources))], [(a_targets, .inl (G 0, 32, .inl targets))]]) (x_runV (As := [.int (1 <<< (v2 &&& 31)), .int 255]) (rest := [.int v2, .ref a_p1]) (ps := [1, 2, 3, 4]) ⟨hx, hb, hml, hown, hts⟩ (k_X3_closure l D G h a_words a_sources a_targets a_labels objects steps labels sources targets (1 <<< (v2 &&& 31)) 255 r_25 hr_25) (cwV 2 hts gX3_fillReach_X3_closure rfl rfl rfl (by decide +kernel) ⟨Nat.le_of_ble_eq_true rfl, Nat.le_of_ble_eq_true rfl⟩) hE hP hN rfl (by decide) 1 rfl rfl rfl hl.1 (Nat.le_of_ble_eq_true rfl) dX3_fillReach_25 ⟨Nat.zero_le _, Nat.zero_le _⟩) hP hN hS rfl rfl (fun H locs hP hS => ?_)
          obtain ⟨hi, hf⟩ := ck_some hf
          obtain ⟨p1_28, e_p1_28, hf⟩ := lt_some hf
          refine x_iast (I' := [[(a_p1, .inl (G 0, n_p1, .inl p1_28))], [(h, .inr (3, [.int objects, .ref a_words, .int steps, .ref a_sources, .ref a_targets, .ref a_labels]))], [(a_labels, .inl (G 0, 32, .inl labels))], [(a_sources, .inl (G 0, 32, .inl sources))], [(a_targets, .inl (G 0, 32, .inl targets))]]) hx hb hE hP hN hS 0 rfl hi e_p1_28 rfl dX3_fillReach_28 (fun H locs hP hS => ?_)
          obtain ⟨v2_29, e_v2_29, hf⟩ := lt_some hf
          refine lv_iinc (v := v2_29) (lv' := [(2, .int v2_29), (0, .ref h), (1, .ref a_p1)]) hx hb dX3_fillReach_29 hl (k := 2) rfl (by rw [e_v2_29]; rfl) (by decide) rfl (fun ls hl => ?_)
          refine lv_goto (tgt := 2) hx hb dX3_fillReach_32 (by decide) ?_
          exact ih_2 v2_29 p1_28 H locs ls hP hS (lv_sub hl [1, 2, 0] rfl) hf
  rw [f_X3_fillReach] at hf
  obtain ⟨H, hH⟩ : ∃ H : Heap, H = s.heap := ⟨_, rfl⟩
  obtain ⟨locs, hlocs⟩ : ∃ locs : List Loc, locs = [] := ⟨_, rfl⟩
  have hP : xW D aa [[(a_p1, .inl (G 0, n_p1, .inl p1))], [(h, .inr (3, [.int objects, .ref a_words, .int steps, .ref a_sources, .ref a_targets, .ref a_labels]))], [(a_labels, .inl (G 0, 32, .inl labels))], [(a_sources, .inl (G 0, 32, .inl sources))], [(a_targets, .inl (G 0, 32, .inl targets))]] H := by rw [hH]; exact hP
  have hS : va_S (xA aa) s.heap H locs := by rw [hH, hlocs]; exact hS
  suffices GO : W p l e (rM 2 49) s m args below meth c H locs 0 0 Q (F0 m 0 ls []) by
    rw [hH, hlocs] at GO
    exact GO
  clear hH hlocs
  refine lv_iconst (v := 0) hx hb dX3_fillReach_0 (by decide) ?_
  obtain ⟨v2_1, e_v2_1, hf⟩ := lt_some hf
  refine x_istore_n (v := v2_1) (lv' := [(2, .int v2_1), (0, .ref h), (1, .ref a_p1)]) hx hb dX3_fillReach_1 e_v2_1 rfl hl (by decide) rfl (fun ls hl => ?_)
  exact L2    fuel v2_1 p1 H locs ls hP hS (lv_sub hl [1, 2, 0] rfl) hf

set_option maxRecDepth 20000 in
theorem u_X3_convertible_X3 : ∀ w ∈ wsX30, w ∈ wsX3_convertible := xx_pl _ [8, 9, 10, 11, 12, 13] (by decide +kernel)
def f_X3_convertible_J82 (rec_6 : (Int32 → Int32 → Option (Int32))) (v2 : Int32) (v3 : Int32) : Option (Int32) :=
  lt (v3 + 1) (fun v3_82 => rec_6 v2 v3_82)
def f_X3_convertible_J76 (rec_17 : (Int32 → Int32 → Option (Int32))) (v2 : Int32) (v4 : Int32) : Option (Int32) :=
  lt (v4 + 1) (fun v4_76 => rec_17 v2 v4_76)
def f_X3_convertible_J54 (sources : (Nat → Int32)) (targets : (Nat → Int32)) (rec_17 : (Int32 → Int32 → Option (Int32))) (v2 : Int32) (v4 : Int32) : Option (Int32) :=
  ck v4 32 (ck v4 32 (lt (v2 ||| ((1 <<< ((sources v4.toNatClampNeg) &&& 31)) ||| (1 <<< ((targets v4.toNatClampNeg) &&& 31)))) (fun v2_75 => f_X3_convertible_J76 rec_17 v2_75 v4)))
def f_X3_convertible_L17 (steps : Int32) (sources : (Nat → Int32)) (targets : (Nat → Int32)) (v3 : Int32) (rec_6 : (Int32 → Int32 → Option (Int32))) (rec_17 : Int32 → Int32 → Option (Int32)) (v2 : Int32) (v4 : Int32) : Option (Int32) :=
  if steps ≤ v4 then (f_X3_convertible_J82 rec_6 v2 v3) else (ck v4 32 ((f_X11_isIn v2 (sources v4.toNatClampNeg)).bind (fun r_34 => if ¬ r_34 = 0 then (f_X3_convertible_J54 sources targets rec_17 v2 v4) else (ck v4 32 ((f_X11_isIn v2 (targets v4.toNatClampNeg)).bind (fun r_48 => if r_48 = 0 then (f_X3_convertible_J76 rec_17 v2 v4) else (f_X3_convertible_J54 sources targets rec_17 v2 v4)))))))
def f_X3_convertible_L6 (objects : Int32) (steps : Int32) (sources : (Nat → Int32)) (targets : (Nat → Int32)) (rec_6 : Int32 → Int32 → Option (Int32)) (v2 : Int32) (v3 : Int32) : Option (Int32) :=
  if objects ≤ v3 then (some v2) else (lt 0 (fun v4_15 => lp (τ := Int32 → Int32 → Option (Int32)) (fun _ _ => none) (f_X3_convertible_L17 steps sources targets v3 rec_6) fuel v2 v4_15))
def f_X3_convertible (objects : Int32) (steps : Int32) (sources : (Nat → Int32)) (targets : (Nat → Int32)) (v1 : Int32) : Option (Int32) :=
  lt (1 <<< (v1 &&& 31)) (fun v2_3 => lt 0 (fun v3_5 => lp (τ := Int32 → Int32 → Option (Int32)) (fun _ _ => none) (f_X3_convertible_L6 objects steps sources targets) fuel v2_3 v3_5))
set_option maxHeartbeats 4000000 in
set_option maxRecDepth 100000 in
theorem k_X3_convertible (l : Launch) (D : va_G) (G : Nat → ClassId) (h : Nat) (a_words : Nat) (a_sources : Nat) (a_targets : Nat) (a_labels : Nat) (objects : Int32) (steps : Int32) (sources : (Nat → Int32)) (targets : (Nat → Int32))  (v1 : Int32) (out : Int32) (hf : f_X3_convertible objects steps sources targets v1 = some out) : xMet l yX3_convertible wsX3_convertible (rM 1 21) D G [.ref h, .int v1] [[(h, .inr (3, [.int objects, .ref a_words, .int steps, .ref a_sources, .ref a_targets, .ref a_labels]))], [(a_sources, .inl (G 0, 32, .inl sources))], [(a_targets, .inl (G 0, 32, .inl targets))]] (xQi D [[(h, .inr (3, [.int objects, .ref a_words, .int steps, .ref a_sources, .ref a_targets, .ref a_labels]))], [(a_sources, .inl (G 0, 32, .inl sources))], [(a_targets, .inl (G 0, 32, .inl targets))]] out) := by
  refine x_ent (cc := cX3_convertible) (maxL := 5) (by decide) rfl (Nat.le_of_ble_eq_true rfl) ?_
  intro p e s m below meth c aa ls args Q hQ hx hb hr hml hown hts hlocks hE hN hP hl hS
  have hown : s.vm.findClass RX3 = some m.cls := hown
  have hl : lv_has ls 5 [(0, .ref h), (1, .int v1)] := hl
  have L6 : ∀ (n_6 : Nat) (v2 : Int32) (v3 : Int32) (H : Heap) (locs : List Loc) (ls : Array Slot), xW D aa [[(h, .inr (3, [.int objects, .ref a_words, .int steps, .ref a_sources, .ref a_targets, .ref a_labels]))], [(a_sources, .inl (G 0, 32, .inl sources))], [(a_targets, .inl (G 0, 32, .inl targets))]] H → va_S (xA aa) s.heap H locs → lv_has ls 5 [(0, .ref h), (2, .int v2), (3, .int v3)] → lp (τ := Int32 → Int32 → Option (Int32)) (fun _ _ => none) (f_X3_convertible_L6 objects steps sources targets) n_6 v2 v3 = some out → W p l e (rM 1 21) s m args below meth c H locs 0 0 Q (F0 m 6 ls []) := by
    intro    n_6
    induction n_6 with
    | zero =>
      intro v2 v3 H locs ls hP hS hl hf
      exact no_some hf
    | succ n_6 ih_6 =>
      intro v2 v3 H locs ls hP hS hl hf
      have hf : f_X3_convertible_L6 objects steps sources targets (lp (τ := Int32 → Int32 → Option (Int32)) (fun _ _ => none) (f_X3_convertible_L6 objects steps sources targets) n_6) v2 v3 = some out := hf
      rw [f_X3_convertible_L6] at hf
      have J82 : ∀ (v2 : Int32) (v3 : Int32) (H : Heap) (locs : List Loc) (ls : Array Slot), xW D aa [[(h, .inr (3, [.int objects, .ref a_words, .int steps, .ref a_sources, .ref a_targets, .ref a_labels]))], [(a_sources, .inl (G 0, 32, .inl sources))], [(a_targets, .inl (G 0, 32, .inl targets))]] H → va_S (xA aa) s.heap H locs → lv_has ls 5 [(0, .ref h), (2, .int v2), (3, .int v3)] → f_X3_convertible_J82 (lp (τ := Int32 → Int32 → Option (Int32)) (fun _ _ => none) (f_X3_convertible_L6 objects steps sources targets) n_6) v2 v3 = some out → W p l e (rM 1 21) s m args below meth c H locs 0 0 Q (F0 m 82 ls []) := by
        intro v2 v3  H locs ls  hP hS hl hf
        rw [f_X3_convertible_J82] at hf
        obtain ⟨v3_82, e_v3_82, hf⟩ := lt_some hf
        refine lv_iinc (v := v3_82) (lv' := [(3, .int v3_82), (0, .ref h), (2, .int v2)]) hx hb dX3_convertible_82 hl (k := 2) rfl (by rw [e_v3_82]; rfl) (by decide) rfl (fun ls hl => ?_)
        refine lv_goto (tgt := 6) hx hb dX3_convertible_85 (by decide) ?_
        exact ih_6 v2 v3_82 H locs ls hP hS (lv_sub hl [1, 2, 0] rfl) hf
      have L17 : ∀ (v3 : Int32), ∀ (n_17 : Nat) (v2 : Int32) (v4 : Int32) (H : Heap) (locs : List Loc) (ls : Array Slot), xW D aa [[(h, .inr (3, [.int objects, .ref a_words, .int steps, .ref a_sources, .ref a_targets, .ref a_labels]))], [(a_sources, .inl (G 0, 32, .inl sources))], [(a_targets, .inl (G 0, 32, .inl targets))]] H → va_S (xA aa) s.heap H locs → lv_has ls 5 [(0, .ref h), (2, .int v2), (3, .int v3), (4, .int v4)] → lp (τ := Int32 → Int32 → Option (Int32)) (fun _ _ => none) (f_X3_convertible_L17 steps sources targets v3 (lp (τ := Int32 → Int32 → Option (Int32)) (fun _ _ => none) (f_X3_convertible_L6 objects steps sources targets) n_6)) n_17 v2 v4 = some out → W p l e (rM 1 21) s m args below meth c H locs 0 0 Q (F0 m 17 ls []) := by
        intro v3   n_17
        induction n_17 with
        | zero =>
          intro v2 v4 H locs ls hP hS hl hf
          exact no_some hf
        | succ n_17 ih_17 =>
          intro v2 v4 H locs ls hP hS hl hf
          have hf : f_X3_convertible_L17 steps sources targets v3 (lp (τ := Int32 → Int32 → Option (Int32)) (fun _ _ => none) (f_X3_convertible_L6 objects steps sources targets) n_6) (lp (τ := Int32 → Int32 → Option (Int32)) (fun _ _ => none) (f_X3_convertible_L17 steps sources targets v3 (lp (τ := Int32 → Int32 → Option (Int32)) (fun _ _ => none) (f_X3_convertible_L6 objects steps sources targets) n_6)) n_17) v2 v4 = some out := hf
          rw [f_X3_convertible_L17] at hf
          have J76 : ∀ (v2 : Int32) (v4 : Int32) (H : Heap) (locs : List Loc) (ls : Array Slot), xW D aa [[(h, .inr (3, [.int objects, .ref a_words, .int steps, .ref a_sources, .ref a_targets, .ref a_labels]))], [(a_sources, .inl (G 0, 32, .inl sources))], [(a_targets, .inl (G 0, 32, .inl targets))]] H → va_S (xA aa) s.heap H locs → lv_has ls 5 [(0, .ref h), (2, .int v2), (3, .int v3), (4, .int v4)] → f_X3_convertible_J76 (lp (τ := Int32 → Int32 → Option (Int32)) (fun _ _ => none) (f_X3_convertible_L17 steps sources targets v3 (lp (τ := Int32 → Int32 → Option (Int32)) (fun _ _ => none) (f_X3_convertible_L6 objects steps sources targets) n_6)) n_17) v2 v4 = some out → W p l e (rM 1 21) s m args below meth c H locs 0 0 Q (F0 m 76 ls []) := by
            intro v2 v4  H locs ls  hP hS hl hf
            rw [f_X3_convertible_J76] at hf
            obtain ⟨v4_76, e_v4_76, hf⟩ := lt_some hf
            refine lv_iinc (v := v4_76) (lv' := [(4, .int v4_76), (0, .ref h), (2, .int v2), (3, .int v3)]) hx hb dX3_convertible_76 hl (k := 3) rfl (by rw [e_v4_76]; rfl) (by decide) rfl (fun ls hl => ?_)
            refine lv_goto (tgt := 17) hx hb dX3_convertible_79 (by decide) ?_
            exact ih_17 v2 v4_76 H locs ls hP hS (lv_sub hl [1, 2, 3, 0] rfl) hf
          have J54 : ∀ (v2 : Int32) (v4 : Int32) (H : Heap) (locs : List Loc) (ls : Array Slot), xW D aa [[(h, .inr (3, [.int objects, .ref a_words, .int steps, .ref a_sources, .ref a_targets, .ref a_labels]))], [(a_sources, .inl (G 0, 32, .inl sources))], [(a_targets, .inl (G 0, 32, .inl targets))]] H → va_S (xA aa) s.heap H locs → lv_has ls 5 [(0, .ref h), (2, .int v2), (3, .int v3), (4, .int v4)] → f_X3_convertible_J54 sources targets (lp (τ := Int32 → Int32 → Option (Int32)) (fun _ _ => none) (f_X3_convertible_L17 steps sources targets v3 (lp (τ := Int32 → Int32 → Option (Int32)) (fun _ _ => none) (f_X3_convertible_L6 objects steps sources targets) n_6)) n_17) v2 v4 = some out → W p l e (rM 1 21) s m args below meth c H locs 0 0 Q (F0 m 54 ls []) := by
            intro v2 v4  H locs ls  hP hS hl hf
            rw [f_X3_convertible_J54] at hf
            refine lv_iload_n hx hb dX3_convertible_54 rfl (lv_at hl 1 rfl) ?_
            refine lv_iconst (v := 1) hx hb dX3_convertible_55 (by decide) ?_
            refine lv_aload_n hx hb dX3_convertible_56 rfl (lv_at hl 0 rfl) ?_
            refine x_get hx hb hts u_X3_convertible_X3 hown hE hP 0 rfl rfl 3 (by decide) (hts (.fieldLink RX3 22 "DecreasingDiagrams$LabelledSystem" "sources" "[I") (List.mem_of_getElem? (i := 3) rfl)) rfl dX3_convertible_57 ?_
            refine lv_iload hx hb dX3_convertible_60 (lv_at hl 3 rfl) ?_
            obtain ⟨hi, hf⟩ := ck_some hf
            refine x_iald hx hb hE hP 1 rfl hi dX3_convertible_62 ?_
            refine lv_ishl hx hb dX3_convertible_63 ?_
            refine lv_iconst (v := 1) hx hb dX3_convertible_64 (by decide) ?_
            refine lv_aload_n hx hb dX3_convertible_65 rfl (lv_at hl 0 rfl) ?_
            refine x_get hx hb hts u_X3_convertible_X3 hown hE hP 0 rfl rfl 4 (by decide) (hts (.fieldLink RX3 25 "DecreasingDiagrams$LabelledSystem" "targets" "[I") (List.mem_of_getElem? (i := 4) rfl)) rfl dX3_convertible_66 ?_
            refine lv_iload hx hb dX3_convertible_69 (lv_at hl 3 rfl) ?_
            obtain ⟨hi, hf⟩ := ck_some hf
            refine x_iald hx hb hE hP 2 rfl hi dX3_convertible_71 ?_
            refine lv_ishl hx hb dX3_convertible_72 ?_
            refine lv_ior hx hb dX3_convertible_73 ?_
            refine lv_ior hx hb dX3_convertible_74 ?_
            obtain ⟨v2_75, e_v2_75, hf⟩ := lt_some hf
            refine x_istore_n (v := v2_75) (lv' := [(2, .int v2_75), (0, .ref h), (3, .int v3), (4, .int v4)]) hx hb dX3_convertible_75 e_v2_75 rfl hl (by decide) rfl (fun ls hl => ?_)
            exact J76 v2_75 v4  H locs ls  hP hS (lv_sub hl [1, 0, 2, 3] rfl) hf
          refine lv_iload hx hb dX3_convertible_17 (lv_at hl 3 rfl) ?_
          refine lv_aload_n hx hb dX3_convertible_19 rfl (lv_at hl 0 rfl) ?_
          refine x_get hx hb hts u_X3_convertible_X3 hown hE hP 0 rfl rfl 2 (by decide) (hts (.fieldLink RX3 19 "DecreasingDiagrams$LabelledSystem" "steps" "I") (List.mem_of_getElem? (i := 2) rfl)) rfl dX3_convertible_20 ?_
          refine lv_icmp_ge (tgt := 82) hx hb dX3_convertible_23 (by decide) (fun c_23 => ?_) (fun c_23 => ?_)
          · have hf := it_pos c_23 hf
            exact J82 v2 v3  H locs ls  hP hS (lv_sub hl [0, 1, 2] rfl) hf
          · have hf := it_neg c_23 hf
            refine lv_iload_n hx hb dX3_convertible_26 rfl (lv_at hl 1 rfl) ?_
            refine lv_aload_n hx hb dX3_convertible_27 rfl (lv_at hl 0 rfl) ?_
            refine x_get hx hb hts u_X3_convertible_X3 hown hE hP 0 rfl rfl 3 (by decide) (hts (.fieldLink RX3 22 "DecreasingDiagrams$LabelledSystem" "sources" "[I") (List.mem_of_getElem? (i := 3) rfl)) rfl dX3_convertible_28 ?_
            refine lv_iload hx hb dX3_convertible_31 (lv_at hl 3 rfl) ?_
            obtain ⟨hi, hf⟩ := ck_some hf
            refine x_iald hx hb hE hP 1 rfl hi dX3_convertible_33 ?_
            obtain ⟨r_34, hr_34, hf⟩ := bd_some hf
            refine x_goi (ps := []) (I' := [[(h, .inr (3, [.int objects, .ref a_words, .int steps, .ref a_sources, .ref a_targets, .ref a_labels]))], [(a_sources, .inl (G 0, 32, .inl sources))], [(a_targets, .inl (G 0, 32, .inl targets))]]) (x_runSN (As := [.int v2, .int (sources v4.toNatClampNeg)]) (rest := []) (ps := []) ⟨hx, hb, hml, hown, hts⟩ (k_X11_isIn l D G v2 (sources v4.toNatClampNeg) r_34 hr_34) ⟨va_cnB 2 hts gX3_convertible_X11_isIn_n44 rfl rfl rfl (hE.2 (.methodLinkNest RX3 44 yX11_isIn RX11) (List.mem_of_getElem? (i := 70) rfl)) (hts (.initialized RX11) (List.mem_of_getElem? (i := 6) rfl)) (by decide +kernel) ⟨Nat.le_of_ble_eq_true rfl, Nat.le_of_ble_eq_true rfl⟩, (hts (.static yX11_isIn) (List.mem_of_getElem? (i := 5) rfl)), trivial⟩ hE hP hN rfl (by decide) rfl hl.1 (Nat.le_of_ble_eq_true rfl) dX3_convertible_34 ⟨Nat.zero_le _, Nat.zero_le _⟩) hP hN hS rfl rfl (fun H locs hP hS => ?_)
            refine lv_if_ne (tgt := 54) hx hb dX3_convertible_37 (by decide) (fun c_37 => ?_) (fun c_37 => ?_)
            · have hf := it_pos c_37 hf
              exact J54 v2 v4  H locs ls  hP hS (lv_sub hl [0, 1, 2, 3] rfl) hf
            · have hf := it_neg (fun h => h c_37) hf
              refine lv_iload_n hx hb dX3_convertible_40 rfl (lv_at hl 1 rfl) ?_
              refine lv_aload_n hx hb dX3_convertible_41 rfl (lv_at hl 0 rfl) ?_
              refine x_get hx hb hts u_X3_convertible_X3 hown hE hP 0 rfl rfl 4 (by decide) (hts (.fieldLink RX3 25 "DecreasingDiagrams$LabelledSystem" "targets" "[I") (List.mem_of_getElem? (i := 4) rfl)) rfl dX3_convertible_42 ?_
              refine lv_iload hx hb dX3_convertible_45 (lv_at hl 3 rfl) ?_
              obtain ⟨hi, hf⟩ := ck_some hf
              refine x_iald hx hb hE hP 2 rfl hi dX3_convertible_47 ?_
              obtain ⟨r_48, hr_48, hf⟩ := bd_some hf
              refine x_goi (ps := []) (I' := [[(h, .inr (3, [.int objects, .ref a_words, .int steps, .ref a_sources, .ref a_targets, .ref a_labels]))], [(a_sources, .inl (G 0, 32, .inl sources))], [(a_targets, .inl (G 0, 32, .inl targets))]]) (x_runSN (As := [.int v2, .int (targets v4.toNatClampNeg)]) (rest := []) (ps := []) ⟨hx, hb, hml, hown, hts⟩ (k_X11_isIn l D G v2 (targets v4.toNatClampNeg) r_48 hr_48) ⟨va_cnB 2 hts gX3_convertible_X11_isIn_n44 rfl rfl rfl (hE.2 (.methodLinkNest RX3 44 yX11_isIn RX11) (List.mem_of_getElem? (i := 70) rfl)) (hts (.initialized RX11) (List.mem_of_getElem? (i := 6) rfl)) (by decide +kernel) ⟨Nat.le_of_ble_eq_true rfl, Nat.le_of_ble_eq_true rfl⟩, (hts (.static yX11_isIn) (List.mem_of_getElem? (i := 5) rfl)), trivial⟩ hE hP hN rfl (by decide) rfl hl.1 (Nat.le_of_ble_eq_true rfl) dX3_convertible_48 ⟨Nat.zero_le _, Nat.zero_le _⟩) hP hN hS rfl rfl (fun H locs hP hS => ?_)
              refine lv_if_eq (tgt := 76) hx hb dX3_convertible_51 (by decide) (fun c_51 => ?_) (fun c_51 => ?_)
              · have hf := it_pos c_51 hf
                exact J76 v2 v4  H locs ls  hP hS (lv_sub hl [0, 1, 2, 3] rfl) hf
              · have hf := it_neg c_51 hf
                exact J54 v2 v4  H locs ls  hP hS (lv_sub hl [0, 1, 2, 3] rfl) hf
      refine lv_iload_n hx hb dX3_convertible_6 rfl (lv_at hl 2 rfl) ?_
      refine lv_aload_n hx hb dX3_convertible_7 rfl (lv_at hl 0 rfl) ?_
      refine x_get hx hb hts u_X3_convertible_X3 hown hE hP 0 rfl rfl 0 (by decide) (hts (.fieldLink RX3 9 "DecreasingDiagrams$LabelledSystem" "objects" "I") (List.mem_of_getElem? (i := 1) rfl)) rfl dX3_convertible_8 ?_
      refine lv_icmp_ge (tgt := 88) hx hb dX3_convertible_11 (by decide) (fun c_11 => ?_) (fun c_11 => ?_)
      · have hf := it_pos c_11 hf
        refine lv_iload_n hx hb dX3_convertible_88 rfl (lv_at hl 1 rfl) ?_
        have hf := Option.some.inj hf
        subst hf
        subst hQ
        exact x_iret hx hb hr hlocks hP hS dX3_convertible_89
      · have hf := it_neg c_11 hf
        refine lv_iconst (v := 0) hx hb dX3_convertible_14 (by decide) ?_
        obtain ⟨v4_15, e_v4_15, hf⟩ := lt_some hf
        refine x_istore (v := v4_15) (lv' := [(4, .int v4_15), (0, .ref h), (2, .int v2), (3, .int v3)]) hx hb dX3_convertible_15 e_v4_15 hl (by decide) rfl (fun ls hl => ?_)
        exact L17 v3   fuel v2 v4_15 H locs ls hP hS (lv_sub hl [1, 2, 3, 0] rfl) hf
  rw [f_X3_convertible] at hf
  obtain ⟨H, hH⟩ : ∃ H : Heap, H = s.heap := ⟨_, rfl⟩
  obtain ⟨locs, hlocs⟩ : ∃ locs : List Loc, locs = [] := ⟨_, rfl⟩
  have hP : xW D aa [[(h, .inr (3, [.int objects, .ref a_words, .int steps, .ref a_sources, .ref a_targets, .ref a_labels]))], [(a_sources, .inl (G 0, 32, .inl sources))], [(a_targets, .inl (G 0, 32, .inl targets))]] H := by rw [hH]; exact hP
  have hS : va_S (xA aa) s.heap H locs := by rw [hH, hlocs]; exact hS
  suffices GO : W p l e (rM 1 21) s m args below meth c H locs 0 0 Q (F0 m 0 ls []) by
    rw [hH, hlocs] at GO
    exact GO
  clear hH hlocs
  refine lv_iconst (v := 1) hx hb dX3_convertible_0 (by decide) ?_
  refine lv_iload_n hx hb dX3_convertible_1 rfl (lv_at hl 1 rfl) ?_
  refine lv_ishl hx hb dX3_convertible_2 ?_
  obtain ⟨v2_3, e_v2_3, hf⟩ := lt_some hf
  refine x_istore_n (v := v2_3) (lv' := [(2, .int v2_3), (0, .ref h), (1, .int v1)]) hx hb dX3_convertible_3 e_v2_3 rfl hl (by decide) rfl (fun ls hl => ?_)
  refine lv_iconst (v := 0) hx hb dX3_convertible_4 (by decide) ?_
  obtain ⟨v3_5, e_v3_5, hf⟩ := lt_some hf
  refine x_istore_n (v := v3_5) (lv' := [(3, .int v3_5), (2, .int v2_3), (0, .ref h), (1, .int v1)]) hx hb dX3_convertible_5 e_v3_5 rfl hl (by decide) rfl (fun ls hl => ?_)
  exact L6    fuel v2_3 v3_5 H locs ls hP hS (lv_sub hl [2, 1, 0] rfl) hf

set_option maxRecDepth 20000 in
theorem u_X7_collect_X3 : ∀ w ∈ wsX30, w ∈ wsX7_collect := xx_pl _ [7, 8, 9, 10, 11, 12] (by decide +kernel)
set_option maxRecDepth 20000 in
theorem u_X7_collect_X7 : ∀ w ∈ wsX70, w ∈ wsX7_collect := xx_pl _ [4, 5, 6] (by decide +kernel)
def f_X7_collect_J88 (rec_7 : (Int32 → Int32 → (Nat → Int32) → (Nat → Int32) → Option (Int32 × (Nat → Int32) × (Nat → Int32)))) (v2 : Int32) (count : Int32) (firsts : (Nat → Int32)) (seconds : (Nat → Int32)) : Option (Int32 × (Nat → Int32) × (Nat → Int32)) :=
  lt (v2 + 1) (fun v2_88 => rec_7 v2_88 count firsts seconds)
def f_X7_collect_J82 (rec_19 : (Int32 → Int32 → (Nat → Int32) → (Nat → Int32) → Option (Int32 × (Nat → Int32) × (Nat → Int32)))) (v3 : Int32) (count : Int32) (firsts : (Nat → Int32)) (seconds : (Nat → Int32)) : Option (Int32 × (Nat → Int32) × (Nat → Int32)) :=
  lt (v3 + 1) (fun v3_82 => rec_19 v3_82 count firsts seconds)
def f_X7_collect_L19 (p1_steps : Int32) (p1_sources : (Nat → Int32)) (v2 : Int32) (rec_7 : (Int32 → Int32 → (Nat → Int32) → (Nat → Int32) → Option (Int32 × (Nat → Int32) × (Nat → Int32)))) (rec_19 : Int32 → Int32 → (Nat → Int32) → (Nat → Int32) → Option (Int32 × (Nat → Int32) × (Nat → Int32))) (v3 : Int32) (count : Int32) (firsts : (Nat → Int32)) (seconds : (Nat → Int32)) : Option (Int32 × (Nat → Int32) × (Nat → Int32)) :=
  if p1_steps ≤ v3 then (f_X7_collect_J88 rec_7 v2 count firsts seconds) else (ck v2 32 (ck v3 32 (if ¬ (p1_sources v2.toNatClampNeg) = (p1_sources v3.toNatClampNeg) then (f_X7_collect_J82 rec_19 v3 count firsts seconds) else (if 496 ≤ count then (f_X7_collect_J82 rec_19 v3 count firsts seconds) else (ck count 496 (lt (upd firsts count.toNatClampNeg v2) (fun firsts_61 => ck count 496 (lt (upd seconds count.toNatClampNeg v3) (fun seconds_71 => lt (count + 1) (fun count_79 => f_X7_collect_J82 rec_19 v3 count_79 firsts_61 seconds_71))))))))))
def f_X7_collect_L7 (p1_steps : Int32) (p1_sources : (Nat → Int32)) (rec_7 : Int32 → Int32 → (Nat → Int32) → (Nat → Int32) → Option (Int32 × (Nat → Int32) × (Nat → Int32))) (v2 : Int32) (count : Int32) (firsts : (Nat → Int32)) (seconds : (Nat → Int32)) : Option (Int32 × (Nat → Int32) × (Nat → Int32)) :=
  if p1_steps ≤ v2 then (some (count, firsts, seconds)) else (lt (v2 + 1) (fun v3_18 => lp (τ := Int32 → Int32 → (Nat → Int32) → (Nat → Int32) → Option (Int32 × (Nat → Int32) × (Nat → Int32))) (fun _ _ _ _ => none) (f_X7_collect_L19 p1_steps p1_sources v2 rec_7) fuel v3_18 count firsts seconds))
def f_X7_collect (p1_steps : Int32) (p1_sources : (Nat → Int32)) (firsts : (Nat → Int32)) (seconds : (Nat → Int32)) : Option (Int32 × (Nat → Int32) × (Nat → Int32)) :=
  lt 0 (fun count_2 => lt 0 (fun v2_6 => lp (τ := Int32 → Int32 → (Nat → Int32) → (Nat → Int32) → Option (Int32 × (Nat → Int32) × (Nat → Int32))) (fun _ _ _ _ => none) (f_X7_collect_L7 p1_steps p1_sources) fuel v2_6 count_2 firsts seconds))
set_option maxHeartbeats 4000000 in
set_option maxRecDepth 100000 in
theorem k_X7_collect (l : Launch) (D : va_G) (G : Nat → ClassId) (h : Nat) (h_p1 : Nat) (a_p1_words : Nat) (a_p1_sources : Nat) (a_p1_targets : Nat) (a_p1_labels : Nat) (a_firsts : Nat) (a_seconds : Nat) (p1_objects : Int32) (p1_steps : Int32) (count : Int32) (p1_sources : (Nat → Int32)) (firsts : (Nat → Int32)) (seconds : (Nat → Int32))   (out : Int32 × (Nat → Int32) × (Nat → Int32)) (hf : f_X7_collect p1_steps p1_sources firsts seconds = some out) : xMet l yX7_collect wsX7_collect (rM 0 0) D G [.ref h, .ref h_p1] [[(h_p1, .inr (3, [.int p1_objects, .ref a_p1_words, .int p1_steps, .ref a_p1_sources, .ref a_p1_targets, .ref a_p1_labels]))], [(a_p1_sources, .inl (G 0, 32, .inl p1_sources))], [(h, .inr (7, [.int count, .ref a_firsts, .ref a_seconds]))], [(a_firsts, .inl (G 0, 496, .inl firsts))], [(a_seconds, .inl (G 0, 496, .inl seconds))]] (xQv D [[(h_p1, .inr (3, [.int p1_objects, .ref a_p1_words, .int p1_steps, .ref a_p1_sources, .ref a_p1_targets, .ref a_p1_labels]))], [(a_p1_sources, .inl (G 0, 32, .inl p1_sources))], [(h, .inr (7, [.int out.1, .ref a_firsts, .ref a_seconds]))], [(a_firsts, .inl (G 0, 496, .inl out.2.1))], [(a_seconds, .inl (G 0, 496, .inl out.2.2))]]) := by
  refine x_ent (cc := cX7_collect) (maxL := 4) (by decide) rfl (Nat.le_of_ble_eq_true rfl) ?_
  intro p e s m below meth c aa ls args Q hQ hx hb hr hml hown hts hlocks hE hN hP hl hS
  have hown : s.vm.findClass RX7 = some m.cls := hown
  have hl : lv_has ls 4 [(0, .ref h), (1, .ref h_p1)] := hl
  have L7 : ∀ (n_7 : Nat) (v2 : Int32) (count : Int32) (firsts : (Nat → Int32)) (seconds : (Nat → Int32)) (H : Heap) (locs : List Loc) (ls : Array Slot), xW D aa [[(h_p1, .inr (3, [.int p1_objects, .ref a_p1_words, .int p1_steps, .ref a_p1_sources, .ref a_p1_targets, .ref a_p1_labels]))], [(a_p1_sources, .inl (G 0, 32, .inl p1_sources))], [(h, .inr (7, [.int count, .ref a_firsts, .ref a_seconds]))], [(a_firsts, .inl (G 0, 496, .inl firsts))], [(a_seconds, .inl (G 0, 496, .inl seconds))]] H → va_S (xA aa) s.heap H locs → lv_has ls 4 [(0, .ref h), (1, .ref h_p1), (2, .int v2)] → lp (τ := Int32 → Int32 → (Nat → Int32) → (Nat → Int32) → Option (Int32 × (Nat → Int32) × (Nat → Int32))) (fun _ _ _ _ => none) (f_X7_collect_L7 p1_steps p1_sources) n_7 v2 count firsts seconds = some out → W p l e (rM 0 0) s m args below meth c H locs 0 0 Q (F0 m 7 ls []) := by
    intro    n_7
    induction n_7 with
    | zero =>
      intro v2 count firsts seconds H locs ls hP hS hl hf
      exact no_some hf
    | succ n_7 ih_7 =>
      intro v2 count firsts seconds H locs ls hP hS hl hf
      have hf : f_X7_collect_L7 p1_steps p1_sources (lp (τ := Int32 → Int32 → (Nat → Int32) → (Nat → Int32) → Option (Int32 × (Nat → Int32) × (Nat → Int32))) (fun _ _ _ _ => none) (f_X7_collect_L7 p1_steps p1_sources) n_7) v2 count firsts seconds = some out := hf
      rw [f_X7_collect_L7] at hf
      have J88 : ∀ (v2 : Int32) (count : Int32) (firsts : (Nat → Int32)) (seconds : (Nat → Int32)) (H : Heap) (locs : List Loc) (ls : Array Slot), xW D aa [[(h_p1, .inr (3, [.int p1_objects, .ref a_p1_words, .int p1_steps, .ref a_p1_sources, .ref a_p1_targets, .ref a_p1_labels]))], [(a_p1_sources, .inl (G 0, 32, .inl p1_sources))], [(h, .inr (7, [.int count, .ref a_firsts, .ref a_seconds]))], [(a_firsts, .inl (G 0, 496, .inl firsts))], [(a_seconds, .inl (G 0, 496, .inl seconds))]] H → va_S (xA aa) s.heap H locs → lv_has ls 4 [(0, .ref h), (1, .ref h_p1), (2, .int v2)] → f_X7_collect_J88 (lp (τ := Int32 → Int32 → (Nat → Int32) → (Nat → Int32) → Option (Int32 × (Nat → Int32) × (Nat → Int32))) (fun _ _ _ _ => none) (f_X7_collect_L7 p1_steps p1_sources) n_7) v2 count firsts seconds = some out → W p l e (rM 0 0) s m args below meth c H locs 0 0 Q (F0 m 88 ls []) := by
        intro v2 count firsts seconds  H locs ls  hP hS hl hf
        rw [f_X7_collect_J88] at hf
        obtain ⟨v2_88, e_v2_88, hf⟩ := lt_some hf
        refine lv_iinc (v := v2_88) (lv' := [(2, .int v2_88), (0, .ref h), (1, .ref h_p1)]) hx hb dX7_collect_88 hl (k := 2) rfl (by rw [e_v2_88]; rfl) (by decide) rfl (fun ls hl => ?_)
        refine lv_goto (tgt := 7) hx hb dX7_collect_91 (by decide) ?_
        exact ih_7 v2_88 count firsts seconds H locs ls hP hS (lv_sub hl [1, 2, 0] rfl) hf
      have L19 : ∀ (v2 : Int32), ∀ (n_19 : Nat) (v3 : Int32) (count : Int32) (firsts : (Nat → Int32)) (seconds : (Nat → Int32)) (H : Heap) (locs : List Loc) (ls : Array Slot), xW D aa [[(h_p1, .inr (3, [.int p1_objects, .ref a_p1_words, .int p1_steps, .ref a_p1_sources, .ref a_p1_targets, .ref a_p1_labels]))], [(a_p1_sources, .inl (G 0, 32, .inl p1_sources))], [(h, .inr (7, [.int count, .ref a_firsts, .ref a_seconds]))], [(a_firsts, .inl (G 0, 496, .inl firsts))], [(a_seconds, .inl (G 0, 496, .inl seconds))]] H → va_S (xA aa) s.heap H locs → lv_has ls 4 [(0, .ref h), (1, .ref h_p1), (2, .int v2), (3, .int v3)] → lp (τ := Int32 → Int32 → (Nat → Int32) → (Nat → Int32) → Option (Int32 × (Nat → Int32) × (Nat → Int32))) (fun _ _ _ _ => none) (f_X7_collect_L19 p1_steps p1_sources v2 (lp (τ := Int32 → Int32 → (Nat → Int32) → (Nat → Int32) → Option (Int32 × (Nat → Int32) × (Nat → Int32))) (fun _ _ _ _ => none) (f_X7_collect_L7 p1_steps p1_sources) n_7)) n_19 v3 count firsts seconds = some out → W p l e (rM 0 0) s m args below meth c H locs 0 0 Q (F0 m 19 ls []) := by
        intro v2   n_19
        induction n_19 with
        | zero =>
          intro v3 count firsts seconds H locs ls hP hS hl hf
          exact no_some hf
        | succ n_19 ih_19 =>
          intro v3 count firsts seconds H locs ls hP hS hl hf
          have hf : f_X7_collect_L19 p1_steps p1_sources v2 (lp (τ := Int32 → Int32 → (Nat → Int32) → (Nat → Int32) → Option (Int32 × (Nat → Int32) × (Nat → Int32))) (fun _ _ _ _ => none) (f_X7_collect_L7 p1_steps p1_sources) n_7) (lp (τ := Int32 → Int32 → (Nat → Int32) → (Nat → Int32) → Option (Int32 × (Nat → Int32) × (Nat → Int32))) (fun _ _ _ _ => none) (f_X7_collect_L19 p1_steps p1_sources v2 (lp (τ := Int32 → Int32 → (Nat → Int32) → (Nat → Int32) → Option (Int32 × (Nat → Int32) × (Nat → Int32))) (fun _ _ _ _ => none) (f_X7_collect_L7 p1_steps p1_sources) n_7)) n_19) v3 count firsts seconds = some out := hf
          rw [f_X7_collect_L19] at hf
          have J82 : ∀ (v3 : Int32) (count : Int32) (firsts : (Nat → Int32)) (seconds : (Nat → Int32)) (H : Heap) (locs : List Loc) (ls : Array Slot), xW D aa [[(h_p1, .inr (3, [.int p1_objects, .ref a_p1_words, .int p1_steps, .ref a_p1_sources, .ref a_p1_targets, .ref a_p1_labels]))], [(a_p1_sources, .inl (G 0, 32, .inl p1_sources))], [(h, .inr (7, [.int count, .ref a_firsts, .ref a_seconds]))], [(a_firsts, .inl (G 0, 496, .inl firsts))], [(a_seconds, .inl (G 0, 496, .inl seconds))]] H → va_S (xA aa) s.heap H locs → lv_has ls 4 [(0, .ref h), (1, .ref h_p1), (2, .int v2), (3, .int v3)] → f_X7_collect_J82 (lp (τ := Int32 → Int32 → (Nat → Int32) → (Nat → Int32) → Option (Int32 × (Nat → Int32) × (Nat → Int32))) (fun _ _ _ _ => none) (f_X7_collect_L19 p1_steps p1_sources v2 (lp (τ := Int32 → Int32 → (Nat → Int32) → (Nat → Int32) → Option (Int32 × (Nat → Int32) × (Nat → Int32))) (fun _ _ _ _ => none) (f_X7_collect_L7 p1_steps p1_sources) n_7)) n_19) v3 count firsts seconds = some out → W p l e (rM 0 0) s m args below meth c H locs 0 0 Q (F0 m 82 ls []) := by
            intro v3 count firsts seconds  H locs ls  hP hS hl hf
            rw [f_X7_collect_J82] at hf
            obtain ⟨v3_82, e_v3_82, hf⟩ := lt_some hf
            refine lv_iinc (v := v3_82) (lv' := [(3, .int v3_82), (0, .ref h), (1, .ref h_p1), (2, .int v2)]) hx hb dX7_collect_82 hl (k := 3) rfl (by rw [e_v3_82]; rfl) (by decide) rfl (fun ls hl => ?_)
            refine lv_goto (tgt := 19) hx hb dX7_collect_85 (by decide) ?_
            exact ih_19 v3_82 count firsts seconds H locs ls hP hS (lv_sub hl [1, 2, 3, 0] rfl) hf
          refine lv_iload_n hx hb dX7_collect_19 rfl (lv_at hl 3 rfl) ?_
          refine lv_aload_n hx hb dX7_collect_20 rfl (lv_at hl 1 rfl) ?_
          refine x_getN hx hb hts u_X7_collect_X3 hown hE hP 0 rfl rfl 2 (by decide) (hE.2 (.fieldLinkNest RX7 22 "DecreasingDiagrams$LabelledSystem" "steps" "I" RX11) (List.mem_of_getElem? (i := 8) rfl)) rfl dX7_collect_21 ?_
          refine lv_icmp_ge (tgt := 88) hx hb dX7_collect_24 (by decide) (fun c_24 => ?_) (fun c_24 => ?_)
          · have hf := it_pos c_24 hf
            exact J88 v2 count firsts seconds  H locs ls  hP hS (lv_sub hl [0, 1, 2] rfl) hf
          · have hf := it_neg c_24 hf
            refine lv_aload_n hx hb dX7_collect_27 rfl (lv_at hl 1 rfl) ?_
            refine x_getN hx hb hts u_X7_collect_X3 hown hE hP 0 rfl rfl 3 (by decide) (hE.2 (.fieldLinkNest RX7 27 "DecreasingDiagrams$LabelledSystem" "sources" "[I" RX11) (List.mem_of_getElem? (i := 12) rfl)) rfl dX7_collect_28 ?_
            refine lv_iload_n hx hb dX7_collect_31 rfl (lv_at hl 2 rfl) ?_
            obtain ⟨hi, hf⟩ := ck_some hf
            refine x_iald hx hb hE hP 1 rfl hi dX7_collect_32 ?_
            refine lv_aload_n hx hb dX7_collect_33 rfl (lv_at hl 1 rfl) ?_
            refine x_getN hx hb hts u_X7_collect_X3 hown hE hP 0 rfl rfl 3 (by decide) (hE.2 (.fieldLinkNest RX7 27 "DecreasingDiagrams$LabelledSystem" "sources" "[I" RX11) (List.mem_of_getElem? (i := 12) rfl)) rfl dX7_collect_34 ?_
            refine lv_iload_n hx hb dX7_collect_37 rfl (lv_at hl 3 rfl) ?_
            obtain ⟨hi, hf⟩ := ck_some hf
            refine x_iald hx hb hE hP 1 rfl hi dX7_collect_38 ?_
            refine lv_icmp_ne (tgt := 82) hx hb dX7_collect_39 (by decide) (fun c_39 => ?_) (fun c_39 => ?_)
            · have hf := it_pos c_39 hf
              exact J82 v3 count firsts seconds  H locs ls  hP hS (lv_sub hl [0, 1, 2, 3] rfl) hf
            · have hf := it_neg (fun h => h c_39) hf
              refine lv_aload_n hx hb dX7_collect_42 rfl (lv_at hl 0 rfl) ?_
              refine x_get hx hb hts u_X7_collect_X7 hown hE hP 2 rfl rfl 0 (by decide) (hts (.fieldLink RX7 9 "DecreasingDiagrams$Peaks" "count" "I") (List.mem_of_getElem? (i := 1) rfl)) rfl dX7_collect_43 ?_
              refine lv_sipush (v := 496) hx hb dX7_collect_46 (by decide) ?_
              refine lv_icmp_ge (tgt := 82) hx hb dX7_collect_49 (by decide) (fun c_49 => ?_) (fun c_49 => ?_)
              · have hf := it_pos c_49 hf
                exact J82 v3 count firsts seconds  H locs ls  hP hS (lv_sub hl [0, 1, 2, 3] rfl) hf
              · have hf := it_neg c_49 hf
                refine lv_aload_n hx hb dX7_collect_52 rfl (lv_at hl 0 rfl) ?_
                refine x_get hx hb hts u_X7_collect_X7 hown hE hP 2 rfl rfl 1 (by decide) (hts (.fieldLink RX7 15 "DecreasingDiagrams$Peaks" "firsts" "[I") (List.mem_of_getElem? (i := 2) rfl)) rfl dX7_collect_53 ?_
                refine lv_aload_n hx hb dX7_collect_56 rfl (lv_at hl 0 rfl) ?_
                refine x_get hx hb hts u_X7_collect_X7 hown hE hP 2 rfl rfl 0 (by decide) (hts (.fieldLink RX7 9 "DecreasingDiagrams$Peaks" "count" "I") (List.mem_of_getElem? (i := 1) rfl)) rfl dX7_collect_57 ?_
                refine lv_iload_n hx hb dX7_collect_60 rfl (lv_at hl 2 rfl) ?_
                obtain ⟨hi, hf⟩ := ck_some hf
                obtain ⟨firsts_61, e_firsts_61, hf⟩ := lt_some hf
                refine x_iast (I' := [[(h_p1, .inr (3, [.int p1_objects, .ref a_p1_words, .int p1_steps, .ref a_p1_sources, .ref a_p1_targets, .ref a_p1_labels]))], [(a_p1_sources, .inl (G 0, 32, .inl p1_sources))], [(h, .inr (7, [.int count, .ref a_firsts, .ref a_seconds]))], [(a_firsts, .inl (G 0, 496, .inl firsts_61))], [(a_seconds, .inl (G 0, 496, .inl seconds))]]) hx hb hE hP hN hS 3 rfl hi e_firsts_61 rfl dX7_collect_61 (fun H locs hP hS => ?_)
                refine lv_aload_n hx hb dX7_collect_62 rfl (lv_at hl 0 rfl) ?_
                refine x_get hx hb hts u_X7_collect_X7 hown hE hP 2 rfl rfl 2 (by decide) (hts (.fieldLink RX7 19 "DecreasingDiagrams$Peaks" "seconds" "[I") (List.mem_of_getElem? (i := 3) rfl)) rfl dX7_collect_63 ?_
                refine lv_aload_n hx hb dX7_collect_66 rfl (lv_at hl 0 rfl) ?_
                refine x_get hx hb hts u_X7_collect_X7 hown hE hP 2 rfl rfl 0 (by decide) (hts (.fieldLink RX7 9 "DecreasingDiagrams$Peaks" "count" "I") (List.mem_of_getElem? (i := 1) rfl)) rfl dX7_collect_67 ?_
                refine lv_iload_n hx hb dX7_collect_70 rfl (lv_at hl 3 rfl) ?_
                obtain ⟨hi, hf⟩ := ck_some hf
                obtain ⟨seconds_71, e_seconds_71, hf⟩ := lt_some hf
                refine x_iast (I' := [[(h_p1, .inr (3, [.int p1_objects, .ref a_p1_words, .int p1_steps, .ref a_p1_sources, .ref a_p1_targets, .ref a_p1_labels]))], [(a_p1_sources, .inl (G 0, 32, .inl p1_sources))], [(h, .inr (7, [.int count, .ref a_firsts, .ref a_seconds]))], [(a_firsts, .inl (G 0, 496, .inl firsts_61))], [(a_seconds, .inl (G 0, 496, .inl seconds_71))]]) hx hb hE hP hN hS 4 rfl hi e_seconds_71 rfl dX7_collect_71 (fun H locs hP hS => ?_)
                refine lv_aload_n hx hb dX7_collect_72 rfl (lv_at hl 0 rfl) ?_
                refine lv_dup hx hb dX7_collect_73 rfl ?_
                refine x_get hx hb hts u_X7_collect_X7 hown hE hP 2 rfl rfl 0 (by decide) (hts (.fieldLink RX7 9 "DecreasingDiagrams$Peaks" "count" "I") (List.mem_of_getElem? (i := 1) rfl)) rfl dX7_collect_74 ?_
                refine lv_iconst (v := 1) hx hb dX7_collect_77 (by decide) ?_
                refine lv_iadd hx hb dX7_collect_78 ?_
                obtain ⟨count_79, e_count_79, hf⟩ := lt_some hf
                refine x_put (w := .int count_79) (ty := .int) (I' := [[(h_p1, .inr (3, [.int p1_objects, .ref a_p1_words, .int p1_steps, .ref a_p1_sources, .ref a_p1_targets, .ref a_p1_labels]))], [(a_p1_sources, .inl (G 0, 32, .inl p1_sources))], [(h, .inr (7, [.int count_79, .ref a_firsts, .ref a_seconds]))], [(a_firsts, .inl (G 0, 496, .inl firsts_61))], [(a_seconds, .inl (G 0, 496, .inl seconds_71))]]) hx hb hts u_X7_collect_X7 tyX7 tyX7_ok nmX7 hown hE hP hN hS 2 rfl rfl 0 (by decide) (hts (.fieldLink RX7 9 "DecreasingDiagrams$Peaks" "count" "I") (List.mem_of_getElem? (i := 1) rfl)) rfl (congrArg Value.int e_count_79) (by decide +kernel) rfl rfl (Nat.le_of_ble_eq_true rfl) rfl dX7_collect_79 (fun H locs hP hS => ?_)
                exact J82 v3 count_79 firsts_61 seconds_71  H locs ls  hP hS (lv_sub hl [0, 1, 2, 3] rfl) hf
      refine lv_iload_n hx hb dX7_collect_7 rfl (lv_at hl 2 rfl) ?_
      refine lv_aload_n hx hb dX7_collect_8 rfl (lv_at hl 1 rfl) ?_
      refine x_getN hx hb hts u_X7_collect_X3 hown hE hP 0 rfl rfl 2 (by decide) (hE.2 (.fieldLinkNest RX7 22 "DecreasingDiagrams$LabelledSystem" "steps" "I" RX11) (List.mem_of_getElem? (i := 8) rfl)) rfl dX7_collect_9 ?_
      refine lv_icmp_ge (tgt := 94) hx hb dX7_collect_12 (by decide) (fun c_12 => ?_) (fun c_12 => ?_)
      · have hf := it_pos c_12 hf
        have hf := Option.some.inj hf
        subst hf
        subst hQ
        exact x_vret hx hb hr hlocks hP hS dX7_collect_94
      · have hf := it_neg c_12 hf
        refine lv_iload_n hx hb dX7_collect_15 rfl (lv_at hl 2 rfl) ?_
        refine lv_iconst (v := 1) hx hb dX7_collect_16 (by decide) ?_
        refine lv_iadd hx hb dX7_collect_17 ?_
        obtain ⟨v3_18, e_v3_18, hf⟩ := lt_some hf
        refine x_istore_n (v := v3_18) (lv' := [(3, .int v3_18), (0, .ref h), (1, .ref h_p1), (2, .int v2)]) hx hb dX7_collect_18 e_v3_18 rfl hl (by decide) rfl (fun ls hl => ?_)
        exact L19 v2   fuel v3_18 count firsts seconds H locs ls hP hS (lv_sub hl [1, 2, 3, 0] rfl) hf
  rw [f_X7_collect] at hf
  obtain ⟨H, hH⟩ : ∃ H : Heap, H = s.heap := ⟨_, rfl⟩
  obtain ⟨locs, hlocs⟩ : ∃ locs : List Loc, locs = [] := ⟨_, rfl⟩
  have hP : xW D aa [[(h_p1, .inr (3, [.int p1_objects, .ref a_p1_words, .int p1_steps, .ref a_p1_sources, .ref a_p1_targets, .ref a_p1_labels]))], [(a_p1_sources, .inl (G 0, 32, .inl p1_sources))], [(h, .inr (7, [.int count, .ref a_firsts, .ref a_seconds]))], [(a_firsts, .inl (G 0, 496, .inl firsts))], [(a_seconds, .inl (G 0, 496, .inl seconds))]] H := by rw [hH]; exact hP
  have hS : va_S (xA aa) s.heap H locs := by rw [hH, hlocs]; exact hS
  suffices GO : W p l e (rM 0 0) s m args below meth c H locs 0 0 Q (F0 m 0 ls []) by
    rw [hH, hlocs] at GO
    exact GO
  clear hH hlocs
  refine lv_aload_n hx hb dX7_collect_0 rfl (lv_at hl 0 rfl) ?_
  refine lv_iconst (v := 0) hx hb dX7_collect_1 (by decide) ?_
  obtain ⟨count_2, e_count_2, hf⟩ := lt_some hf
  refine x_put (w := .int count_2) (ty := .int) (I' := [[(h_p1, .inr (3, [.int p1_objects, .ref a_p1_words, .int p1_steps, .ref a_p1_sources, .ref a_p1_targets, .ref a_p1_labels]))], [(a_p1_sources, .inl (G 0, 32, .inl p1_sources))], [(h, .inr (7, [.int count_2, .ref a_firsts, .ref a_seconds]))], [(a_firsts, .inl (G 0, 496, .inl firsts))], [(a_seconds, .inl (G 0, 496, .inl seconds))]]) hx hb hts u_X7_collect_X7 tyX7 tyX7_ok nmX7 hown hE hP hN hS 2 rfl rfl 0 (by decide) (hts (.fieldLink RX7 9 "DecreasingDiagrams$Peaks" "count" "I") (List.mem_of_getElem? (i := 1) rfl)) rfl (congrArg Value.int e_count_2) (by decide +kernel) rfl rfl (Nat.le_of_ble_eq_true rfl) rfl dX7_collect_2 (fun H locs hP hS => ?_)
  refine lv_iconst (v := 0) hx hb dX7_collect_5 (by decide) ?_
  obtain ⟨v2_6, e_v2_6, hf⟩ := lt_some hf
  refine x_istore_n (v := v2_6) (lv' := [(2, .int v2_6), (0, .ref h), (1, .ref h_p1)]) hx hb dX7_collect_6 e_v2_6 rfl hl (by decide) rfl (fun ls hl => ?_)
  exact L7    fuel v2_6 count_2 firsts seconds H locs ls hP hS (lv_sub hl [1, 2, 0] rfl) hf

set_option maxRecDepth 20000 in
theorem u_X7_suitableEnds_X3 : ∀ w ∈ wsX30, w ∈ wsX7_suitableEnds := xx_pl _ [14, 15, 16, 17, 18, 19] (by decide +kernel)
set_option maxRecDepth 20000 in
theorem u_X7_suitableEnds_X2 : ∀ w ∈ wsX20, w ∈ wsX7_suitableEnds := xx_pl _ [20, 21] (by decide +kernel)
def f_X7_suitableEnds (p0_objects : Int32) (p0_steps : Int32) (p0_labels : (Nat → Int32)) (p0_sources : (Nat → Int32)) (p0_targets : (Nat → Int32)) (p1_below : (Nat → Int32)) (v2 : Int32) (v3 : Int32) : Option (Int32) :=
  ck v2 32 (lt (p0_labels v2.toNatClampNeg) (fun v4_6 => ck v3 32 (lt (p0_labels v3.toNatClampNeg) (fun v5_14 => ck v2 32 (ck v4_6 8 ((f_X3_closure p0_objects p0_steps p0_labels p0_sources p0_targets (1 <<< ((p0_targets v2.toNatClampNeg) &&& 31)) (p1_below v4_6.toNatClampNeg)).bind (fun r_32 => lt r_32 (fun v6_35 => (f_X3_successors p0_steps p0_labels p0_sources p0_targets v6_35 (1 <<< (v5_14 &&& 31))).bind (fun r_46 => lt (v6_35 ||| r_46) (fun v6_50 => ck v4_6 8 (ck v5_14 8 ((f_X3_closure p0_objects p0_steps p0_labels p0_sources p0_targets v6_50 ((p1_below v4_6.toNatClampNeg) ||| (p1_below v5_14.toNatClampNeg))).bind (fun r_70 => some r_70)))))))))))))
set_option maxHeartbeats 4000000 in
set_option maxRecDepth 100000 in
theorem k_X7_suitableEnds (l : Launch) (D : va_G) (G : Nat → ClassId) (h_p0 : Nat) (h_p1 : Nat) (a_p0_words : Nat) (a_p0_sources : Nat) (a_p0_targets : Nat) (a_p0_labels : Nat) (a_p1_pairs : Nat) (a_p1_below : Nat) (p0_objects : Int32) (p0_steps : Int32) (p0_labels : (Nat → Int32)) (p0_sources : (Nat → Int32)) (p0_targets : (Nat → Int32)) (p1_below : (Nat → Int32))  (v2 : Int32) (v3 : Int32) (out : Int32) (hf : f_X7_suitableEnds p0_objects p0_steps p0_labels p0_sources p0_targets p1_below v2 v3 = some out) : xMet l yX7_suitableEnds wsX7_suitableEnds (rM 2 49) D G [.ref h_p0, .ref h_p1, .int v2, .int v3] [[(h_p0, .inr (3, [.int p0_objects, .ref a_p0_words, .int p0_steps, .ref a_p0_sources, .ref a_p0_targets, .ref a_p0_labels]))], [(a_p0_labels, .inl (G 0, 32, .inl p0_labels))], [(a_p0_sources, .inl (G 0, 32, .inl p0_sources))], [(a_p0_targets, .inl (G 0, 32, .inl p0_targets))], [(h_p1, .inr (2, [.ref a_p1_pairs, .ref a_p1_below]))], [(a_p1_below, .inl (G 0, 8, .inl p1_below))]] (xQi D [[(h_p0, .inr (3, [.int p0_objects, .ref a_p0_words, .int p0_steps, .ref a_p0_sources, .ref a_p0_targets, .ref a_p0_labels]))], [(a_p0_labels, .inl (G 0, 32, .inl p0_labels))], [(a_p0_sources, .inl (G 0, 32, .inl p0_sources))], [(a_p0_targets, .inl (G 0, 32, .inl p0_targets))], [(h_p1, .inr (2, [.ref a_p1_pairs, .ref a_p1_below]))], [(a_p1_below, .inl (G 0, 8, .inl p1_below))]] out) := by
  refine x_ent (cc := cX7_suitableEnds) (maxL := 7) (by decide) rfl (Nat.le_of_ble_eq_true rfl) ?_
  intro p e s m below meth c aa ls args Q hQ hx hb hr hml hown hts hlocks hE hN hP hl hS
  have hown : s.vm.findClass RX7 = some m.cls := hown
  have hl : lv_has ls 7 [(0, .ref h_p0), (1, .ref h_p1), (2, .int v2), (3, .int v3)] := hl
  rw [f_X7_suitableEnds] at hf
  obtain ⟨H, hH⟩ : ∃ H : Heap, H = s.heap := ⟨_, rfl⟩
  obtain ⟨locs, hlocs⟩ : ∃ locs : List Loc, locs = [] := ⟨_, rfl⟩
  have hP : xW D aa [[(h_p0, .inr (3, [.int p0_objects, .ref a_p0_words, .int p0_steps, .ref a_p0_sources, .ref a_p0_targets, .ref a_p0_labels]))], [(a_p0_labels, .inl (G 0, 32, .inl p0_labels))], [(a_p0_sources, .inl (G 0, 32, .inl p0_sources))], [(a_p0_targets, .inl (G 0, 32, .inl p0_targets))], [(h_p1, .inr (2, [.ref a_p1_pairs, .ref a_p1_below]))], [(a_p1_below, .inl (G 0, 8, .inl p1_below))]] H := by rw [hH]; exact hP
  have hS : va_S (xA aa) s.heap H locs := by rw [hH, hlocs]; exact hS
  suffices GO : W p l e (rM 2 49) s m args below meth c H locs 0 0 Q (F0 m 0 ls []) by
    rw [hH, hlocs] at GO
    exact GO
  clear hH hlocs
  refine lv_aload_n hx hb dX7_suitableEnds_0 rfl (lv_at hl 0 rfl) ?_
  refine x_getN hx hb hts u_X7_suitableEnds_X3 hown hE hP 0 rfl rfl 5 (by decide) (hE.2 (.fieldLinkNest RX7 41 "DecreasingDiagrams$LabelledSystem" "labels" "[I" RX11) (List.mem_of_getElem? (i := 20) rfl)) rfl dX7_suitableEnds_1 ?_
  refine lv_iload_n hx hb dX7_suitableEnds_4 rfl (lv_at hl 2 rfl) ?_
  obtain ⟨hi, hf⟩ := ck_some hf
  refine x_iald hx hb hE hP 1 rfl hi dX7_suitableEnds_5 ?_
  obtain ⟨v4_6, e_v4_6, hf⟩ := lt_some hf
  refine x_istore (v := v4_6) (lv' := [(4, .int v4_6), (0, .ref h_p0), (1, .ref h_p1), (2, .int v2), (3, .int v3)]) hx hb dX7_suitableEnds_6 e_v4_6 hl (by decide) rfl (fun ls hl => ?_)
  refine lv_aload_n hx hb dX7_suitableEnds_8 rfl (lv_at hl 1 rfl) ?_
  refine x_getN hx hb hts u_X7_suitableEnds_X3 hown hE hP 0 rfl rfl 5 (by decide) (hE.2 (.fieldLinkNest RX7 41 "DecreasingDiagrams$LabelledSystem" "labels" "[I" RX11) (List.mem_of_getElem? (i := 20) rfl)) rfl dX7_suitableEnds_9 ?_
  refine lv_iload_n hx hb dX7_suitableEnds_12 rfl (lv_at hl 4 rfl) ?_
  obtain ⟨hi, hf⟩ := ck_some hf
  refine x_iald hx hb hE hP 1 rfl hi dX7_suitableEnds_13 ?_
  obtain ⟨v5_14, e_v5_14, hf⟩ := lt_some hf
  refine x_istore (v := v5_14) (lv' := [(5, .int v5_14), (4, .int v4_6), (0, .ref h_p0), (1, .ref h_p1), (2, .int v2), (3, .int v3)]) hx hb dX7_suitableEnds_14 e_v5_14 hl (by decide) rfl (fun ls hl => ?_)
  refine lv_aload_n hx hb dX7_suitableEnds_16 rfl (lv_at hl 2 rfl) ?_
  refine lv_iconst (v := 1) hx hb dX7_suitableEnds_17 (by decide) ?_
  refine lv_aload_n hx hb dX7_suitableEnds_18 rfl (lv_at hl 2 rfl) ?_
  refine x_getN hx hb hts u_X7_suitableEnds_X3 hown hE hP 0 rfl rfl 4 (by decide) (hE.2 (.fieldLinkNest RX7 30 "DecreasingDiagrams$LabelledSystem" "targets" "[I" RX11) (List.mem_of_getElem? (i := 16) rfl)) rfl dX7_suitableEnds_19 ?_
  refine lv_iload_n hx hb dX7_suitableEnds_22 rfl (lv_at hl 4 rfl) ?_
  obtain ⟨hi, hf⟩ := ck_some hf
  refine x_iald hx hb hE hP 3 rfl hi dX7_suitableEnds_23 ?_
  refine lv_ishl hx hb dX7_suitableEnds_24 ?_
  refine lv_aload_n hx hb dX7_suitableEnds_25 rfl (lv_at hl 3 rfl) ?_
  refine x_getN hx hb hts u_X7_suitableEnds_X2 hown hE hP 4 rfl rfl 1 (by decide) (hE.2 (.fieldLinkNest RX7 44 "DecreasingDiagrams$LabelOrder" "below" "[I" RX11) (List.mem_of_getElem? (i := 2) rfl)) rfl dX7_suitableEnds_26 ?_
  refine lv_iload hx hb dX7_suitableEnds_29 (lv_at hl 1 rfl) ?_
  obtain ⟨hi, hf⟩ := ck_some hf
  refine x_iald hx hb hE hP 5 rfl hi dX7_suitableEnds_31 ?_
  obtain ⟨r_32, hr_32, hf⟩ := bd_some hf
  refine x_goi (ps := [0, 1, 2, 3]) (I' := [[(h_p0, .inr (3, [.int p0_objects, .ref a_p0_words, .int p0_steps, .ref a_p0_sources, .ref a_p0_targets, .ref a_p0_labels]))], [(a_p0_labels, .inl (G 0, 32, .inl p0_labels))], [(a_p0_sources, .inl (G 0, 32, .inl p0_sources))], [(a_p0_targets, .inl (G 0, 32, .inl p0_targets))], [(h_p1, .inr (2, [.ref a_p1_pairs, .ref a_p1_below]))], [(a_p1_below, .inl (G 0, 8, .inl p1_below))]]) (x_runVN (As := [.int (1 <<< ((p0_targets v2.toNatClampNeg) &&& 31)), .int (p1_below v4_6.toNatClampNeg)]) (rest := []) (ps := [0, 1, 2, 3]) ⟨hx, hb, hml, hown, hts⟩ (k_X3_closure l D G h_p0 a_p0_words a_p0_sources a_p0_targets a_p0_labels p0_objects p0_steps p0_labels p0_sources p0_targets (1 <<< ((p0_targets v2.toNatClampNeg) &&& 31)) (p1_below v4_6.toNatClampNeg) r_32 hr_32) ⟨va_cnB 2 hts gX7_suitableEnds_X3_closure_n49 rfl rfl rfl (hE.2 (.methodLinkNest RX7 49 yX3_closure RX11) (List.mem_of_getElem? (i := 76) rfl)) (hts (.initialized RX3) (List.mem_of_getElem? (i := 2) rfl)) (by decide +kernel) ⟨Nat.le_of_ble_eq_true rfl, Nat.le_of_ble_eq_true rfl⟩, (hts (.instanceMethod yX3_closure) (List.mem_of_getElem? (i := 1) rfl)), (hts (.selects RX3 yX3_closure yX3_closure) (List.mem_of_getElem? (i := 3) rfl))⟩ hE hP hN rfl (by decide) 0 rfl rfl rfl hl.1 (Nat.le_of_ble_eq_true rfl) dX7_suitableEnds_32 ⟨Nat.zero_le _, Nat.zero_le _⟩) hP hN hS rfl rfl (fun H locs hP hS => ?_)
  obtain ⟨v6_35, e_v6_35, hf⟩ := lt_some hf
  refine x_istore (v := v6_35) (lv' := [(6, .int v6_35), (5, .int v5_14), (4, .int v4_6), (0, .ref h_p0), (1, .ref h_p1), (2, .int v2), (3, .int v3)]) hx hb dX7_suitableEnds_35 e_v6_35 hl (by decide) rfl (fun ls hl => ?_)
  refine lv_iload hx hb dX7_suitableEnds_37 (lv_at hl 0 rfl) ?_
  refine lv_aload_n hx hb dX7_suitableEnds_39 rfl (lv_at hl 3 rfl) ?_
  refine lv_iload hx hb dX7_suitableEnds_40 (lv_at hl 0 rfl) ?_
  refine lv_iconst (v := 1) hx hb dX7_suitableEnds_42 (by decide) ?_
  refine lv_iload hx hb dX7_suitableEnds_43 (lv_at hl 1 rfl) ?_
  refine lv_ishl hx hb dX7_suitableEnds_45 ?_
  obtain ⟨r_46, hr_46, hf⟩ := bd_some hf
  refine x_goi (ps := [0, 1, 2, 3]) (I' := [[(h_p0, .inr (3, [.int p0_objects, .ref a_p0_words, .int p0_steps, .ref a_p0_sources, .ref a_p0_targets, .ref a_p0_labels]))], [(a_p0_labels, .inl (G 0, 32, .inl p0_labels))], [(a_p0_sources, .inl (G 0, 32, .inl p0_sources))], [(a_p0_targets, .inl (G 0, 32, .inl p0_targets))], [(h_p1, .inr (2, [.ref a_p1_pairs, .ref a_p1_below]))], [(a_p1_below, .inl (G 0, 8, .inl p1_below))]]) (x_runVN (As := [.int v6_35, .int (1 <<< (v5_14 &&& 31))]) (rest := [.int v6_35]) (ps := [0, 1, 2, 3]) ⟨hx, hb, hml, hown, hts⟩ (k_X3_successors l D G h_p0 a_p0_words a_p0_sources a_p0_targets a_p0_labels p0_objects p0_steps p0_labels p0_sources p0_targets v6_35 (1 <<< (v5_14 &&& 31)) r_46 hr_46) ⟨va_cnB 2 hts gX7_suitableEnds_X3_successors_n53 rfl rfl rfl (hE.2 (.methodLinkNest RX7 53 yX3_successors RX11) (List.mem_of_getElem? (i := 77) rfl)) (hts (.initialized RX3) (List.mem_of_getElem? (i := 2) rfl)) (by decide +kernel) ⟨Nat.le_of_ble_eq_true rfl, Nat.le_of_ble_eq_true rfl⟩, (hts (.instanceMethod yX3_successors) (List.mem_of_getElem? (i := 7) rfl)), (hts (.selects RX3 yX3_successors yX3_successors) (List.mem_of_getElem? (i := 8) rfl))⟩ hE hP hN rfl (by decide) 0 rfl rfl rfl hl.1 (Nat.le_of_ble_eq_true rfl) dX7_suitableEnds_46 ⟨Nat.zero_le _, Nat.zero_le _⟩) hP hN hS rfl rfl (fun H locs hP hS => ?_)
  refine lv_ior hx hb dX7_suitableEnds_49 ?_
  obtain ⟨v6_50, e_v6_50, hf⟩ := lt_some hf
  refine x_istore (v := v6_50) (lv' := [(6, .int v6_50), (5, .int v5_14), (4, .int v4_6), (0, .ref h_p0), (1, .ref h_p1), (2, .int v2), (3, .int v3)]) hx hb dX7_suitableEnds_50 e_v6_50 hl (by decide) rfl (fun ls hl => ?_)
  refine lv_aload_n hx hb dX7_suitableEnds_52 rfl (lv_at hl 3 rfl) ?_
  refine lv_iload hx hb dX7_suitableEnds_53 (lv_at hl 0 rfl) ?_
  refine lv_aload_n hx hb dX7_suitableEnds_55 rfl (lv_at hl 4 rfl) ?_
  refine x_getN hx hb hts u_X7_suitableEnds_X2 hown hE hP 4 rfl rfl 1 (by decide) (hE.2 (.fieldLinkNest RX7 44 "DecreasingDiagrams$LabelOrder" "below" "[I" RX11) (List.mem_of_getElem? (i := 2) rfl)) rfl dX7_suitableEnds_56 ?_
  refine lv_iload hx hb dX7_suitableEnds_59 (lv_at hl 2 rfl) ?_
  obtain ⟨hi, hf⟩ := ck_some hf
  refine x_iald hx hb hE hP 5 rfl hi dX7_suitableEnds_61 ?_
  refine lv_aload_n hx hb dX7_suitableEnds_62 rfl (lv_at hl 4 rfl) ?_
  refine x_getN hx hb hts u_X7_suitableEnds_X2 hown hE hP 4 rfl rfl 1 (by decide) (hE.2 (.fieldLinkNest RX7 44 "DecreasingDiagrams$LabelOrder" "below" "[I" RX11) (List.mem_of_getElem? (i := 2) rfl)) rfl dX7_suitableEnds_63 ?_
  refine lv_iload hx hb dX7_suitableEnds_66 (lv_at hl 1 rfl) ?_
  obtain ⟨hi, hf⟩ := ck_some hf
  refine x_iald hx hb hE hP 5 rfl hi dX7_suitableEnds_68 ?_
  refine lv_ior hx hb dX7_suitableEnds_69 ?_
  obtain ⟨r_70, hr_70, hf⟩ := bd_some hf
  refine x_goi (ps := [0, 1, 2, 3]) (I' := [[(h_p0, .inr (3, [.int p0_objects, .ref a_p0_words, .int p0_steps, .ref a_p0_sources, .ref a_p0_targets, .ref a_p0_labels]))], [(a_p0_labels, .inl (G 0, 32, .inl p0_labels))], [(a_p0_sources, .inl (G 0, 32, .inl p0_sources))], [(a_p0_targets, .inl (G 0, 32, .inl p0_targets))], [(h_p1, .inr (2, [.ref a_p1_pairs, .ref a_p1_below]))], [(a_p1_below, .inl (G 0, 8, .inl p1_below))]]) (x_runVN (As := [.int v6_50, .int ((p1_below v4_6.toNatClampNeg) ||| (p1_below v5_14.toNatClampNeg))]) (rest := []) (ps := [0, 1, 2, 3]) ⟨hx, hb, hml, hown, hts⟩ (k_X3_closure l D G h_p0 a_p0_words a_p0_sources a_p0_targets a_p0_labels p0_objects p0_steps p0_labels p0_sources p0_targets v6_50 ((p1_below v4_6.toNatClampNeg) ||| (p1_below v5_14.toNatClampNeg)) r_70 hr_70) ⟨va_cnB 2 hts gX7_suitableEnds_X3_closure_n49 rfl rfl rfl (hE.2 (.methodLinkNest RX7 49 yX3_closure RX11) (List.mem_of_getElem? (i := 76) rfl)) (hts (.initialized RX3) (List.mem_of_getElem? (i := 2) rfl)) (by decide +kernel) ⟨Nat.le_of_ble_eq_true rfl, Nat.le_of_ble_eq_true rfl⟩, (hts (.instanceMethod yX3_closure) (List.mem_of_getElem? (i := 1) rfl)), (hts (.selects RX3 yX3_closure yX3_closure) (List.mem_of_getElem? (i := 3) rfl))⟩ hE hP hN rfl (by decide) 0 rfl rfl rfl hl.1 (Nat.le_of_ble_eq_true rfl) dX7_suitableEnds_70 ⟨Nat.zero_le _, Nat.zero_le _⟩) hP hN hS rfl rfl (fun H locs hP hS => ?_)
  have hf := Option.some.inj hf
  subst hf
  subst hQ
  exact x_iret hx hb hr hlocks hP hS dX7_suitableEnds_73

set_option maxRecDepth 20000 in
theorem u_X7_decreases_X7 : ∀ w ∈ wsX70, w ∈ wsX7_decreases := xx_pl _ [20, 21, 22] (by decide +kernel)
set_option maxRecDepth 20000 in
theorem u_X7_decreases_X3 : ∀ w ∈ wsX30, w ∈ wsX7_decreases := xx_pl _ [23, 24, 25, 26, 27, 28] (by decide +kernel)
def f_X7_decreases (p2_objects : Int32) (p2_steps : Int32) (p2_labels : (Nat → Int32)) (p2_sources : (Nat → Int32)) (p2_targets : (Nat → Int32)) (p3_below : (Nat → Int32)) (firsts : (Nat → Int32)) (seconds : (Nat → Int32)) (v1 : Int32) : Option (Int32) :=
  ck v1 496 (lt (firsts v1.toNatClampNeg) (fun v4_6 => ck v1 496 (lt (seconds v1.toNatClampNeg) (fun v5_14 => ck v4_6 32 (ck v5_14 32 (if ¬ (p2_targets v4_6.toNatClampNeg) = (p2_targets v5_14.toNatClampNeg) then ((f_X7_suitableEnds p2_objects p2_steps p2_labels p2_sources p2_targets p3_below v4_6 v5_14).bind (fun r_41 => lt r_41 (fun v6_44 => (f_X7_suitableEnds p2_objects p2_steps p2_labels p2_sources p2_targets p3_below v5_14 v4_6).bind (fun r_52 => lt r_52 (fun v7_55 => if (v6_44 &&& v7_55) = 0 then (some 0) else (some 1)))))) else (some 1)))))))
set_option maxHeartbeats 4000000 in
set_option maxRecDepth 100000 in
theorem k_X7_decreases (l : Launch) (D : va_G) (G : Nat → ClassId) (h : Nat) (h_p2 : Nat) (h_p3 : Nat) (a_p2_words : Nat) (a_p2_sources : Nat) (a_p2_targets : Nat) (a_p2_labels : Nat) (a_p3_pairs : Nat) (a_p3_below : Nat) (a_firsts : Nat) (a_seconds : Nat) (p2_objects : Int32) (p2_steps : Int32) (count : Int32) (p2_labels : (Nat → Int32)) (p2_sources : (Nat → Int32)) (p2_targets : (Nat → Int32)) (p3_below : (Nat → Int32)) (firsts : (Nat → Int32)) (seconds : (Nat → Int32))  (v1 : Int32) (out : Int32) (hf : f_X7_decreases p2_objects p2_steps p2_labels p2_sources p2_targets p3_below firsts seconds v1 = some out) : xMet l yX7_decreases wsX7_decreases (rM 3 75) D G [.ref h, .int v1, .ref h_p2, .ref h_p3] [[(h_p2, .inr (3, [.int p2_objects, .ref a_p2_words, .int p2_steps, .ref a_p2_sources, .ref a_p2_targets, .ref a_p2_labels]))], [(a_p2_labels, .inl (G 0, 32, .inl p2_labels))], [(a_p2_sources, .inl (G 0, 32, .inl p2_sources))], [(a_p2_targets, .inl (G 0, 32, .inl p2_targets))], [(h_p3, .inr (2, [.ref a_p3_pairs, .ref a_p3_below]))], [(a_p3_below, .inl (G 0, 8, .inl p3_below))], [(h, .inr (7, [.int count, .ref a_firsts, .ref a_seconds]))], [(a_firsts, .inl (G 0, 496, .inl firsts))], [(a_seconds, .inl (G 0, 496, .inl seconds))]] (xQi D [[(h_p2, .inr (3, [.int p2_objects, .ref a_p2_words, .int p2_steps, .ref a_p2_sources, .ref a_p2_targets, .ref a_p2_labels]))], [(a_p2_labels, .inl (G 0, 32, .inl p2_labels))], [(a_p2_sources, .inl (G 0, 32, .inl p2_sources))], [(a_p2_targets, .inl (G 0, 32, .inl p2_targets))], [(h_p3, .inr (2, [.ref a_p3_pairs, .ref a_p3_below]))], [(a_p3_below, .inl (G 0, 8, .inl p3_below))], [(h, .inr (7, [.int count, .ref a_firsts, .ref a_seconds]))], [(a_firsts, .inl (G 0, 496, .inl firsts))], [(a_seconds, .inl (G 0, 496, .inl seconds))]] out) := by
  refine x_ent (cc := cX7_decreases) (maxL := 8) (by decide) rfl (Nat.le_of_ble_eq_true rfl) ?_
  intro p e s m below meth c aa ls args Q hQ hx hb hr hml hown hts hlocks hE hN hP hl hS
  have hown : s.vm.findClass RX7 = some m.cls := hown
  have hl : lv_has ls 8 [(0, .ref h), (1, .int v1), (2, .ref h_p2), (3, .ref h_p3)] := hl
  rw [f_X7_decreases] at hf
  obtain ⟨H, hH⟩ : ∃ H : Heap, H = s.heap := ⟨_, rfl⟩
  obtain ⟨locs, hlocs⟩ : ∃ locs : List Loc, locs = [] := ⟨_, rfl⟩
  have hP : xW D aa [[(h_p2, .inr (3, [.int p2_objects, .ref a_p2_words, .int p2_steps, .ref a_p2_sources, .ref a_p2_targets, .ref a_p2_labels]))], [(a_p2_labels, .inl (G 0, 32, .inl p2_labels))], [(a_p2_sources, .inl (G 0, 32, .inl p2_sources))], [(a_p2_targets, .inl (G 0, 32, .inl p2_targets))], [(h_p3, .inr (2, [.ref a_p3_pairs, .ref a_p3_below]))], [(a_p3_below, .inl (G 0, 8, .inl p3_below))], [(h, .inr (7, [.int count, .ref a_firsts, .ref a_seconds]))], [(a_firsts, .inl (G 0, 496, .inl firsts))], [(a_seconds, .inl (G 0, 496, .inl seconds))]] H := by rw [hH]; exact hP
  have hS : va_S (xA aa) s.heap H locs := by rw [hH, hlocs]; exact hS
  suffices GO : W p l e (rM 3 75) s m args below meth c H locs 0 0 Q (F0 m 0 ls []) by
    rw [hH, hlocs] at GO
    exact GO
  clear hH hlocs
  refine lv_aload_n hx hb dX7_decreases_0 rfl (lv_at hl 0 rfl) ?_
  refine x_get hx hb hts u_X7_decreases_X7 hown hE hP 6 rfl rfl 1 (by decide) (hts (.fieldLink RX7 15 "DecreasingDiagrams$Peaks" "firsts" "[I") (List.mem_of_getElem? (i := 1) rfl)) rfl dX7_decreases_1 ?_
  refine lv_iload_n hx hb dX7_decreases_4 rfl (lv_at hl 1 rfl) ?_
  obtain ⟨hi, hf⟩ := ck_some hf
  refine x_iald hx hb hE hP 7 rfl hi dX7_decreases_5 ?_
  obtain ⟨v4_6, e_v4_6, hf⟩ := lt_some hf
  refine x_istore (v := v4_6) (lv' := [(4, .int v4_6), (0, .ref h), (1, .int v1), (2, .ref h_p2), (3, .ref h_p3)]) hx hb dX7_decreases_6 e_v4_6 hl (by decide) rfl (fun ls hl => ?_)
  refine lv_aload_n hx hb dX7_decreases_8 rfl (lv_at hl 1 rfl) ?_
  refine x_get hx hb hts u_X7_decreases_X7 hown hE hP 6 rfl rfl 2 (by decide) (hts (.fieldLink RX7 19 "DecreasingDiagrams$Peaks" "seconds" "[I") (List.mem_of_getElem? (i := 2) rfl)) rfl dX7_decreases_9 ?_
  refine lv_iload_n hx hb dX7_decreases_12 rfl (lv_at hl 2 rfl) ?_
  obtain ⟨hi, hf⟩ := ck_some hf
  refine x_iald hx hb hE hP 8 rfl hi dX7_decreases_13 ?_
  obtain ⟨v5_14, e_v5_14, hf⟩ := lt_some hf
  refine x_istore (v := v5_14) (lv' := [(5, .int v5_14), (4, .int v4_6), (0, .ref h), (1, .int v1), (2, .ref h_p2), (3, .ref h_p3)]) hx hb dX7_decreases_14 e_v5_14 hl (by decide) rfl (fun ls hl => ?_)
  refine lv_aload_n hx hb dX7_decreases_16 rfl (lv_at hl 4 rfl) ?_
  refine x_getN hx hb hts u_X7_decreases_X3 hown hE hP 0 rfl rfl 4 (by decide) (hE.2 (.fieldLinkNest RX7 30 "DecreasingDiagrams$LabelledSystem" "targets" "[I" RX11) (List.mem_of_getElem? (i := 16) rfl)) rfl dX7_decreases_17 ?_
  refine lv_iload hx hb dX7_decreases_20 (lv_at hl 1 rfl) ?_
  obtain ⟨hi, hf⟩ := ck_some hf
  refine x_iald hx hb hE hP 3 rfl hi dX7_decreases_22 ?_
  refine lv_aload_n hx hb dX7_decreases_23 rfl (lv_at hl 4 rfl) ?_
  refine x_getN hx hb hts u_X7_decreases_X3 hown hE hP 0 rfl rfl 4 (by decide) (hE.2 (.fieldLinkNest RX7 30 "DecreasingDiagrams$LabelledSystem" "targets" "[I" RX11) (List.mem_of_getElem? (i := 16) rfl)) rfl dX7_decreases_24 ?_
  refine lv_iload hx hb dX7_decreases_27 (lv_at hl 0 rfl) ?_
  obtain ⟨hi, hf⟩ := ck_some hf
  refine x_iald hx hb hE hP 3 rfl hi dX7_decreases_29 ?_
  refine lv_icmp_ne (tgt := 35) hx hb dX7_decreases_30 (by decide) (fun c_30 => ?_) (fun c_30 => ?_)
  · have hf := it_pos c_30 hf
    refine lv_aload_n hx hb dX7_decreases_35 rfl (lv_at hl 4 rfl) ?_
    refine lv_aload_n hx hb dX7_decreases_36 rfl (lv_at hl 5 rfl) ?_
    refine lv_iload hx hb dX7_decreases_37 (lv_at hl 1 rfl) ?_
    refine lv_iload hx hb dX7_decreases_39 (lv_at hl 0 rfl) ?_
    obtain ⟨r_41, hr_41, hf⟩ := bd_some hf
    refine x_goi (ps := [0, 1, 2, 3, 4, 5]) (I' := [[(h_p2, .inr (3, [.int p2_objects, .ref a_p2_words, .int p2_steps, .ref a_p2_sources, .ref a_p2_targets, .ref a_p2_labels]))], [(a_p2_labels, .inl (G 0, 32, .inl p2_labels))], [(a_p2_sources, .inl (G 0, 32, .inl p2_sources))], [(a_p2_targets, .inl (G 0, 32, .inl p2_targets))], [(h_p3, .inr (2, [.ref a_p3_pairs, .ref a_p3_below]))], [(a_p3_below, .inl (G 0, 8, .inl p3_below))], [(h, .inr (7, [.int count, .ref a_firsts, .ref a_seconds]))], [(a_firsts, .inl (G 0, 496, .inl firsts))], [(a_seconds, .inl (G 0, 496, .inl seconds))]]) (x_runS (As := [.ref h_p2, .ref h_p3, .int v4_6, .int v5_14]) (rest := []) (ps := [0, 1, 2, 3, 4, 5]) ⟨hx, hb, hml, hown, hts⟩ (k_X7_suitableEnds l D G h_p2 h_p3 a_p2_words a_p2_sources a_p2_targets a_p2_labels a_p3_pairs a_p3_below p2_objects p2_steps p2_labels p2_sources p2_targets p3_below v4_6 v5_14 r_41 hr_41) (va_cwS 4 hts gX7_decreases_X7_suitableEnds rfl rfl rfl (by decide +kernel) ⟨Nat.le_of_ble_eq_true rfl, Nat.le_of_ble_eq_true rfl⟩) hE hP hN rfl (by decide) rfl hl.1 (Nat.le_of_ble_eq_true rfl) dX7_decreases_41 ⟨Nat.zero_le _, Nat.zero_le _⟩) hP hN hS rfl rfl (fun H locs hP hS => ?_)
    obtain ⟨v6_44, e_v6_44, hf⟩ := lt_some hf
    refine x_istore (v := v6_44) (lv' := [(6, .int v6_44), (5, .int v5_14), (4, .int v4_6), (0, .ref h), (1, .int v1), (2, .ref h_p2), (3, .ref h_p3)]) hx hb dX7_decreases_44 e_v6_44 hl (by decide) rfl (fun ls hl => ?_)
    refine lv_aload_n hx hb dX7_decreases_46 rfl (lv_at hl 5 rfl) ?_
    refine lv_aload_n hx hb dX7_decreases_47 rfl (lv_at hl 6 rfl) ?_
    refine lv_iload hx hb dX7_decreases_48 (lv_at hl 1 rfl) ?_
    refine lv_iload hx hb dX7_decreases_50 (lv_at hl 2 rfl) ?_
    obtain ⟨r_52, hr_52, hf⟩ := bd_some hf
    refine x_goi (ps := [0, 1, 2, 3, 4, 5]) (I' := [[(h_p2, .inr (3, [.int p2_objects, .ref a_p2_words, .int p2_steps, .ref a_p2_sources, .ref a_p2_targets, .ref a_p2_labels]))], [(a_p2_labels, .inl (G 0, 32, .inl p2_labels))], [(a_p2_sources, .inl (G 0, 32, .inl p2_sources))], [(a_p2_targets, .inl (G 0, 32, .inl p2_targets))], [(h_p3, .inr (2, [.ref a_p3_pairs, .ref a_p3_below]))], [(a_p3_below, .inl (G 0, 8, .inl p3_below))], [(h, .inr (7, [.int count, .ref a_firsts, .ref a_seconds]))], [(a_firsts, .inl (G 0, 496, .inl firsts))], [(a_seconds, .inl (G 0, 496, .inl seconds))]]) (x_runS (As := [.ref h_p2, .ref h_p3, .int v5_14, .int v4_6]) (rest := []) (ps := [0, 1, 2, 3, 4, 5]) ⟨hx, hb, hml, hown, hts⟩ (k_X7_suitableEnds l D G h_p2 h_p3 a_p2_words a_p2_sources a_p2_targets a_p2_labels a_p3_pairs a_p3_below p2_objects p2_steps p2_labels p2_sources p2_targets p3_below v5_14 v4_6 r_52 hr_52) (va_cwS 4 hts gX7_decreases_X7_suitableEnds rfl rfl rfl (by decide +kernel) ⟨Nat.le_of_ble_eq_true rfl, Nat.le_of_ble_eq_true rfl⟩) hE hP hN rfl (by decide) rfl hl.1 (Nat.le_of_ble_eq_true rfl) dX7_decreases_52 ⟨Nat.zero_le _, Nat.zero_le _⟩) hP hN hS rfl rfl (fun H locs hP hS => ?_)
    obtain ⟨v7_55, e_v7_55, hf⟩ := lt_some hf
    refine x_istore (v := v7_55) (lv' := [(7, .int v7_55), (6, .int v6_44), (5, .int v5_14), (4, .int v4_6), (0, .ref h), (1, .int v1), (2, .ref h_p2), (3, .ref h_p3)]) hx hb dX7_decreases_55 e_v7_55 hl (by decide) rfl (fun ls hl => ?_)
    refine lv_iload hx hb dX7_decreases_57 (lv_at hl 1 rfl) ?_
    refine lv_iload hx hb dX7_decreases_59 (lv_at hl 0 rfl) ?_
    refine lv_iand hx hb dX7_decreases_61 ?_
    refine lv_if_eq (tgt := 69) hx hb dX7_decreases_62 (by decide) (fun c_62 => ?_) (fun c_62 => ?_)
    · have hf := it_pos c_62 hf
      refine lv_iconst (v := 0) hx hb dX7_decreases_69 (by decide) ?_
      have hf := Option.some.inj hf
      subst hf
      subst hQ
      exact x_zret hx hb hr hlocks rfl hP hS dX7_decreases_70
    · have hf := it_neg c_62 hf
      refine lv_iconst (v := 1) hx hb dX7_decreases_65 (by decide) ?_
      refine lv_goto (tgt := 70) hx hb dX7_decreases_66 (by decide) ?_
      have hf := Option.some.inj hf
      subst hf
      subst hQ
      exact x_zret hx hb hr hlocks rfl hP hS dX7_decreases_70
  · have hf := it_neg (fun h => h c_30) hf
    refine lv_iconst (v := 1) hx hb dX7_decreases_33 (by decide) ?_
    have hf := Option.some.inj hf
    subst hf
    subst hQ
    exact x_zret hx hb hr hlocks rfl hP hS dX7_decreases_34

set_option maxRecDepth 20000 in
theorem u_X7_has_X7 : ∀ w ∈ wsX70, w ∈ wsX7_has := xx_pl _ [2, 3, 4] (by decide +kernel)
def f_X7_has (count : Int32) (v1 : Int32) : Option (Int32) :=
  if v1 < 0 then (some 0) else (if count ≤ v1 then (some 0) else (some 1))
set_option maxHeartbeats 4000000 in
set_option maxRecDepth 100000 in
theorem k_X7_has (l : Launch) (D : va_G) (G : Nat → ClassId) (h : Nat) (a_firsts : Nat) (a_seconds : Nat) (count : Int32)  (v1 : Int32) (out : Int32) (hf : f_X7_has count v1 = some out) : xMet l yX7_has wsX7_has (rM 0 0) D G [.ref h, .int v1] [[(h, .inr (7, [.int count, .ref a_firsts, .ref a_seconds]))]] (xQi D [[(h, .inr (7, [.int count, .ref a_firsts, .ref a_seconds]))]] out) := by
  refine x_ent (cc := cX7_has) (maxL := 2) (by decide) rfl (Nat.le_of_ble_eq_true rfl) ?_
  intro p e s m below meth c aa ls args Q hQ hx hb hr hml hown hts hlocks hE hN hP hl hS
  have hown : s.vm.findClass RX7 = some m.cls := hown
  have hl : lv_has ls 2 [(0, .ref h), (1, .int v1)] := hl
  rw [f_X7_has] at hf
  obtain ⟨H, hH⟩ : ∃ H : Heap, H = s.heap := ⟨_, rfl⟩
  obtain ⟨locs, hlocs⟩ : ∃ locs : List Loc, locs = [] := ⟨_, rfl⟩
  have hP : xW D aa [[(h, .inr (7, [.int count, .ref a_firsts, .ref a_seconds]))]] H := by rw [hH]; exact hP
  have hS : va_S (xA aa) s.heap H locs := by rw [hH, hlocs]; exact hS
  suffices GO : W p l e (rM 0 0) s m args below meth c H locs 0 0 Q (F0 m 0 ls []) by
    rw [hH, hlocs] at GO
    exact GO
  clear hH hlocs
  refine lv_iload_n hx hb dX7_has_0 rfl (lv_at hl 1 rfl) ?_
  refine lv_if_lt (tgt := 16) hx hb dX7_has_1 (by decide) (fun c_1 => ?_) (fun c_1 => ?_)
  · have hf := it_pos c_1 hf
    refine lv_iconst (v := 0) hx hb dX7_has_16 (by decide) ?_
    have hf := Option.some.inj hf
    subst hf
    subst hQ
    exact x_zret hx hb hr hlocks rfl hP hS dX7_has_17
  · have hf := it_neg c_1 hf
    refine lv_iload_n hx hb dX7_has_4 rfl (lv_at hl 1 rfl) ?_
    refine lv_aload_n hx hb dX7_has_5 rfl (lv_at hl 0 rfl) ?_
    refine x_get hx hb hts u_X7_has_X7 hown hE hP 0 rfl rfl 0 (by decide) (hts (.fieldLink RX7 9 "DecreasingDiagrams$Peaks" "count" "I") (List.mem_of_getElem? (i := 1) rfl)) rfl dX7_has_6 ?_
    refine lv_icmp_ge (tgt := 16) hx hb dX7_has_9 (by decide) (fun c_9 => ?_) (fun c_9 => ?_)
    · have hf := it_pos c_9 hf
      refine lv_iconst (v := 0) hx hb dX7_has_16 (by decide) ?_
      have hf := Option.some.inj hf
      subst hf
      subst hQ
      exact x_zret hx hb hr hlocks rfl hP hS dX7_has_17
    · have hf := it_neg c_9 hf
      refine lv_iconst (v := 1) hx hb dX7_has_12 (by decide) ?_
      refine lv_goto (tgt := 17) hx hb dX7_has_13 (by decide) ?_
      have hf := Option.some.inj hf
      subst hf
      subst hQ
      exact x_zret hx hb hr hlocks rfl hP hS dX7_has_17

set_option maxRecDepth 20000 in
theorem u_X3_copyFrom_X3 : ∀ w ∈ wsX30, w ∈ wsX3_copyFrom := xx_pl _ [11, 12, 13, 14, 15, 16] (by decide +kernel)
def f_X3_copyFrom (p1_objects : Int32) (p1_steps : Int32) (p1_labels : (Nat → Int32)) (p1_sources : (Nat → Int32)) (p1_targets : (Nat → Int32)) (p1_words : (Nat → Int32)) (labels : (Nat → Int32)) (sources : (Nat → Int32)) (targets : (Nat → Int32)) (words : (Nat → Int32)) : Option ((Nat → Int32) × Int32 × (Nat → Int32) × Int32 × (Nat → Int32) × (Nat → Int32)) :=
  lt p1_objects (fun objects_5 => lt (va_cpy p1_words words 0 0 16) (fun words_20 => lt p1_steps (fun steps_28 => lt (va_cpy p1_sources sources 0 0 32) (fun sources_43 => lt (va_cpy p1_targets targets 0 0 32) (fun targets_58 => lt (va_cpy p1_labels labels 0 0 32) (fun labels_73 => some (labels_73, objects_5, sources_43, steps_28, targets_58, words_20)))))))
set_option maxHeartbeats 4000000 in
set_option maxRecDepth 100000 in
theorem k_X3_copyFrom (l : Launch) (D : va_G) (G : Nat → ClassId) (h : Nat) (h_p1 : Nat) (a_p1_words : Nat) (a_p1_sources : Nat) (a_p1_targets : Nat) (a_p1_labels : Nat) (a_words : Nat) (a_sources : Nat) (a_targets : Nat) (a_labels : Nat) (p1_objects : Int32) (p1_steps : Int32) (objects : Int32) (steps : Int32) (p1_labels : (Nat → Int32)) (p1_sources : (Nat → Int32)) (p1_targets : (Nat → Int32)) (p1_words : (Nat → Int32)) (labels : (Nat → Int32)) (sources : (Nat → Int32)) (targets : (Nat → Int32)) (words : (Nat → Int32))   (out : (Nat → Int32) × Int32 × (Nat → Int32) × Int32 × (Nat → Int32) × (Nat → Int32)) (hf : f_X3_copyFrom p1_objects p1_steps p1_labels p1_sources p1_targets p1_words labels sources targets words = some out) : xMet l yX3_copyFrom wsX3_copyFrom (rM 1 26) D G [.ref h, .ref h_p1] [[(h_p1, .inr (3, [.int p1_objects, .ref a_p1_words, .int p1_steps, .ref a_p1_sources, .ref a_p1_targets, .ref a_p1_labels]))], [(a_p1_labels, .inl (G 0, 32, .inl p1_labels))], [(a_p1_sources, .inl (G 0, 32, .inl p1_sources))], [(a_p1_targets, .inl (G 0, 32, .inl p1_targets))], [(a_p1_words, .inl (G 0, 16, .inl p1_words))], [(h, .inr (3, [.int objects, .ref a_words, .int steps, .ref a_sources, .ref a_targets, .ref a_labels]))], [(a_labels, .inl (G 0, 32, .inl labels))], [(a_sources, .inl (G 0, 32, .inl sources))], [(a_targets, .inl (G 0, 32, .inl targets))], [(a_words, .inl (G 0, 16, .inl words))]] (xQv D [[(h_p1, .inr (3, [.int p1_objects, .ref a_p1_words, .int p1_steps, .ref a_p1_sources, .ref a_p1_targets, .ref a_p1_labels]))], [(a_p1_labels, .inl (G 0, 32, .inl p1_labels))], [(a_p1_sources, .inl (G 0, 32, .inl p1_sources))], [(a_p1_targets, .inl (G 0, 32, .inl p1_targets))], [(a_p1_words, .inl (G 0, 16, .inl p1_words))], [(h, .inr (3, [.int out.2.1, .ref a_words, .int out.2.2.2.1, .ref a_sources, .ref a_targets, .ref a_labels]))], [(a_labels, .inl (G 0, 32, .inl out.1))], [(a_sources, .inl (G 0, 32, .inl out.2.2.1))], [(a_targets, .inl (G 0, 32, .inl out.2.2.2.2.1))], [(a_words, .inl (G 0, 16, .inl out.2.2.2.2.2))]]) := by
  refine x_ent (cc := cX3_copyFrom) (maxL := 2) (by decide) rfl (Nat.le_of_ble_eq_true rfl) ?_
  intro p e s m below meth c aa ls args Q hQ hx hb hr hml hown hts hlocks hE hN hP hl hS
  have hown : s.vm.findClass RX3 = some m.cls := hown
  have hl : lv_has ls 2 [(0, .ref h), (1, .ref h_p1)] := hl
  rw [f_X3_copyFrom] at hf
  obtain ⟨H, hH⟩ : ∃ H : Heap, H = s.heap := ⟨_, rfl⟩
  obtain ⟨locs, hlocs⟩ : ∃ locs : List Loc, locs = [] := ⟨_, rfl⟩
  have hP : xW D aa [[(h_p1, .inr (3, [.int p1_objects, .ref a_p1_words, .int p1_steps, .ref a_p1_sources, .ref a_p1_targets, .ref a_p1_labels]))], [(a_p1_labels, .inl (G 0, 32, .inl p1_labels))], [(a_p1_sources, .inl (G 0, 32, .inl p1_sources))], [(a_p1_targets, .inl (G 0, 32, .inl p1_targets))], [(a_p1_words, .inl (G 0, 16, .inl p1_words))], [(h, .inr (3, [.int objects, .ref a_words, .int steps, .ref a_sources, .ref a_targets, .ref a_labels]))], [(a_labels, .inl (G 0, 32, .inl labels))], [(a_sources, .inl (G 0, 32, .inl sources))], [(a_targets, .inl (G 0, 32, .inl targets))], [(a_words, .inl (G 0, 16, .inl words))]] H := by rw [hH]; exact hP
  have hS : va_S (xA aa) s.heap H locs := by rw [hH, hlocs]; exact hS
  suffices GO : W p l e (rM 1 26) s m args below meth c H locs 0 0 Q (F0 m 0 ls []) by
    rw [hH, hlocs] at GO
    exact GO
  clear hH hlocs
  refine lv_aload_n hx hb dX3_copyFrom_0 rfl (lv_at hl 0 rfl) ?_
  refine lv_aload_n hx hb dX3_copyFrom_1 rfl (lv_at hl 1 rfl) ?_
  refine x_get hx hb hts u_X3_copyFrom_X3 hown hE hP 0 rfl rfl 0 (by decide) (hts (.fieldLink RX3 9 "DecreasingDiagrams$LabelledSystem" "objects" "I") (List.mem_of_getElem? (i := 1) rfl)) rfl dX3_copyFrom_2 ?_
  obtain ⟨objects_5, e_objects_5, hf⟩ := lt_some hf
  refine x_put (w := .int objects_5) (ty := .int) (I' := [[(h_p1, .inr (3, [.int p1_objects, .ref a_p1_words, .int p1_steps, .ref a_p1_sources, .ref a_p1_targets, .ref a_p1_labels]))], [(a_p1_labels, .inl (G 0, 32, .inl p1_labels))], [(a_p1_sources, .inl (G 0, 32, .inl p1_sources))], [(a_p1_targets, .inl (G 0, 32, .inl p1_targets))], [(a_p1_words, .inl (G 0, 16, .inl p1_words))], [(h, .inr (3, [.int objects_5, .ref a_words, .int steps, .ref a_sources, .ref a_targets, .ref a_labels]))], [(a_labels, .inl (G 0, 32, .inl labels))], [(a_sources, .inl (G 0, 32, .inl sources))], [(a_targets, .inl (G 0, 32, .inl targets))], [(a_words, .inl (G 0, 16, .inl words))]]) hx hb hts u_X3_copyFrom_X3 tyX3 tyX3_ok nmX3 hown hE hP hN hS 5 rfl rfl 0 (by decide) (hts (.fieldLink RX3 9 "DecreasingDiagrams$LabelledSystem" "objects" "I") (List.mem_of_getElem? (i := 1) rfl)) rfl (congrArg Value.int e_objects_5) (by decide +kernel) rfl rfl (Nat.le_of_ble_eq_true rfl) rfl dX3_copyFrom_5 (fun H locs hP hS => ?_)
  refine lv_aload_n hx hb dX3_copyFrom_8 rfl (lv_at hl 1 rfl) ?_
  refine x_get hx hb hts u_X3_copyFrom_X3 hown hE hP 0 rfl rfl 1 (by decide) (hts (.fieldLink RX3 15 "DecreasingDiagrams$LabelledSystem" "words" "[I") (List.mem_of_getElem? (i := 2) rfl)) rfl dX3_copyFrom_9 ?_
  refine lv_iconst (v := 0) hx hb dX3_copyFrom_12 (by decide) ?_
  refine lv_aload_n hx hb dX3_copyFrom_13 rfl (lv_at hl 0 rfl) ?_
  refine x_get hx hb hts u_X3_copyFrom_X3 hown hE hP 5 rfl rfl 1 (by decide) (hts (.fieldLink RX3 15 "DecreasingDiagrams$LabelledSystem" "words" "[I") (List.mem_of_getElem? (i := 2) rfl)) rfl dX3_copyFrom_14 ?_
  refine lv_iconst (v := 0) hx hb dX3_copyFrom_17 (by decide) ?_
  refine lv_bipush (v := 16) hx hb dX3_copyFrom_18 (by decide) ?_
  obtain ⟨words_20, e_words_20, hf⟩ := lt_some hf
  refine x_copyi (I' := [[(h_p1, .inr (3, [.int p1_objects, .ref a_p1_words, .int p1_steps, .ref a_p1_sources, .ref a_p1_targets, .ref a_p1_labels]))], [(a_p1_labels, .inl (G 0, 32, .inl p1_labels))], [(a_p1_sources, .inl (G 0, 32, .inl p1_sources))], [(a_p1_targets, .inl (G 0, 32, .inl p1_targets))], [(a_p1_words, .inl (G 0, 16, .inl p1_words))], [(h, .inr (3, [.int objects_5, .ref a_words, .int steps, .ref a_sources, .ref a_targets, .ref a_labels]))], [(a_labels, .inl (G 0, 32, .inl labels))], [(a_sources, .inl (G 0, 32, .inl sources))], [(a_targets, .inl (G 0, 32, .inl targets))], [(a_words, .inl (G 0, 16, .inl words_20))]]) hx hb (hml.trans hl.1.symm) hown (hts (.methodLink RX3 31 arraycopyName) (List.mem_of_getElem? (i := 3) rfl)) (hts (.native arraycopyName) (List.mem_of_getElem? (i := 4) rfl)) (hts (.static arraycopyName) (List.mem_of_getElem? (i := 5) rfl)) (hts (.initialized RJ10) (List.mem_of_getElem? (i := 6) rfl)) hE hP hN hS 4 9 rfl rfl (by decide) (by decide) (by decide) (by decide) (by decide) (by decide) (by decide) (by rw [e_words_20]; rfl) rfl dX3_copyFrom_20 (fun H locs hP hS => ?_)
  refine lv_aload_n hx hb dX3_copyFrom_23 rfl (lv_at hl 0 rfl) ?_
  refine lv_aload_n hx hb dX3_copyFrom_24 rfl (lv_at hl 1 rfl) ?_
  refine x_get hx hb hts u_X3_copyFrom_X3 hown hE hP 0 rfl rfl 2 (by decide) (hts (.fieldLink RX3 19 "DecreasingDiagrams$LabelledSystem" "steps" "I") (List.mem_of_getElem? (i := 7) rfl)) rfl dX3_copyFrom_25 ?_
  obtain ⟨steps_28, e_steps_28, hf⟩ := lt_some hf
  refine x_put (w := .int steps_28) (ty := .int) (I' := [[(h_p1, .inr (3, [.int p1_objects, .ref a_p1_words, .int p1_steps, .ref a_p1_sources, .ref a_p1_targets, .ref a_p1_labels]))], [(a_p1_labels, .inl (G 0, 32, .inl p1_labels))], [(a_p1_sources, .inl (G 0, 32, .inl p1_sources))], [(a_p1_targets, .inl (G 0, 32, .inl p1_targets))], [(a_p1_words, .inl (G 0, 16, .inl p1_words))], [(h, .inr (3, [.int objects_5, .ref a_words, .int steps_28, .ref a_sources, .ref a_targets, .ref a_labels]))], [(a_labels, .inl (G 0, 32, .inl labels))], [(a_sources, .inl (G 0, 32, .inl sources))], [(a_targets, .inl (G 0, 32, .inl targets))], [(a_words, .inl (G 0, 16, .inl words_20))]]) hx hb hts u_X3_copyFrom_X3 tyX3 tyX3_ok nmX3 hown hE hP hN hS 5 rfl rfl 2 (by decide) (hts (.fieldLink RX3 19 "DecreasingDiagrams$LabelledSystem" "steps" "I") (List.mem_of_getElem? (i := 7) rfl)) rfl (congrArg Value.int e_steps_28) (by decide +kernel) rfl rfl (Nat.le_of_ble_eq_true rfl) rfl dX3_copyFrom_28 (fun H locs hP hS => ?_)
  refine lv_aload_n hx hb dX3_copyFrom_31 rfl (lv_at hl 1 rfl) ?_
  refine x_get hx hb hts u_X3_copyFrom_X3 hown hE hP 0 rfl rfl 3 (by decide) (hts (.fieldLink RX3 22 "DecreasingDiagrams$LabelledSystem" "sources" "[I") (List.mem_of_getElem? (i := 8) rfl)) rfl dX3_copyFrom_32 ?_
  refine lv_iconst (v := 0) hx hb dX3_copyFrom_35 (by decide) ?_
  refine lv_aload_n hx hb dX3_copyFrom_36 rfl (lv_at hl 0 rfl) ?_
  refine x_get hx hb hts u_X3_copyFrom_X3 hown hE hP 5 rfl rfl 3 (by decide) (hts (.fieldLink RX3 22 "DecreasingDiagrams$LabelledSystem" "sources" "[I") (List.mem_of_getElem? (i := 8) rfl)) rfl dX3_copyFrom_37 ?_
  refine lv_iconst (v := 0) hx hb dX3_copyFrom_40 (by decide) ?_
  refine lv_bipush (v := 32) hx hb dX3_copyFrom_41 (by decide) ?_
  obtain ⟨sources_43, e_sources_43, hf⟩ := lt_some hf
  refine x_copyi (I' := [[(h_p1, .inr (3, [.int p1_objects, .ref a_p1_words, .int p1_steps, .ref a_p1_sources, .ref a_p1_targets, .ref a_p1_labels]))], [(a_p1_labels, .inl (G 0, 32, .inl p1_labels))], [(a_p1_sources, .inl (G 0, 32, .inl p1_sources))], [(a_p1_targets, .inl (G 0, 32, .inl p1_targets))], [(a_p1_words, .inl (G 0, 16, .inl p1_words))], [(h, .inr (3, [.int objects_5, .ref a_words, .int steps_28, .ref a_sources, .ref a_targets, .ref a_labels]))], [(a_labels, .inl (G 0, 32, .inl labels))], [(a_sources, .inl (G 0, 32, .inl sources_43))], [(a_targets, .inl (G 0, 32, .inl targets))], [(a_words, .inl (G 0, 16, .inl words_20))]]) hx hb (hml.trans hl.1.symm) hown (hts (.methodLink RX3 31 arraycopyName) (List.mem_of_getElem? (i := 3) rfl)) (hts (.native arraycopyName) (List.mem_of_getElem? (i := 4) rfl)) (hts (.static arraycopyName) (List.mem_of_getElem? (i := 5) rfl)) (hts (.initialized RJ10) (List.mem_of_getElem? (i := 6) rfl)) hE hP hN hS 2 7 rfl rfl (by decide) (by decide) (by decide) (by decide) (by decide) (by decide) (by decide) (by rw [e_sources_43]; rfl) rfl dX3_copyFrom_43 (fun H locs hP hS => ?_)
  refine lv_aload_n hx hb dX3_copyFrom_46 rfl (lv_at hl 1 rfl) ?_
  refine x_get hx hb hts u_X3_copyFrom_X3 hown hE hP 0 rfl rfl 4 (by decide) (hts (.fieldLink RX3 25 "DecreasingDiagrams$LabelledSystem" "targets" "[I") (List.mem_of_getElem? (i := 9) rfl)) rfl dX3_copyFrom_47 ?_
  refine lv_iconst (v := 0) hx hb dX3_copyFrom_50 (by decide) ?_
  refine lv_aload_n hx hb dX3_copyFrom_51 rfl (lv_at hl 0 rfl) ?_
  refine x_get hx hb hts u_X3_copyFrom_X3 hown hE hP 5 rfl rfl 4 (by decide) (hts (.fieldLink RX3 25 "DecreasingDiagrams$LabelledSystem" "targets" "[I") (List.mem_of_getElem? (i := 9) rfl)) rfl dX3_copyFrom_52 ?_
  refine lv_iconst (v := 0) hx hb dX3_copyFrom_55 (by decide) ?_
  refine lv_bipush (v := 32) hx hb dX3_copyFrom_56 (by decide) ?_
  obtain ⟨targets_58, e_targets_58, hf⟩ := lt_some hf
  refine x_copyi (I' := [[(h_p1, .inr (3, [.int p1_objects, .ref a_p1_words, .int p1_steps, .ref a_p1_sources, .ref a_p1_targets, .ref a_p1_labels]))], [(a_p1_labels, .inl (G 0, 32, .inl p1_labels))], [(a_p1_sources, .inl (G 0, 32, .inl p1_sources))], [(a_p1_targets, .inl (G 0, 32, .inl p1_targets))], [(a_p1_words, .inl (G 0, 16, .inl p1_words))], [(h, .inr (3, [.int objects_5, .ref a_words, .int steps_28, .ref a_sources, .ref a_targets, .ref a_labels]))], [(a_labels, .inl (G 0, 32, .inl labels))], [(a_sources, .inl (G 0, 32, .inl sources_43))], [(a_targets, .inl (G 0, 32, .inl targets_58))], [(a_words, .inl (G 0, 16, .inl words_20))]]) hx hb (hml.trans hl.1.symm) hown (hts (.methodLink RX3 31 arraycopyName) (List.mem_of_getElem? (i := 3) rfl)) (hts (.native arraycopyName) (List.mem_of_getElem? (i := 4) rfl)) (hts (.static arraycopyName) (List.mem_of_getElem? (i := 5) rfl)) (hts (.initialized RJ10) (List.mem_of_getElem? (i := 6) rfl)) hE hP hN hS 3 8 rfl rfl (by decide) (by decide) (by decide) (by decide) (by decide) (by decide) (by decide) (by rw [e_targets_58]; rfl) rfl dX3_copyFrom_58 (fun H locs hP hS => ?_)
  refine lv_aload_n hx hb dX3_copyFrom_61 rfl (lv_at hl 1 rfl) ?_
  refine x_get hx hb hts u_X3_copyFrom_X3 hown hE hP 0 rfl rfl 5 (by decide) (hts (.fieldLink RX3 28 "DecreasingDiagrams$LabelledSystem" "labels" "[I") (List.mem_of_getElem? (i := 10) rfl)) rfl dX3_copyFrom_62 ?_
  refine lv_iconst (v := 0) hx hb dX3_copyFrom_65 (by decide) ?_
  refine lv_aload_n hx hb dX3_copyFrom_66 rfl (lv_at hl 0 rfl) ?_
  refine x_get hx hb hts u_X3_copyFrom_X3 hown hE hP 5 rfl rfl 5 (by decide) (hts (.fieldLink RX3 28 "DecreasingDiagrams$LabelledSystem" "labels" "[I") (List.mem_of_getElem? (i := 10) rfl)) rfl dX3_copyFrom_67 ?_
  refine lv_iconst (v := 0) hx hb dX3_copyFrom_70 (by decide) ?_
  refine lv_bipush (v := 32) hx hb dX3_copyFrom_71 (by decide) ?_
  obtain ⟨labels_73, e_labels_73, hf⟩ := lt_some hf
  refine x_copyi (I' := [[(h_p1, .inr (3, [.int p1_objects, .ref a_p1_words, .int p1_steps, .ref a_p1_sources, .ref a_p1_targets, .ref a_p1_labels]))], [(a_p1_labels, .inl (G 0, 32, .inl p1_labels))], [(a_p1_sources, .inl (G 0, 32, .inl p1_sources))], [(a_p1_targets, .inl (G 0, 32, .inl p1_targets))], [(a_p1_words, .inl (G 0, 16, .inl p1_words))], [(h, .inr (3, [.int objects_5, .ref a_words, .int steps_28, .ref a_sources, .ref a_targets, .ref a_labels]))], [(a_labels, .inl (G 0, 32, .inl labels_73))], [(a_sources, .inl (G 0, 32, .inl sources_43))], [(a_targets, .inl (G 0, 32, .inl targets_58))], [(a_words, .inl (G 0, 16, .inl words_20))]]) hx hb (hml.trans hl.1.symm) hown (hts (.methodLink RX3 31 arraycopyName) (List.mem_of_getElem? (i := 3) rfl)) (hts (.native arraycopyName) (List.mem_of_getElem? (i := 4) rfl)) (hts (.static arraycopyName) (List.mem_of_getElem? (i := 5) rfl)) (hts (.initialized RJ10) (List.mem_of_getElem? (i := 6) rfl)) hE hP hN hS 1 6 rfl rfl (by decide) (by decide) (by decide) (by decide) (by decide) (by decide) (by decide) (by rw [e_labels_73]; rfl) rfl dX3_copyFrom_73 (fun H locs hP hS => ?_)
  have hf := Option.some.inj hf
  subst hf
  subst hQ
  exact x_vret hx hb hr hlocks hP hS dX3_copyFrom_76

set_option maxRecDepth 20000 in
theorem u_X7_firstFailing_X7 : ∀ w ∈ wsX70, w ∈ wsX7_firstFailing := xx_pl _ [25, 26, 27] (by decide +kernel)
def f_X7_firstFailing_L2 (p1_objects : Int32) (p1_steps : Int32) (count : Int32) (p1_labels : (Nat → Int32)) (p1_sources : (Nat → Int32)) (p1_targets : (Nat → Int32)) (p2_below : (Nat → Int32)) (firsts : (Nat → Int32)) (seconds : (Nat → Int32)) (rec_2 : Int32 → Option (Int32)) (v3 : Int32) : Option (Int32) :=
  if count ≤ v3 then (some (-2)) else ((f_X7_decreases p1_objects p1_steps p1_labels p1_sources p1_targets p2_below firsts seconds v3).bind (fun r_14 => if ¬ r_14 = 0 then (lt (v3 + 1) (fun v3_22 => rec_2 v3_22)) else (some v3)))
def f_X7_firstFailing (p1_objects : Int32) (p1_steps : Int32) (count : Int32) (p1_labels : (Nat → Int32)) (p1_sources : (Nat → Int32)) (p1_targets : (Nat → Int32)) (p2_below : (Nat → Int32)) (firsts : (Nat → Int32)) (seconds : (Nat → Int32)) : Option (Int32) :=
  lt 0 (fun v3_1 => lp (τ := Int32 → Option (Int32)) (fun _ => none) (f_X7_firstFailing_L2 p1_objects p1_steps count p1_labels p1_sources p1_targets p2_below firsts seconds) fuel v3_1)
set_option maxHeartbeats 4000000 in
set_option maxRecDepth 100000 in
theorem k_X7_firstFailing (l : Launch) (D : va_G) (G : Nat → ClassId) (h : Nat) (h_p1 : Nat) (h_p2 : Nat) (a_p1_words : Nat) (a_p1_sources : Nat) (a_p1_targets : Nat) (a_p1_labels : Nat) (a_p2_pairs : Nat) (a_p2_below : Nat) (a_firsts : Nat) (a_seconds : Nat) (p1_objects : Int32) (p1_steps : Int32) (count : Int32) (p1_labels : (Nat → Int32)) (p1_sources : (Nat → Int32)) (p1_targets : (Nat → Int32)) (p2_below : (Nat → Int32)) (firsts : (Nat → Int32)) (seconds : (Nat → Int32))   (out : Int32) (hf : f_X7_firstFailing p1_objects p1_steps count p1_labels p1_sources p1_targets p2_below firsts seconds = some out) : xMet l yX7_firstFailing wsX7_firstFailing (rM 4 102) D G [.ref h, .ref h_p1, .ref h_p2] [[(h_p1, .inr (3, [.int p1_objects, .ref a_p1_words, .int p1_steps, .ref a_p1_sources, .ref a_p1_targets, .ref a_p1_labels]))], [(a_p1_labels, .inl (G 0, 32, .inl p1_labels))], [(a_p1_sources, .inl (G 0, 32, .inl p1_sources))], [(a_p1_targets, .inl (G 0, 32, .inl p1_targets))], [(h_p2, .inr (2, [.ref a_p2_pairs, .ref a_p2_below]))], [(a_p2_below, .inl (G 0, 8, .inl p2_below))], [(h, .inr (7, [.int count, .ref a_firsts, .ref a_seconds]))], [(a_firsts, .inl (G 0, 496, .inl firsts))], [(a_seconds, .inl (G 0, 496, .inl seconds))]] (xQi D [[(h_p1, .inr (3, [.int p1_objects, .ref a_p1_words, .int p1_steps, .ref a_p1_sources, .ref a_p1_targets, .ref a_p1_labels]))], [(a_p1_labels, .inl (G 0, 32, .inl p1_labels))], [(a_p1_sources, .inl (G 0, 32, .inl p1_sources))], [(a_p1_targets, .inl (G 0, 32, .inl p1_targets))], [(h_p2, .inr (2, [.ref a_p2_pairs, .ref a_p2_below]))], [(a_p2_below, .inl (G 0, 8, .inl p2_below))], [(h, .inr (7, [.int count, .ref a_firsts, .ref a_seconds]))], [(a_firsts, .inl (G 0, 496, .inl firsts))], [(a_seconds, .inl (G 0, 496, .inl seconds))]] out) := by
  refine x_ent (cc := cX7_firstFailing) (maxL := 4) (by decide) rfl (Nat.le_of_ble_eq_true rfl) ?_
  intro p e s m below meth c aa ls args Q hQ hx hb hr hml hown hts hlocks hE hN hP hl hS
  have hown : s.vm.findClass RX7 = some m.cls := hown
  have hl : lv_has ls 4 [(0, .ref h), (1, .ref h_p1), (2, .ref h_p2)] := hl
  have L2 : ∀ (n_2 : Nat) (v3 : Int32) (H : Heap) (locs : List Loc) (ls : Array Slot), xW D aa [[(h_p1, .inr (3, [.int p1_objects, .ref a_p1_words, .int p1_steps, .ref a_p1_sources, .ref a_p1_targets, .ref a_p1_labels]))], [(a_p1_labels, .inl (G 0, 32, .inl p1_labels))], [(a_p1_sources, .inl (G 0, 32, .inl p1_sources))], [(a_p1_targets, .inl (G 0, 32, .inl p1_targets))], [(h_p2, .inr (2, [.ref a_p2_pairs, .ref a_p2_below]))], [(a_p2_below, .inl (G 0, 8, .inl p2_below))], [(h, .inr (7, [.int count, .ref a_firsts, .ref a_seconds]))], [(a_firsts, .inl (G 0, 496, .inl firsts))], [(a_seconds, .inl (G 0, 496, .inl seconds))]] H → va_S (xA aa) s.heap H locs → lv_has ls 4 [(0, .ref h), (1, .ref h_p1), (2, .ref h_p2), (3, .int v3)] → lp (τ := Int32 → Option (Int32)) (fun _ => none) (f_X7_firstFailing_L2 p1_objects p1_steps count p1_labels p1_sources p1_targets p2_below firsts seconds) n_2 v3 = some out → W p l e (rM 4 102) s m args below meth c H locs 0 0 Q (F0 m 2 ls []) := by
    intro    n_2
    induction n_2 with
    | zero =>
      intro v3 H locs ls hP hS hl hf
      exact no_some hf
    | succ n_2 ih_2 =>
      intro v3 H locs ls hP hS hl hf
      have hf : f_X7_firstFailing_L2 p1_objects p1_steps count p1_labels p1_sources p1_targets p2_below firsts seconds (lp (τ := Int32 → Option (Int32)) (fun _ => none) (f_X7_firstFailing_L2 p1_objects p1_steps count p1_labels p1_sources p1_targets p2_below firsts seconds) n_2) v3 = some out := hf
      rw [f_X7_firstFailing_L2] at hf
      refine lv_iload_n hx hb dX7_firstFailing_2 rfl (lv_at hl 3 rfl) ?_
      refine lv_aload_n hx hb dX7_firstFailing_3 rfl (lv_at hl 0 rfl) ?_
      refine x_get hx hb hts u_X7_firstFailing_X7 hown hE hP 6 rfl rfl 0 (by decide) (hts (.fieldLink RX7 9 "DecreasingDiagrams$Peaks" "count" "I") (List.mem_of_getElem? (i := 1) rfl)) rfl dX7_firstFailing_4 ?_
      refine lv_icmp_ge (tgt := 28) hx hb dX7_firstFailing_7 (by decide) (fun c_7 => ?_) (fun c_7 => ?_)
      · have hf := it_pos c_7 hf
        refine lv_bipush (v := -2) hx hb dX7_firstFailing_28 (by decide) ?_
        have hf := Option.some.inj hf
        subst hf
        subst hQ
        exact x_iret hx hb hr hlocks hP hS dX7_firstFailing_30
      · have hf := it_neg c_7 hf
        refine lv_aload_n hx hb dX7_firstFailing_10 rfl (lv_at hl 0 rfl) ?_
        refine lv_iload_n hx hb dX7_firstFailing_11 rfl (lv_at hl 3 rfl) ?_
        refine lv_aload_n hx hb dX7_firstFailing_12 rfl (lv_at hl 1 rfl) ?_
        refine lv_aload_n hx hb dX7_firstFailing_13 rfl (lv_at hl 2 rfl) ?_
        obtain ⟨r_14, hr_14, hf⟩ := bd_some hf
        refine x_goi (ps := [0, 1, 2, 3, 4, 5, 6, 7, 8]) (I' := [[(h_p1, .inr (3, [.int p1_objects, .ref a_p1_words, .int p1_steps, .ref a_p1_sources, .ref a_p1_targets, .ref a_p1_labels]))], [(a_p1_labels, .inl (G 0, 32, .inl p1_labels))], [(a_p1_sources, .inl (G 0, 32, .inl p1_sources))], [(a_p1_targets, .inl (G 0, 32, .inl p1_targets))], [(h_p2, .inr (2, [.ref a_p2_pairs, .ref a_p2_below]))], [(a_p2_below, .inl (G 0, 8, .inl p2_below))], [(h, .inr (7, [.int count, .ref a_firsts, .ref a_seconds]))], [(a_firsts, .inl (G 0, 496, .inl firsts))], [(a_seconds, .inl (G 0, 496, .inl seconds))]]) (x_runV (As := [.int v3, .ref h_p1, .ref h_p2]) (rest := []) (ps := [0, 1, 2, 3, 4, 5, 6, 7, 8]) ⟨hx, hb, hml, hown, hts⟩ (k_X7_decreases l D G h h_p1 h_p2 a_p1_words a_p1_sources a_p1_targets a_p1_labels a_p2_pairs a_p2_below a_firsts a_seconds p1_objects p1_steps count p1_labels p1_sources p1_targets p2_below firsts seconds v3 r_14 hr_14) (cwV 3 hts gX7_firstFailing_X7_decreases rfl rfl rfl (by decide +kernel) ⟨Nat.le_of_ble_eq_true rfl, Nat.le_of_ble_eq_true rfl⟩) hE hP hN rfl (by decide) 6 rfl rfl rfl hl.1 (Nat.le_of_ble_eq_true rfl) dX7_firstFailing_14 ⟨Nat.zero_le _, Nat.zero_le _⟩) hP hN hS rfl rfl (fun H locs hP hS => ?_)
        refine lv_if_ne (tgt := 22) hx hb dX7_firstFailing_17 (by decide) (fun c_17 => ?_) (fun c_17 => ?_)
        · have hf := it_pos c_17 hf
          obtain ⟨v3_22, e_v3_22, hf⟩ := lt_some hf
          refine lv_iinc (v := v3_22) (lv' := [(3, .int v3_22), (0, .ref h), (1, .ref h_p1), (2, .ref h_p2)]) hx hb dX7_firstFailing_22 hl (k := 3) rfl (by rw [e_v3_22]; rfl) (by decide) rfl (fun ls hl => ?_)
          refine lv_goto (tgt := 2) hx hb dX7_firstFailing_25 (by decide) ?_
          exact ih_2 v3_22 H locs ls hP hS (lv_sub hl [1, 2, 3, 0] rfl) hf
        · have hf := it_neg (fun h => h c_17) hf
          refine lv_iload_n hx hb dX7_firstFailing_20 rfl (lv_at hl 3 rfl) ?_
          have hf := Option.some.inj hf
          subst hf
          subst hQ
          exact x_iret hx hb hr hlocks hP hS dX7_firstFailing_21
  rw [f_X7_firstFailing] at hf
  obtain ⟨H, hH⟩ : ∃ H : Heap, H = s.heap := ⟨_, rfl⟩
  obtain ⟨locs, hlocs⟩ : ∃ locs : List Loc, locs = [] := ⟨_, rfl⟩
  have hP : xW D aa [[(h_p1, .inr (3, [.int p1_objects, .ref a_p1_words, .int p1_steps, .ref a_p1_sources, .ref a_p1_targets, .ref a_p1_labels]))], [(a_p1_labels, .inl (G 0, 32, .inl p1_labels))], [(a_p1_sources, .inl (G 0, 32, .inl p1_sources))], [(a_p1_targets, .inl (G 0, 32, .inl p1_targets))], [(h_p2, .inr (2, [.ref a_p2_pairs, .ref a_p2_below]))], [(a_p2_below, .inl (G 0, 8, .inl p2_below))], [(h, .inr (7, [.int count, .ref a_firsts, .ref a_seconds]))], [(a_firsts, .inl (G 0, 496, .inl firsts))], [(a_seconds, .inl (G 0, 496, .inl seconds))]] H := by rw [hH]; exact hP
  have hS : va_S (xA aa) s.heap H locs := by rw [hH, hlocs]; exact hS
  suffices GO : W p l e (rM 4 102) s m args below meth c H locs 0 0 Q (F0 m 0 ls []) by
    rw [hH, hlocs] at GO
    exact GO
  clear hH hlocs
  refine lv_iconst (v := 0) hx hb dX7_firstFailing_0 (by decide) ?_
  obtain ⟨v3_1, e_v3_1, hf⟩ := lt_some hf
  refine x_istore_n (v := v3_1) (lv' := [(3, .int v3_1), (0, .ref h), (1, .ref h_p1), (2, .ref h_p2)]) hx hb dX7_firstFailing_1 e_v3_1 rfl hl (by decide) rfl (fun ls hl => ?_)
  exact L2    fuel v3_1 H locs ls hP hS (lv_sub hl [1, 2, 3, 0] rfl) hf

set_option maxRecDepth 20000 in
theorem u_X3_longestFrom_X3 : ∀ w ∈ wsX30, w ∈ wsX3_longestFrom := xx_pl _ [11, 12, 13, 14, 15, 16] (by decide +kernel)
def f_X3_longestFrom_L4 (objects : Int32) (steps : Int32) (labels : (Nat → Int32)) (sources : (Nat → Int32)) (targets : (Nat → Int32)) (rec_4 : Int32 → Int32 → Option (Int32)) (v2 : Int32) (v3 : Int32) : Option (Int32) :=
  if objects < v3 then (some (-2)) else ((f_X3_successors steps labels sources targets v2 255).bind (fun r_17 => lt r_17 (fun v2_20 => if ¬ v2_20 = 0 then (lt (v3 + 1) (fun v3_27 => rec_4 v2_20 v3_27)) else (some v3))))
def f_X3_longestFrom (objects : Int32) (steps : Int32) (labels : (Nat → Int32)) (sources : (Nat → Int32)) (targets : (Nat → Int32)) (v1 : Int32) : Option (Int32) :=
  lt v1 (fun v2_1 => lt 0 (fun v3_3 => lp (τ := Int32 → Int32 → Option (Int32)) (fun _ _ => none) (f_X3_longestFrom_L4 objects steps labels sources targets) fuel v2_1 v3_3))
set_option maxHeartbeats 4000000 in
set_option maxRecDepth 100000 in
theorem k_X3_longestFrom (l : Launch) (D : va_G) (G : Nat → ClassId) (h : Nat) (a_words : Nat) (a_sources : Nat) (a_targets : Nat) (a_labels : Nat) (objects : Int32) (steps : Int32) (labels : (Nat → Int32)) (sources : (Nat → Int32)) (targets : (Nat → Int32))  (v1 : Int32) (out : Int32) (hf : f_X3_longestFrom objects steps labels sources targets v1 = some out) : xMet l yX3_longestFrom wsX3_longestFrom (rM 1 24) D G [.ref h, .int v1] [[(h, .inr (3, [.int objects, .ref a_words, .int steps, .ref a_sources, .ref a_targets, .ref a_labels]))], [(a_labels, .inl (G 0, 32, .inl labels))], [(a_sources, .inl (G 0, 32, .inl sources))], [(a_targets, .inl (G 0, 32, .inl targets))]] (xQi D [[(h, .inr (3, [.int objects, .ref a_words, .int steps, .ref a_sources, .ref a_targets, .ref a_labels]))], [(a_labels, .inl (G 0, 32, .inl labels))], [(a_sources, .inl (G 0, 32, .inl sources))], [(a_targets, .inl (G 0, 32, .inl targets))]] out) := by
  refine x_ent (cc := cX3_longestFrom) (maxL := 4) (by decide) rfl (Nat.le_of_ble_eq_true rfl) ?_
  intro p e s m below meth c aa ls args Q hQ hx hb hr hml hown hts hlocks hE hN hP hl hS
  have hown : s.vm.findClass RX3 = some m.cls := hown
  have hl : lv_has ls 4 [(0, .ref h), (1, .int v1)] := hl
  have L4 : ∀ (n_4 : Nat) (v2 : Int32) (v3 : Int32) (H : Heap) (locs : List Loc) (ls : Array Slot), xW D aa [[(h, .inr (3, [.int objects, .ref a_words, .int steps, .ref a_sources, .ref a_targets, .ref a_labels]))], [(a_labels, .inl (G 0, 32, .inl labels))], [(a_sources, .inl (G 0, 32, .inl sources))], [(a_targets, .inl (G 0, 32, .inl targets))]] H → va_S (xA aa) s.heap H locs → lv_has ls 4 [(0, .ref h), (2, .int v2), (3, .int v3)] → lp (τ := Int32 → Int32 → Option (Int32)) (fun _ _ => none) (f_X3_longestFrom_L4 objects steps labels sources targets) n_4 v2 v3 = some out → W p l e (rM 1 24) s m args below meth c H locs 0 0 Q (F0 m 4 ls []) := by
    intro    n_4
    induction n_4 with
    | zero =>
      intro v2 v3 H locs ls hP hS hl hf
      exact no_some hf
    | succ n_4 ih_4 =>
      intro v2 v3 H locs ls hP hS hl hf
      have hf : f_X3_longestFrom_L4 objects steps labels sources targets (lp (τ := Int32 → Int32 → Option (Int32)) (fun _ _ => none) (f_X3_longestFrom_L4 objects steps labels sources targets) n_4) v2 v3 = some out := hf
      rw [f_X3_longestFrom_L4] at hf
      refine lv_iload_n hx hb dX3_longestFrom_4 rfl (lv_at hl 2 rfl) ?_
      refine lv_aload_n hx hb dX3_longestFrom_5 rfl (lv_at hl 0 rfl) ?_
      refine x_get hx hb hts u_X3_longestFrom_X3 hown hE hP 0 rfl rfl 0 (by decide) (hts (.fieldLink RX3 9 "DecreasingDiagrams$LabelledSystem" "objects" "I") (List.mem_of_getElem? (i := 1) rfl)) rfl dX3_longestFrom_6 ?_
      refine lv_icmp_gt (tgt := 33) hx hb dX3_longestFrom_9 (by decide) (fun c_9 => ?_) (fun c_9 => ?_)
      · have hf := it_pos c_9 hf
        refine lv_bipush (v := -2) hx hb dX3_longestFrom_33 (by decide) ?_
        have hf := Option.some.inj hf
        subst hf
        subst hQ
        exact x_iret hx hb hr hlocks hP hS dX3_longestFrom_35
      · have hf := it_neg c_9 hf
        refine lv_aload_n hx hb dX3_longestFrom_12 rfl (lv_at hl 0 rfl) ?_
        refine lv_iload_n hx hb dX3_longestFrom_13 rfl (lv_at hl 1 rfl) ?_
        refine lv_sipush (v := 255) hx hb dX3_longestFrom_14 (by decide) ?_
        obtain ⟨r_17, hr_17, hf⟩ := bd_some hf
        refine x_goi (ps := [0, 1, 2, 3]) (I' := [[(h, .inr (3, [.int objects, .ref a_words, .int steps, .ref a_sources, .ref a_targets, .ref a_labels]))], [(a_labels, .inl (G 0, 32, .inl labels))], [(a_sources, .inl (G 0, 32, .inl sources))], [(a_targets, .inl (G 0, 32, .inl targets))]]) (x_runV (As := [.int v2, .int 255]) (rest := []) (ps := [0, 1, 2, 3]) ⟨hx, hb, hml, hown, hts⟩ (k_X3_successors l D G h a_words a_sources a_targets a_labels objects steps labels sources targets v2 255 r_17 hr_17) (cwV 2 hts gX3_longestFrom_X3_successors rfl rfl rfl (by decide +kernel) ⟨Nat.le_of_ble_eq_true rfl, Nat.le_of_ble_eq_true rfl⟩) hE hP hN rfl (by decide) 0 rfl rfl rfl hl.1 (Nat.le_of_ble_eq_true rfl) dX3_longestFrom_17 ⟨Nat.zero_le _, Nat.zero_le _⟩) hP hN hS rfl rfl (fun H locs hP hS => ?_)
        obtain ⟨v2_20, e_v2_20, hf⟩ := lt_some hf
        refine x_istore_n (v := v2_20) (lv' := [(2, .int v2_20), (0, .ref h), (3, .int v3)]) hx hb dX3_longestFrom_20 e_v2_20 rfl hl (by decide) rfl (fun ls hl => ?_)
        refine lv_iload_n hx hb dX3_longestFrom_21 rfl (lv_at hl 0 rfl) ?_
        refine lv_if_ne (tgt := 27) hx hb dX3_longestFrom_22 (by decide) (fun c_22 => ?_) (fun c_22 => ?_)
        · have hf := it_pos c_22 hf
          obtain ⟨v3_27, e_v3_27, hf⟩ := lt_some hf
          refine lv_iinc (v := v3_27) (lv' := [(3, .int v3_27), (2, .int v2_20), (0, .ref h)]) hx hb dX3_longestFrom_27 hl (k := 2) rfl (by rw [e_v3_27]; rfl) (by decide) rfl (fun ls hl => ?_)
          refine lv_goto (tgt := 4) hx hb dX3_longestFrom_30 (by decide) ?_
          exact ih_4 v2_20 v3_27 H locs ls hP hS (lv_sub hl [2, 1, 0] rfl) hf
        · have hf := it_neg (fun h => h c_22) hf
          refine lv_iload_n hx hb dX3_longestFrom_25 rfl (lv_at hl 2 rfl) ?_
          have hf := Option.some.inj hf
          subst hf
          subst hQ
          exact x_iret hx hb hr hlocks hP hS dX3_longestFrom_26
  rw [f_X3_longestFrom] at hf
  obtain ⟨H, hH⟩ : ∃ H : Heap, H = s.heap := ⟨_, rfl⟩
  obtain ⟨locs, hlocs⟩ : ∃ locs : List Loc, locs = [] := ⟨_, rfl⟩
  have hP : xW D aa [[(h, .inr (3, [.int objects, .ref a_words, .int steps, .ref a_sources, .ref a_targets, .ref a_labels]))], [(a_labels, .inl (G 0, 32, .inl labels))], [(a_sources, .inl (G 0, 32, .inl sources))], [(a_targets, .inl (G 0, 32, .inl targets))]] H := by rw [hH]; exact hP
  have hS : va_S (xA aa) s.heap H locs := by rw [hH, hlocs]; exact hS
  suffices GO : W p l e (rM 1 24) s m args below meth c H locs 0 0 Q (F0 m 0 ls []) by
    rw [hH, hlocs] at GO
    exact GO
  clear hH hlocs
  refine lv_iload_n hx hb dX3_longestFrom_0 rfl (lv_at hl 1 rfl) ?_
  obtain ⟨v2_1, e_v2_1, hf⟩ := lt_some hf
  refine x_istore_n (v := v2_1) (lv' := [(2, .int v2_1), (0, .ref h), (1, .int v1)]) hx hb dX3_longestFrom_1 e_v2_1 rfl hl (by decide) rfl (fun ls hl => ?_)
  refine lv_iconst (v := 0) hx hb dX3_longestFrom_2 (by decide) ?_
  obtain ⟨v3_3, e_v3_3, hf⟩ := lt_some hf
  refine x_istore_n (v := v3_3) (lv' := [(3, .int v3_3), (2, .int v2_1), (0, .ref h), (1, .int v1)]) hx hb dX3_longestFrom_3 e_v3_3 rfl hl (by decide) rfl (fun ls hl => ?_)
  exact L4    fuel v2_1 v3_3 H locs ls hP hS (lv_sub hl [2, 1, 0] rfl) hf

set_option maxRecDepth 20000 in
theorem u_X3_hasStep_X3 : ∀ w ∈ wsX30, w ∈ wsX3_hasStep := xx_pl _ [2, 3, 4, 5, 6, 7] (by decide +kernel)
def f_X3_hasStep (steps : Int32) (v1 : Int32) : Option (Int32) :=
  if v1 < 0 then (some 0) else (if steps ≤ v1 then (some 0) else (some 1))
set_option maxHeartbeats 4000000 in
set_option maxRecDepth 100000 in
theorem k_X3_hasStep (l : Launch) (D : va_G) (G : Nat → ClassId) (h : Nat) (a_words : Nat) (a_sources : Nat) (a_targets : Nat) (a_labels : Nat) (objects : Int32) (steps : Int32)  (v1 : Int32) (out : Int32) (hf : f_X3_hasStep steps v1 = some out) : xMet l yX3_hasStep wsX3_hasStep (rM 0 0) D G [.ref h, .int v1] [[(h, .inr (3, [.int objects, .ref a_words, .int steps, .ref a_sources, .ref a_targets, .ref a_labels]))]] (xQi D [[(h, .inr (3, [.int objects, .ref a_words, .int steps, .ref a_sources, .ref a_targets, .ref a_labels]))]] out) := by
  refine x_ent (cc := cX3_hasStep) (maxL := 2) (by decide) rfl (Nat.le_of_ble_eq_true rfl) ?_
  intro p e s m below meth c aa ls args Q hQ hx hb hr hml hown hts hlocks hE hN hP hl hS
  have hown : s.vm.findClass RX3 = some m.cls := hown
  have hl : lv_has ls 2 [(0, .ref h), (1, .int v1)] := hl
  rw [f_X3_hasStep] at hf
  obtain ⟨H, hH⟩ : ∃ H : Heap, H = s.heap := ⟨_, rfl⟩
  obtain ⟨locs, hlocs⟩ : ∃ locs : List Loc, locs = [] := ⟨_, rfl⟩
  have hP : xW D aa [[(h, .inr (3, [.int objects, .ref a_words, .int steps, .ref a_sources, .ref a_targets, .ref a_labels]))]] H := by rw [hH]; exact hP
  have hS : va_S (xA aa) s.heap H locs := by rw [hH, hlocs]; exact hS
  suffices GO : W p l e (rM 0 0) s m args below meth c H locs 0 0 Q (F0 m 0 ls []) by
    rw [hH, hlocs] at GO
    exact GO
  clear hH hlocs
  refine lv_iload_n hx hb dX3_hasStep_0 rfl (lv_at hl 1 rfl) ?_
  refine lv_if_lt (tgt := 16) hx hb dX3_hasStep_1 (by decide) (fun c_1 => ?_) (fun c_1 => ?_)
  · have hf := it_pos c_1 hf
    refine lv_iconst (v := 0) hx hb dX3_hasStep_16 (by decide) ?_
    have hf := Option.some.inj hf
    subst hf
    subst hQ
    exact x_zret hx hb hr hlocks rfl hP hS dX3_hasStep_17
  · have hf := it_neg c_1 hf
    refine lv_iload_n hx hb dX3_hasStep_4 rfl (lv_at hl 1 rfl) ?_
    refine lv_aload_n hx hb dX3_hasStep_5 rfl (lv_at hl 0 rfl) ?_
    refine x_get hx hb hts u_X3_hasStep_X3 hown hE hP 0 rfl rfl 2 (by decide) (hts (.fieldLink RX3 19 "DecreasingDiagrams$LabelledSystem" "steps" "I") (List.mem_of_getElem? (i := 1) rfl)) rfl dX3_hasStep_6 ?_
    refine lv_icmp_ge (tgt := 16) hx hb dX3_hasStep_9 (by decide) (fun c_9 => ?_) (fun c_9 => ?_)
    · have hf := it_pos c_9 hf
      refine lv_iconst (v := 0) hx hb dX3_hasStep_16 (by decide) ?_
      have hf := Option.some.inj hf
      subst hf
      subst hQ
      exact x_zret hx hb hr hlocks rfl hP hS dX3_hasStep_17
    · have hf := it_neg c_9 hf
      refine lv_iconst (v := 1) hx hb dX3_hasStep_12 (by decide) ?_
      refine lv_goto (tgt := 17) hx hb dX3_hasStep_13 (by decide) ?_
      have hf := Option.some.inj hf
      subst hf
      subst hQ
      exact x_zret hx hb hr hlocks rfl hP hS dX3_hasStep_17

set_option maxRecDepth 20000 in
theorem u_X3_normalForms_X3 : ∀ w ∈ wsX30, w ∈ wsX3_normalForms := xx_pl _ [4, 5, 6, 7, 8, 9] (by decide +kernel)
def f_X3_normalForms_L11 (steps : Int32) (sources : (Nat → Int32)) (rec_11 : Int32 → Int32 → Option (Int32)) (v1 : Int32) (v2 : Int32) : Option (Int32) :=
  if steps ≤ v2 then (some v1) else (ck v2 32 (lt (v1 &&& ((1 <<< ((sources v2.toNatClampNeg) &&& 31)) ^^^ (-1))) (fun v1_31 => lt (v2 + 1) (fun v2_32 => rec_11 v1_31 v2_32))))
def f_X3_normalForms (objects : Int32) (steps : Int32) (sources : (Nat → Int32)) : Option (Int32) :=
  lt ((1 <<< (objects &&& 31)) - 1) (fun v1_8 => lt 0 (fun v2_10 => lp (τ := Int32 → Int32 → Option (Int32)) (fun _ _ => none) (f_X3_normalForms_L11 steps sources) fuel v1_8 v2_10))
set_option maxHeartbeats 4000000 in
set_option maxRecDepth 100000 in
theorem k_X3_normalForms (l : Launch) (D : va_G) (G : Nat → ClassId) (h : Nat) (a_words : Nat) (a_sources : Nat) (a_targets : Nat) (a_labels : Nat) (objects : Int32) (steps : Int32) (sources : (Nat → Int32))   (out : Int32) (hf : f_X3_normalForms objects steps sources = some out) : xMet l yX3_normalForms wsX3_normalForms (rM 0 0) D G [.ref h] [[(h, .inr (3, [.int objects, .ref a_words, .int steps, .ref a_sources, .ref a_targets, .ref a_labels]))], [(a_sources, .inl (G 0, 32, .inl sources))]] (xQi D [[(h, .inr (3, [.int objects, .ref a_words, .int steps, .ref a_sources, .ref a_targets, .ref a_labels]))], [(a_sources, .inl (G 0, 32, .inl sources))]] out) := by
  refine x_ent (cc := cX3_normalForms) (maxL := 3) (by decide) rfl (Nat.le_of_ble_eq_true rfl) ?_
  intro p e s m below meth c aa ls args Q hQ hx hb hr hml hown hts hlocks hE hN hP hl hS
  have hown : s.vm.findClass RX3 = some m.cls := hown
  have hl : lv_has ls 3 [(0, .ref h)] := hl
  have L11 : ∀ (n_11 : Nat) (v1 : Int32) (v2 : Int32) (H : Heap) (locs : List Loc) (ls : Array Slot), xW D aa [[(h, .inr (3, [.int objects, .ref a_words, .int steps, .ref a_sources, .ref a_targets, .ref a_labels]))], [(a_sources, .inl (G 0, 32, .inl sources))]] H → va_S (xA aa) s.heap H locs → lv_has ls 3 [(0, .ref h), (1, .int v1), (2, .int v2)] → lp (τ := Int32 → Int32 → Option (Int32)) (fun _ _ => none) (f_X3_normalForms_L11 steps sources) n_11 v1 v2 = some out → W p l e (rM 0 0) s m args below meth c H locs 0 0 Q (F0 m 11 ls []) := by
    intro    n_11
    induction n_11 with
    | zero =>
      intro v1 v2 H locs ls hP hS hl hf
      exact no_some hf
    | succ n_11 ih_11 =>
      intro v1 v2 H locs ls hP hS hl hf
      have hf : f_X3_normalForms_L11 steps sources (lp (τ := Int32 → Int32 → Option (Int32)) (fun _ _ => none) (f_X3_normalForms_L11 steps sources) n_11) v1 v2 = some out := hf
      rw [f_X3_normalForms_L11] at hf
      refine lv_iload_n hx hb dX3_normalForms_11 rfl (lv_at hl 2 rfl) ?_
      refine lv_aload_n hx hb dX3_normalForms_12 rfl (lv_at hl 0 rfl) ?_
      refine x_get hx hb hts u_X3_normalForms_X3 hown hE hP 0 rfl rfl 2 (by decide) (hts (.fieldLink RX3 19 "DecreasingDiagrams$LabelledSystem" "steps" "I") (List.mem_of_getElem? (i := 2) rfl)) rfl dX3_normalForms_13 ?_
      refine lv_icmp_ge (tgt := 38) hx hb dX3_normalForms_16 (by decide) (fun c_16 => ?_) (fun c_16 => ?_)
      · have hf := it_pos c_16 hf
        refine lv_iload_n hx hb dX3_normalForms_38 rfl (lv_at hl 1 rfl) ?_
        have hf := Option.some.inj hf
        subst hf
        subst hQ
        exact x_iret hx hb hr hlocks hP hS dX3_normalForms_39
      · have hf := it_neg c_16 hf
        refine lv_iload_n hx hb dX3_normalForms_19 rfl (lv_at hl 1 rfl) ?_
        refine lv_iconst (v := 1) hx hb dX3_normalForms_20 (by decide) ?_
        refine lv_aload_n hx hb dX3_normalForms_21 rfl (lv_at hl 0 rfl) ?_
        refine x_get hx hb hts u_X3_normalForms_X3 hown hE hP 0 rfl rfl 3 (by decide) (hts (.fieldLink RX3 22 "DecreasingDiagrams$LabelledSystem" "sources" "[I") (List.mem_of_getElem? (i := 3) rfl)) rfl dX3_normalForms_22 ?_
        refine lv_iload_n hx hb dX3_normalForms_25 rfl (lv_at hl 2 rfl) ?_
        obtain ⟨hi, hf⟩ := ck_some hf
        refine x_iald hx hb hE hP 1 rfl hi dX3_normalForms_26 ?_
        refine lv_ishl hx hb dX3_normalForms_27 ?_
        refine lv_iconst (v := -1) hx hb dX3_normalForms_28 (by decide) ?_
        refine lv_ixor hx hb dX3_normalForms_29 ?_
        refine lv_iand hx hb dX3_normalForms_30 ?_
        obtain ⟨v1_31, e_v1_31, hf⟩ := lt_some hf
        refine x_istore_n (v := v1_31) (lv' := [(1, .int v1_31), (0, .ref h), (2, .int v2)]) hx hb dX3_normalForms_31 e_v1_31 rfl hl (by decide) rfl (fun ls hl => ?_)
        obtain ⟨v2_32, e_v2_32, hf⟩ := lt_some hf
        refine lv_iinc (v := v2_32) (lv' := [(2, .int v2_32), (1, .int v1_31), (0, .ref h)]) hx hb dX3_normalForms_32 hl (k := 2) rfl (by rw [e_v2_32]; rfl) (by decide) rfl (fun ls hl => ?_)
        refine lv_goto (tgt := 11) hx hb dX3_normalForms_35 (by decide) ?_
        exact ih_11 v1_31 v2_32 H locs ls hP hS (lv_sub hl [2, 1, 0] rfl) hf
  rw [f_X3_normalForms] at hf
  obtain ⟨H, hH⟩ : ∃ H : Heap, H = s.heap := ⟨_, rfl⟩
  obtain ⟨locs, hlocs⟩ : ∃ locs : List Loc, locs = [] := ⟨_, rfl⟩
  have hP : xW D aa [[(h, .inr (3, [.int objects, .ref a_words, .int steps, .ref a_sources, .ref a_targets, .ref a_labels]))], [(a_sources, .inl (G 0, 32, .inl sources))]] H := by rw [hH]; exact hP
  have hS : va_S (xA aa) s.heap H locs := by rw [hH, hlocs]; exact hS
  suffices GO : W p l e (rM 0 0) s m args below meth c H locs 0 0 Q (F0 m 0 ls []) by
    rw [hH, hlocs] at GO
    exact GO
  clear hH hlocs
  refine lv_iconst (v := 1) hx hb dX3_normalForms_0 (by decide) ?_
  refine lv_aload_n hx hb dX3_normalForms_1 rfl (lv_at hl 0 rfl) ?_
  refine x_get hx hb hts u_X3_normalForms_X3 hown hE hP 0 rfl rfl 0 (by decide) (hts (.fieldLink RX3 9 "DecreasingDiagrams$LabelledSystem" "objects" "I") (List.mem_of_getElem? (i := 1) rfl)) rfl dX3_normalForms_2 ?_
  refine lv_ishl hx hb dX3_normalForms_5 ?_
  refine lv_iconst (v := 1) hx hb dX3_normalForms_6 (by decide) ?_
  refine lv_isub hx hb dX3_normalForms_7 ?_
  obtain ⟨v1_8, e_v1_8, hf⟩ := lt_some hf
  refine x_istore_n (v := v1_8) (lv' := [(1, .int v1_8), (0, .ref h)]) hx hb dX3_normalForms_8 e_v1_8 rfl hl (by decide) rfl (fun ls hl => ?_)
  refine lv_iconst (v := 0) hx hb dX3_normalForms_9 (by decide) ?_
  obtain ⟨v2_10, e_v2_10, hf⟩ := lt_some hf
  refine x_istore_n (v := v2_10) (lv' := [(2, .int v2_10), (1, .int v1_8), (0, .ref h)]) hx hb dX3_normalForms_10 e_v2_10 rfl hl (by decide) rfl (fun ls hl => ?_)
  exact L11    fuel v1_8 v2_10 H locs ls hP hS (lv_sub hl [2, 1, 0] rfl) hf

set_option maxRecDepth 20000 in
theorem u_X3_dropStep_X3 : ∀ w ∈ wsX30, w ∈ wsX3_dropStep := xx_pl _ [5, 6, 7, 8, 9, 10] (by decide +kernel)
def f_X3_dropStep_L12 (steps : Int32) (rec_12 : Int32 → (Nat → Int32) → (Nat → Int32) → (Nat → Int32) → Option ((Nat → Int32) × (Nat → Int32) × Int32 × (Nat → Int32))) (v2 : Int32) (labels : (Nat → Int32)) (sources : (Nat → Int32)) (targets : (Nat → Int32)) : Option ((Nat → Int32) × (Nat → Int32) × Int32 × (Nat → Int32)) :=
  if steps ≤ v2 then (some (labels, sources, steps, targets)) else (ck (v2 + 1) 32 (ck v2 32 (lt (upd sources v2.toNatClampNeg (sources (v2 + 1).toNatClampNeg)) (fun sources_33 => ck (v2 + 1) 32 (ck v2 32 (lt (upd targets v2.toNatClampNeg (targets (v2 + 1).toNatClampNeg)) (fun targets_47 => ck (v2 + 1) 32 (ck v2 32 (lt (upd labels v2.toNatClampNeg (labels (v2 + 1).toNatClampNeg)) (fun labels_61 => lt (v2 + 1) (fun v2_62 => rec_12 v2_62 labels_61 sources_33 targets_47)))))))))))
def f_X3_dropStep (steps : Int32) (labels : (Nat → Int32)) (sources : (Nat → Int32)) (targets : (Nat → Int32)) (v1 : Int32) : Option ((Nat → Int32) × (Nat → Int32) × Int32 × (Nat → Int32)) :=
  lt (steps - 1) (fun steps_7 => lt v1 (fun v2_11 => lp (τ := Int32 → (Nat → Int32) → (Nat → Int32) → (Nat → Int32) → Option ((Nat → Int32) × (Nat → Int32) × Int32 × (Nat → Int32))) (fun _ _ _ _ => none) (f_X3_dropStep_L12 steps_7) fuel v2_11 labels sources targets))
set_option maxHeartbeats 4000000 in
set_option maxRecDepth 100000 in
theorem k_X3_dropStep (l : Launch) (D : va_G) (G : Nat → ClassId) (h : Nat) (a_words : Nat) (a_sources : Nat) (a_targets : Nat) (a_labels : Nat) (objects : Int32) (steps : Int32) (labels : (Nat → Int32)) (sources : (Nat → Int32)) (targets : (Nat → Int32))  (v1 : Int32) (out : (Nat → Int32) × (Nat → Int32) × Int32 × (Nat → Int32)) (hf : f_X3_dropStep steps labels sources targets v1 = some out) : xMet l yX3_dropStep wsX3_dropStep (rM 0 0) D G [.ref h, .int v1] [[(h, .inr (3, [.int objects, .ref a_words, .int steps, .ref a_sources, .ref a_targets, .ref a_labels]))], [(a_labels, .inl (G 0, 32, .inl labels))], [(a_sources, .inl (G 0, 32, .inl sources))], [(a_targets, .inl (G 0, 32, .inl targets))]] (xQv D [[(h, .inr (3, [.int objects, .ref a_words, .int out.2.2.1, .ref a_sources, .ref a_targets, .ref a_labels]))], [(a_labels, .inl (G 0, 32, .inl out.1))], [(a_sources, .inl (G 0, 32, .inl out.2.1))], [(a_targets, .inl (G 0, 32, .inl out.2.2.2))]]) := by
  refine x_ent (cc := cX3_dropStep) (maxL := 3) (by decide) rfl (Nat.le_of_ble_eq_true rfl) ?_
  intro p e s m below meth c aa ls args Q hQ hx hb hr hml hown hts hlocks hE hN hP hl hS
  have hown : s.vm.findClass RX3 = some m.cls := hown
  have hl : lv_has ls 3 [(0, .ref h), (1, .int v1)] := hl
  have L12 : ∀ (steps : Int32), ∀ (n_12 : Nat) (v2 : Int32) (labels : (Nat → Int32)) (sources : (Nat → Int32)) (targets : (Nat → Int32)) (H : Heap) (locs : List Loc) (ls : Array Slot), xW D aa [[(h, .inr (3, [.int objects, .ref a_words, .int steps, .ref a_sources, .ref a_targets, .ref a_labels]))], [(a_labels, .inl (G 0, 32, .inl labels))], [(a_sources, .inl (G 0, 32, .inl sources))], [(a_targets, .inl (G 0, 32, .inl targets))]] H → va_S (xA aa) s.heap H locs → lv_has ls 3 [(0, .ref h), (2, .int v2)] → lp (τ := Int32 → (Nat → Int32) → (Nat → Int32) → (Nat → Int32) → Option ((Nat → Int32) × (Nat → Int32) × Int32 × (Nat → Int32))) (fun _ _ _ _ => none) (f_X3_dropStep_L12 steps) n_12 v2 labels sources targets = some out → W p l e (rM 0 0) s m args below meth c H locs 0 0 Q (F0 m 12 ls []) := by
    intro steps   n_12
    induction n_12 with
    | zero =>
      intro v2 labels sources targets H locs ls hP hS hl hf
      exact no_some hf
    | succ n_12 ih_12 =>
      intro v2 labels sources targets H locs ls hP hS hl hf
      have hf : f_X3_dropStep_L12 steps (lp (τ := Int32 → (Nat → Int32) → (Nat → Int32) → (Nat → Int32) → Option ((Nat → Int32) × (Nat → Int32) × Int32 × (Nat → Int32))) (fun _ _ _ _ => none) (f_X3_dropStep_L12 steps) n_12) v2 labels sources targets = some out := hf
      rw [f_X3_dropStep_L12] at hf
      refine lv_iload_n hx hb dX3_dropStep_12 rfl (lv_at hl 1 rfl) ?_
      refine lv_aload_n hx hb dX3_dropStep_13 rfl (lv_at hl 0 rfl) ?_
      refine x_get hx hb hts u_X3_dropStep_X3 hown hE hP 0 rfl rfl 2 (by decide) (hts (.fieldLink RX3 19 "DecreasingDiagrams$LabelledSystem" "steps" "I") (List.mem_of_getElem? (i := 1) rfl)) rfl dX3_dropStep_14 ?_
      refine lv_icmp_ge (tgt := 68) hx hb dX3_dropStep_17 (by decide) (fun c_17 => ?_) (fun c_17 => ?_)
      · have hf := it_pos c_17 hf
        have hf := Option.some.inj hf
        subst hf
        subst hQ
        exact x_vret hx hb hr hlocks hP hS dX3_dropStep_68
      · have hf := it_neg c_17 hf
        refine lv_aload_n hx hb dX3_dropStep_20 rfl (lv_at hl 0 rfl) ?_
        refine x_get hx hb hts u_X3_dropStep_X3 hown hE hP 0 rfl rfl 3 (by decide) (hts (.fieldLink RX3 22 "DecreasingDiagrams$LabelledSystem" "sources" "[I") (List.mem_of_getElem? (i := 2) rfl)) rfl dX3_dropStep_21 ?_
        refine lv_iload_n hx hb dX3_dropStep_24 rfl (lv_at hl 1 rfl) ?_
        refine lv_aload_n hx hb dX3_dropStep_25 rfl (lv_at hl 0 rfl) ?_
        refine x_get hx hb hts u_X3_dropStep_X3 hown hE hP 0 rfl rfl 3 (by decide) (hts (.fieldLink RX3 22 "DecreasingDiagrams$LabelledSystem" "sources" "[I") (List.mem_of_getElem? (i := 2) rfl)) rfl dX3_dropStep_26 ?_
        refine lv_iload_n hx hb dX3_dropStep_29 rfl (lv_at hl 1 rfl) ?_
        refine lv_iconst (v := 1) hx hb dX3_dropStep_30 (by decide) ?_
        refine lv_iadd hx hb dX3_dropStep_31 ?_
        obtain ⟨hi, hf⟩ := ck_some hf
        refine x_iald hx hb hE hP 2 rfl hi dX3_dropStep_32 ?_
        obtain ⟨hi, hf⟩ := ck_some hf
        obtain ⟨sources_33, e_sources_33, hf⟩ := lt_some hf
        refine x_iast (I' := [[(h, .inr (3, [.int objects, .ref a_words, .int steps, .ref a_sources, .ref a_targets, .ref a_labels]))], [(a_labels, .inl (G 0, 32, .inl labels))], [(a_sources, .inl (G 0, 32, .inl sources_33))], [(a_targets, .inl (G 0, 32, .inl targets))]]) hx hb hE hP hN hS 2 rfl hi e_sources_33 rfl dX3_dropStep_33 (fun H locs hP hS => ?_)
        refine lv_aload_n hx hb dX3_dropStep_34 rfl (lv_at hl 0 rfl) ?_
        refine x_get hx hb hts u_X3_dropStep_X3 hown hE hP 0 rfl rfl 4 (by decide) (hts (.fieldLink RX3 25 "DecreasingDiagrams$LabelledSystem" "targets" "[I") (List.mem_of_getElem? (i := 3) rfl)) rfl dX3_dropStep_35 ?_
        refine lv_iload_n hx hb dX3_dropStep_38 rfl (lv_at hl 1 rfl) ?_
        refine lv_aload_n hx hb dX3_dropStep_39 rfl (lv_at hl 0 rfl) ?_
        refine x_get hx hb hts u_X3_dropStep_X3 hown hE hP 0 rfl rfl 4 (by decide) (hts (.fieldLink RX3 25 "DecreasingDiagrams$LabelledSystem" "targets" "[I") (List.mem_of_getElem? (i := 3) rfl)) rfl dX3_dropStep_40 ?_
        refine lv_iload_n hx hb dX3_dropStep_43 rfl (lv_at hl 1 rfl) ?_
        refine lv_iconst (v := 1) hx hb dX3_dropStep_44 (by decide) ?_
        refine lv_iadd hx hb dX3_dropStep_45 ?_
        obtain ⟨hi, hf⟩ := ck_some hf
        refine x_iald hx hb hE hP 3 rfl hi dX3_dropStep_46 ?_
        obtain ⟨hi, hf⟩ := ck_some hf
        obtain ⟨targets_47, e_targets_47, hf⟩ := lt_some hf
        refine x_iast (I' := [[(h, .inr (3, [.int objects, .ref a_words, .int steps, .ref a_sources, .ref a_targets, .ref a_labels]))], [(a_labels, .inl (G 0, 32, .inl labels))], [(a_sources, .inl (G 0, 32, .inl sources_33))], [(a_targets, .inl (G 0, 32, .inl targets_47))]]) hx hb hE hP hN hS 3 rfl hi e_targets_47 rfl dX3_dropStep_47 (fun H locs hP hS => ?_)
        refine lv_aload_n hx hb dX3_dropStep_48 rfl (lv_at hl 0 rfl) ?_
        refine x_get hx hb hts u_X3_dropStep_X3 hown hE hP 0 rfl rfl 5 (by decide) (hts (.fieldLink RX3 28 "DecreasingDiagrams$LabelledSystem" "labels" "[I") (List.mem_of_getElem? (i := 4) rfl)) rfl dX3_dropStep_49 ?_
        refine lv_iload_n hx hb dX3_dropStep_52 rfl (lv_at hl 1 rfl) ?_
        refine lv_aload_n hx hb dX3_dropStep_53 rfl (lv_at hl 0 rfl) ?_
        refine x_get hx hb hts u_X3_dropStep_X3 hown hE hP 0 rfl rfl 5 (by decide) (hts (.fieldLink RX3 28 "DecreasingDiagrams$LabelledSystem" "labels" "[I") (List.mem_of_getElem? (i := 4) rfl)) rfl dX3_dropStep_54 ?_
        refine lv_iload_n hx hb dX3_dropStep_57 rfl (lv_at hl 1 rfl) ?_
        refine lv_iconst (v := 1) hx hb dX3_dropStep_58 (by decide) ?_
        refine lv_iadd hx hb dX3_dropStep_59 ?_
        obtain ⟨hi, hf⟩ := ck_some hf
        refine x_iald hx hb hE hP 1 rfl hi dX3_dropStep_60 ?_
        obtain ⟨hi, hf⟩ := ck_some hf
        obtain ⟨labels_61, e_labels_61, hf⟩ := lt_some hf
        refine x_iast (I' := [[(h, .inr (3, [.int objects, .ref a_words, .int steps, .ref a_sources, .ref a_targets, .ref a_labels]))], [(a_labels, .inl (G 0, 32, .inl labels_61))], [(a_sources, .inl (G 0, 32, .inl sources_33))], [(a_targets, .inl (G 0, 32, .inl targets_47))]]) hx hb hE hP hN hS 1 rfl hi e_labels_61 rfl dX3_dropStep_61 (fun H locs hP hS => ?_)
        obtain ⟨v2_62, e_v2_62, hf⟩ := lt_some hf
        refine lv_iinc (v := v2_62) (lv' := [(2, .int v2_62), (0, .ref h)]) hx hb dX3_dropStep_62 hl (k := 1) rfl (by rw [e_v2_62]; rfl) (by decide) rfl (fun ls hl => ?_)
        refine lv_goto (tgt := 12) hx hb dX3_dropStep_65 (by decide) ?_
        exact ih_12 v2_62 labels_61 sources_33 targets_47 H locs ls hP hS (lv_sub hl [1, 0] rfl) hf
  rw [f_X3_dropStep] at hf
  obtain ⟨H, hH⟩ : ∃ H : Heap, H = s.heap := ⟨_, rfl⟩
  obtain ⟨locs, hlocs⟩ : ∃ locs : List Loc, locs = [] := ⟨_, rfl⟩
  have hP : xW D aa [[(h, .inr (3, [.int objects, .ref a_words, .int steps, .ref a_sources, .ref a_targets, .ref a_labels]))], [(a_labels, .inl (G 0, 32, .inl labels))], [(a_sources, .inl (G 0, 32, .inl sources))], [(a_targets, .inl (G 0, 32, .inl targets))]] H := by rw [hH]; exact hP
  have hS : va_S (xA aa) s.heap H locs := by rw [hH, hlocs]; exact hS
  suffices GO : W p l e (rM 0 0) s m args below meth c H locs 0 0 Q (F0 m 0 ls []) by
    rw [hH, hlocs] at GO
    exact GO
  clear hH hlocs
  refine lv_aload_n hx hb dX3_dropStep_0 rfl (lv_at hl 0 rfl) ?_
  refine lv_dup hx hb dX3_dropStep_1 rfl ?_
  refine x_get hx hb hts u_X3_dropStep_X3 hown hE hP 0 rfl rfl 2 (by decide) (hts (.fieldLink RX3 19 "DecreasingDiagrams$LabelledSystem" "steps" "I") (List.mem_of_getElem? (i := 1) rfl)) rfl dX3_dropStep_2 ?_
  refine lv_iconst (v := 1) hx hb dX3_dropStep_5 (by decide) ?_
  refine lv_isub hx hb dX3_dropStep_6 ?_
  obtain ⟨steps_7, e_steps_7, hf⟩ := lt_some hf
  refine x_put (w := .int steps_7) (ty := .int) (I' := [[(h, .inr (3, [.int objects, .ref a_words, .int steps_7, .ref a_sources, .ref a_targets, .ref a_labels]))], [(a_labels, .inl (G 0, 32, .inl labels))], [(a_sources, .inl (G 0, 32, .inl sources))], [(a_targets, .inl (G 0, 32, .inl targets))]]) hx hb hts u_X3_dropStep_X3 tyX3 tyX3_ok nmX3 hown hE hP hN hS 0 rfl rfl 2 (by decide) (hts (.fieldLink RX3 19 "DecreasingDiagrams$LabelledSystem" "steps" "I") (List.mem_of_getElem? (i := 1) rfl)) rfl (congrArg Value.int e_steps_7) (by decide +kernel) rfl rfl (Nat.le_of_ble_eq_true rfl) rfl dX3_dropStep_7 (fun H locs hP hS => ?_)
  refine lv_iload_n hx hb dX3_dropStep_10 rfl (lv_at hl 1 rfl) ?_
  obtain ⟨v2_11, e_v2_11, hf⟩ := lt_some hf
  refine x_istore_n (v := v2_11) (lv' := [(2, .int v2_11), (0, .ref h), (1, .int v1)]) hx hb dX3_dropStep_11 e_v2_11 rfl hl (by decide) rfl (fun ls hl => ?_)
  exact L12 steps_7   fuel v2_11 labels sources targets H locs ls hP hS (lv_sub hl [1, 0] rfl) hf
