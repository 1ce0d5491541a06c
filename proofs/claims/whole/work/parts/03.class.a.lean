def f_J6_bitCount_0f7a4 (v0 : Int32) : Option (Int32) :=
  lt (v0 - (((v0.toUInt32 >>> (Int32.toUInt32 1 &&& Int32.toUInt32 31)).toInt32) &&& 1431655765)) (fun v0_9 => lt ((v0_9 &&& 858993459) + (((v0_9.toUInt32 >>> (Int32.toUInt32 2 &&& Int32.toUInt32 31)).toInt32) &&& 858993459)) (fun v0_23 => lt ((v0_23 + ((v0_23.toUInt32 >>> (Int32.toUInt32 4 &&& Int32.toUInt32 31)).toInt32)) &&& 252645135) (fun v0_33 => lt (v0_33 + ((v0_33.toUInt32 >>> (Int32.toUInt32 8 &&& Int32.toUInt32 31)).toInt32)) (fun v0_40 => lt (v0_40 + ((v0_40.toUInt32 >>> (Int32.toUInt32 16 &&& Int32.toUInt32 31)).toInt32)) (fun v0_47 => some (v0_47 &&& 63))))))
set_option maxHeartbeats 4000000 in
set_option maxRecDepth 100000 in
theorem k_J6_bitCount_0f7a4 (l : Launch) (D : va_G) (G : Nat → ClassId) (fu : Nat)    (v0 : Int32) (out : Int32) (hf : f_J6_bitCount_0f7a4 v0 = some out) : xMet l yJ6_bitCount_0f7a4 wsJ6_bitCount_0f7a4 (rM 0 0) D G [.int v0] [] (xQi D [] out) := by
  refine x_ent (cc := cJ6_bitCount_0f7a4) (maxL := 1) (by decide) rfl (Nat.le_of_ble_eq_true rfl) ?_
  intro p e s m blw meth c aa ls args Q H locs hQ hx hb hr hml hown hts hlocks hE hN hl hP hS
  have hown : s.vm.findClass RJ6 = some m.cls := hown
  have hl : lv_has ls 1 [(0, .int v0)] := hl
  refine lv_iload_n hx hb dJ6_bitCount_0f7a4_0 rfl (lv_at hl 0 rfl) ?_
  refine lv_iload_n hx hb dJ6_bitCount_0f7a4_1 rfl (lv_at hl 0 rfl) ?_
  refine lv_iconst (v := 1) hx hb dJ6_bitCount_0f7a4_2 (by decide) ?_
  refine lv_iushr hx hb dJ6_bitCount_0f7a4_3 rfl ?_
  refine lv_ldcw (v := 1431655765) hx hb hown (hts (.constant RJ6 265 (1431655765)) (List.mem_of_getElem? (i := 1) rfl)) dJ6_bitCount_0f7a4_4 ?_
  refine lv_iand hx hb dJ6_bitCount_0f7a4_7 ?_
  refine lv_isub hx hb dJ6_bitCount_0f7a4_8 ?_
  obtain ⟨v0_9, e_v0_9, hf⟩ := lt_some hf
  refine x_istore_n (v := v0_9) (lv' := [(0, .int v0_9)]) hx hb dJ6_bitCount_0f7a4_9 e_v0_9 rfl hl (by decide) rfl (fun ls hl => ?_)
  refine lv_iload_n hx hb dJ6_bitCount_0f7a4_10 rfl (lv_at hl 0 rfl) ?_
  refine lv_ldcw (v := 858993459) hx hb hown (hts (.constant RJ6 266 (858993459)) (List.mem_of_getElem? (i := 2) rfl)) dJ6_bitCount_0f7a4_11 ?_
  refine lv_iand hx hb dJ6_bitCount_0f7a4_14 ?_
  refine lv_iload_n hx hb dJ6_bitCount_0f7a4_15 rfl (lv_at hl 0 rfl) ?_
  refine lv_iconst (v := 2) hx hb dJ6_bitCount_0f7a4_16 (by decide) ?_
  refine lv_iushr hx hb dJ6_bitCount_0f7a4_17 rfl ?_
  refine lv_ldcw (v := 858993459) hx hb hown (hts (.constant RJ6 266 (858993459)) (List.mem_of_getElem? (i := 2) rfl)) dJ6_bitCount_0f7a4_18 ?_
  refine lv_iand hx hb dJ6_bitCount_0f7a4_21 ?_
  refine lv_iadd hx hb dJ6_bitCount_0f7a4_22 ?_
  obtain ⟨v0_23, e_v0_23, hf⟩ := lt_some hf
  refine x_istore_n (v := v0_23) (lv' := [(0, .int v0_23)]) hx hb dJ6_bitCount_0f7a4_23 e_v0_23 rfl hl (by decide) rfl (fun ls hl => ?_)
  refine lv_iload_n hx hb dJ6_bitCount_0f7a4_24 rfl (lv_at hl 0 rfl) ?_
  refine lv_iload_n hx hb dJ6_bitCount_0f7a4_25 rfl (lv_at hl 0 rfl) ?_
  refine lv_iconst (v := 4) hx hb dJ6_bitCount_0f7a4_26 (by decide) ?_
  refine lv_iushr hx hb dJ6_bitCount_0f7a4_27 rfl ?_
  refine lv_iadd hx hb dJ6_bitCount_0f7a4_28 ?_
  refine lv_ldcw (v := 252645135) hx hb hown (hts (.constant RJ6 267 (252645135)) (List.mem_of_getElem? (i := 3) rfl)) dJ6_bitCount_0f7a4_29 ?_
  refine lv_iand hx hb dJ6_bitCount_0f7a4_32 ?_
  obtain ⟨v0_33, e_v0_33, hf⟩ := lt_some hf
  refine x_istore_n (v := v0_33) (lv' := [(0, .int v0_33)]) hx hb dJ6_bitCount_0f7a4_33 e_v0_33 rfl hl (by decide) rfl (fun ls hl => ?_)
  refine lv_iload_n hx hb dJ6_bitCount_0f7a4_34 rfl (lv_at hl 0 rfl) ?_
  refine lv_iload_n hx hb dJ6_bitCount_0f7a4_35 rfl (lv_at hl 0 rfl) ?_
  refine lv_bipush (v := 8) hx hb dJ6_bitCount_0f7a4_36 (by decide) ?_
  refine lv_iushr hx hb dJ6_bitCount_0f7a4_38 rfl ?_
  refine lv_iadd hx hb dJ6_bitCount_0f7a4_39 ?_
  obtain ⟨v0_40, e_v0_40, hf⟩ := lt_some hf
  refine x_istore_n (v := v0_40) (lv' := [(0, .int v0_40)]) hx hb dJ6_bitCount_0f7a4_40 e_v0_40 rfl hl (by decide) rfl (fun ls hl => ?_)
  refine lv_iload_n hx hb dJ6_bitCount_0f7a4_41 rfl (lv_at hl 0 rfl) ?_
  refine lv_iload_n hx hb dJ6_bitCount_0f7a4_42 rfl (lv_at hl 0 rfl) ?_
  refine lv_bipush (v := 16) hx hb dJ6_bitCount_0f7a4_43 (by decide) ?_
  refine lv_iushr hx hb dJ6_bitCount_0f7a4_45 rfl ?_
  refine lv_iadd hx hb dJ6_bitCount_0f7a4_46 ?_
  obtain ⟨v0_47, e_v0_47, hf⟩ := lt_some hf
  refine x_istore_n (v := v0_47) (lv' := [(0, .int v0_47)]) hx hb dJ6_bitCount_0f7a4_47 e_v0_47 rfl hl (by decide) rfl (fun ls hl => ?_)
  refine lv_iload_n hx hb dJ6_bitCount_0f7a4_48 rfl (lv_at hl 0 rfl) ?_
  refine lv_bipush (v := 63) hx hb dJ6_bitCount_0f7a4_49 (by decide) ?_
  refine lv_iand hx hb dJ6_bitCount_0f7a4_51 ?_
  have hf := Option.some.inj hf
  rewrite [← hQ, ← hf]
  exact x_iret hx hb hr hlocks hP hS dJ6_bitCount_0f7a4_52

def f_J7_fill_53178_L5 (n_p0 : Nat) (v1 : Int32) (v3 : Int32) (rec_5 : Int32 → (Nat → Int32) → Option ((Nat → Int32))) (v2 : Int32) (p0 : (Nat → Int32)) : Option ((Nat → Int32)) :=
  if v3 ≤ v2 then (some p0) else (ck v2 n_p0 (lt (upd p0 v2.toNatClampNeg v1) (fun p0_13 => lt (v2 + 1) (fun v2_14 => rec_5 v2_14 p0_13))))
def f_J7_fill_53178 (fu : Nat) (p0 : (Nat → Int32)) (n_p0 : Nat) (v1 : Int32) : Option ((Nat → Int32)) :=
  lt (0 : Int32) (fun v2_1 => lt (Int32.ofNat n_p0) (fun v3_4 => lp (τ := Int32 → (Nat → Int32) → Option ((Nat → Int32))) (fun _ _ => none) (f_J7_fill_53178_L5 n_p0 v1 v3_4) fu v2_1 p0))
set_option maxHeartbeats 4000000 in
set_option maxRecDepth 100000 in
theorem k_J7_fill_53178 (l : Launch) (D : va_G) (G : Nat → ClassId) (fu : Nat) (a_p0 : Nat) (p0 : (Nat → Int32)) (n_p0 : Nat) (v1 : Int32) (out : (Nat → Int32)) (hf : f_J7_fill_53178 fu p0 n_p0 v1 = some out) : xMet l yJ7_fill_53178 wsJ7_fill_53178 (rM 0 0) D G [.ref a_p0, .int v1] [[(a_p0, .inl (G 0, n_p0, .inl p0))]] (xQv D [[(a_p0, .inl (G 0, n_p0, .inl out))]]) := by
  refine x_ent (cc := cJ7_fill_53178) (maxL := 4) (by decide) rfl (Nat.le_of_ble_eq_true rfl) ?_
  intro p e s m blw meth c aa ls args Q H locs hQ hx hb hr hml hown hts hlocks hE hN hl hP hS
  have hown : s.vm.findClass RJ7 = some m.cls := hown
  have hl : lv_has ls 4 [(0, .ref a_p0), (1, .int v1)] := hl
  have L5 : ∀ (v3 : Int32), ∀ (n_5 : Nat) (v2 : Int32) (p0 : (Nat → Int32)) (H : Heap) (locs : List Loc) (ls : Array Slot), xW D aa [[(a_p0, .inl (G 0, n_p0, .inl p0))]] H → va_S (xA aa) s.heap H locs → lv_has ls 4 [(0, .ref a_p0), (1, .int v1), (2, .int v2), (3, .int v3)] → lp (τ := Int32 → (Nat → Int32) → Option ((Nat → Int32))) (fun _ _ => none) (f_J7_fill_53178_L5 n_p0 v1 v3) n_5 v2 p0 = some out → W p l e (rM 0 0) s m args blw meth c H locs 0 0 Q (F0 m 5 ls []) := by
    intro v3   n_5
    induction n_5 with
    | zero =>
      intro v2 p0 H locs ls hP hS hl hf
      exact no_some hf
    | succ n_5 ih_5 =>
      intro v2 p0 H locs ls hP hS hl hf
      have hf : f_J7_fill_53178_L5 n_p0 v1 v3 (lp (τ := Int32 → (Nat → Int32) → Option ((Nat → Int32))) (fun _ _ => none) (f_J7_fill_53178_L5 n_p0 v1 v3) n_5) v2 p0 = some out := hf
      refine lv_iload_n hx hb dJ7_fill_53178_5 rfl (lv_at hl 2 rfl) ?_
      refine lv_iload_n hx hb dJ7_fill_53178_6 rfl (lv_at hl 3 rfl) ?_
      refine lv_icmp_ge (tgt := 20) hx hb dJ7_fill_53178_7 (by decide) (fun c_7 => ?_) (fun c_7 => ?_)
      · have hf := it_pos c_7 hf
        have hf := Option.some.inj hf
        rewrite [← hQ, ← hf]
        exact x_vret hx hb hr hlocks hP hS dJ7_fill_53178_20
      · have hf := it_neg c_7 hf
        refine lv_aload_n hx hb dJ7_fill_53178_10 rfl (lv_at hl 0 rfl) ?_
        refine lv_iload_n hx hb dJ7_fill_53178_11 rfl (lv_at hl 2 rfl) ?_
        refine lv_iload_n hx hb dJ7_fill_53178_12 rfl (lv_at hl 1 rfl) ?_
        obtain ⟨hi, hf⟩ := ck_some hf
        obtain ⟨p0_13, e_p0_13, hf⟩ := lt_some hf
        refine x_iast (I' := [[(a_p0, .inl (G 0, n_p0, .inl p0_13))]]) hx hb hE hP hN hS 0 rfl hi e_p0_13 rfl dJ7_fill_53178_13 (fun H locs hP hS => ?_)
        obtain ⟨v2_14, e_v2_14, hf⟩ := lt_some hf
        refine lv_iinc (v := v2_14) (lv' := [(2, .int v2_14), (0, .ref a_p0), (1, .int v1), (3, .int v3)]) hx hb dJ7_fill_53178_14 hl (k := 2) rfl (by rw [e_v2_14]; rfl) (by decide) rfl (fun ls hl => ?_)
        refine lv_goto (tgt := 5) hx hb dJ7_fill_53178_17 (by decide) ?_
        exact ih_5 v2_14 p0_13 H locs ls hP hS (lv_sub hl [1, 2, 0, 3] rfl) hf
  refine lv_iconst (v := 0) hx hb dJ7_fill_53178_0 (by decide) ?_
  obtain ⟨v2_1, e_v2_1, hf⟩ := lt_some hf
  refine x_istore_n (v := v2_1) (lv' := [(2, .int v2_1), (0, .ref a_p0), (1, .int v1)]) hx hb dJ7_fill_53178_1 e_v2_1 rfl hl (by decide) rfl (fun ls hl => ?_)
  refine lv_aload_n hx hb dJ7_fill_53178_2 rfl (lv_at hl 1 rfl) ?_
  refine x_alen (v := Int32.ofNat n_p0) hx hb hE hP 0 0 rfl rfl rfl dJ7_fill_53178_3 ?_
  obtain ⟨v3_4, e_v3_4, hf⟩ := lt_some hf
  refine x_istore_n (v := v3_4) (lv' := [(3, .int v3_4), (2, .int v2_1), (0, .ref a_p0), (1, .int v1)]) hx hb dJ7_fill_53178_4 e_v3_4 rfl hl (by decide) rfl (fun ls hl => ?_)
  exact L5 v3_4   fu v2_1 p0 H locs ls hP hS (lv_sub hl [2, 3, 1, 0] rfl) hf

def f_J7_fill_d0a16_L6 (n_p0 : Nat) (v1 : Int64) (v4 : Int32) (rec_6 : Int32 → (Nat → Int64) → Option ((Nat → Int64))) (v3 : Int32) (p0 : (Nat → Int64)) : Option ((Nat → Int64)) :=
  if v4 ≤ v3 then (some p0) else (ck v3 n_p0 (lt (vp_updL p0 v3.toNatClampNeg v1) (fun p0_15 => lt (v3 + 1) (fun v3_16 => rec_6 v3_16 p0_15))))
def f_J7_fill_d0a16 (fu : Nat) (p0 : (Nat → Int64)) (n_p0 : Nat) (v1 : Int64) : Option ((Nat → Int64)) :=
  lt (0 : Int32) (fun v3_1 => lt (Int32.ofNat n_p0) (fun v4_4 => lp (τ := Int32 → (Nat → Int64) → Option ((Nat → Int64))) (fun _ _ => none) (f_J7_fill_d0a16_L6 n_p0 v1 v4_4) fu v3_1 p0))
set_option maxHeartbeats 4000000 in
set_option maxRecDepth 100000 in
theorem k_J7_fill_d0a16 (l : Launch) (D : va_G) (G : Nat → ClassId) (fu : Nat) (a_p0 : Nat) (p0 : (Nat → Int64)) (n_p0 : Nat) (v1 : Int64) (out : (Nat → Int64)) (hf : f_J7_fill_d0a16 fu p0 n_p0 v1 = some out) : xMet l yJ7_fill_d0a16 wsJ7_fill_d0a16 (rM 0 0) D G [.ref a_p0, .long v1] [[(a_p0, .inl (G 1, n_p0, .inr (.inl p0)))]] (xQv D [[(a_p0, .inl (G 1, n_p0, .inr (.inl out)))]]) := by
  refine x_ent (cc := cJ7_fill_d0a16) (maxL := 5) (by decide) rfl (Nat.le_of_ble_eq_true rfl) ?_
  intro p e s m blw meth c aa ls args Q H locs hQ hx hb hr hml hown hts hlocks hE hN hl hP hS
  have hown : s.vm.findClass RJ7 = some m.cls := hown
  have hl : lv_has ls 5 [(0, .ref a_p0), (1, .long v1)] := hl
  have L6 : ∀ (v4 : Int32), ∀ (n_6 : Nat) (v3 : Int32) (p0 : (Nat → Int64)) (H : Heap) (locs : List Loc) (ls : Array Slot), xW D aa [[(a_p0, .inl (G 1, n_p0, .inr (.inl p0)))]] H → va_S (xA aa) s.heap H locs → lv_has ls 5 [(0, .ref a_p0), (1, .long v1), (3, .int v3), (4, .int v4)] → lp (τ := Int32 → (Nat → Int64) → Option ((Nat → Int64))) (fun _ _ => none) (f_J7_fill_d0a16_L6 n_p0 v1 v4) n_6 v3 p0 = some out → W p l e (rM 0 0) s m args blw meth c H locs 0 0 Q (F0 m 6 ls []) := by
    intro v4   n_6
    induction n_6 with
    | zero =>
      intro v3 p0 H locs ls hP hS hl hf
      exact no_some hf
    | succ n_6 ih_6 =>
      intro v3 p0 H locs ls hP hS hl hf
      have hf : f_J7_fill_d0a16_L6 n_p0 v1 v4 (lp (τ := Int32 → (Nat → Int64) → Option ((Nat → Int64))) (fun _ _ => none) (f_J7_fill_d0a16_L6 n_p0 v1 v4) n_6) v3 p0 = some out := hf
      refine lv_iload_n hx hb dJ7_fill_d0a16_6 rfl (lv_at hl 2 rfl) ?_
      refine lv_iload hx hb dJ7_fill_d0a16_7 (lv_at hl 3 rfl) ?_
      refine lv_icmp_ge (tgt := 22) hx hb dJ7_fill_d0a16_9 (by decide) (fun c_9 => ?_) (fun c_9 => ?_)
      · have hf := it_pos c_9 hf
        have hf := Option.some.inj hf
        rewrite [← hQ, ← hf]
        exact x_vret hx hb hr hlocks hP hS dJ7_fill_d0a16_22
      · have hf := it_neg c_9 hf
        refine lv_aload_n hx hb dJ7_fill_d0a16_12 rfl (lv_at hl 0 rfl) ?_
        refine lv_iload_n hx hb dJ7_fill_d0a16_13 rfl (lv_at hl 2 rfl) ?_
        refine lv_lload_n hx hb dJ7_fill_d0a16_14 rfl (lv_at hl 1 rfl) ?_
        obtain ⟨hi, hf⟩ := ck_some hf
        obtain ⟨p0_15, e_p0_15, hf⟩ := lt_some hf
        refine x_last (I' := [[(a_p0, .inl (G 1, n_p0, .inr (.inl p0_15)))]]) hx hb hE hP hN hS 0 rfl hi e_p0_15 rfl dJ7_fill_d0a16_15 (fun H locs hP hS => ?_)
        obtain ⟨v3_16, e_v3_16, hf⟩ := lt_some hf
        refine lv_iinc (v := v3_16) (lv' := [(3, .int v3_16), (0, .ref a_p0), (1, .long v1), (4, .int v4)]) hx hb dJ7_fill_d0a16_16 hl (k := 2) rfl (by rw [e_v3_16]; rfl) (by decide) rfl (fun ls hl => ?_)
        refine lv_goto (tgt := 6) hx hb dJ7_fill_d0a16_19 (by decide) ?_
        exact ih_6 v3_16 p0_15 H locs ls hP hS (lv_sub hl [1, 2, 0, 3] rfl) hf
  refine lv_iconst (v := 0) hx hb dJ7_fill_d0a16_0 (by decide) ?_
  obtain ⟨v3_1, e_v3_1, hf⟩ := lt_some hf
  refine x_istore_n (v := v3_1) (lv' := [(3, .int v3_1), (0, .ref a_p0), (1, .long v1)]) hx hb dJ7_fill_d0a16_1 e_v3_1 rfl hl (by decide) rfl (fun ls hl => ?_)
  refine lv_aload_n hx hb dJ7_fill_d0a16_2 rfl (lv_at hl 1 rfl) ?_
  refine x_alen (v := Int32.ofNat n_p0) hx hb hE hP 0 1 rfl rfl rfl dJ7_fill_d0a16_3 ?_
  obtain ⟨v4_4, e_v4_4, hf⟩ := lt_some hf
  refine x_istore (v := v4_4) (lv' := [(4, .int v4_4), (3, .int v3_1), (0, .ref a_p0), (1, .long v1)]) hx hb dJ7_fill_d0a16_4 e_v4_4 hl (by decide) rfl (fun ls hl => ?_)
  exact L6 v4_4   fu v3_1 p0 H locs ls hP hS (lv_sub hl [2, 3, 1, 0] rfl) hf

def f_X10_lengthOf_L2 (v0 : Int32) (rec_2 : Int32 → Option (Int32)) (v1 : Int32) : Option (Int32) :=
  if 15 ≤ v1 then (some v1) else (if (v0 >>> ((2 * v1) &&& 31)) = 0 then (some v1) else (lt (v1 + 1) (fun v1_16 => rec_2 v1_16)))
def f_X10_lengthOf (fu : Nat) (v0 : Int32) : Option (Int32) :=
  lt (0 : Int32) (fun v1_1 => lp (τ := Int32 → Option (Int32)) (fun _ => none) (f_X10_lengthOf_L2 v0) fu v1_1)
set_option maxHeartbeats 4000000 in
set_option maxRecDepth 100000 in
theorem k_X10_lengthOf (l : Launch) (D : va_G) (G : Nat → ClassId) (fu : Nat)    (v0 : Int32) (out : Int32) (hf : f_X10_lengthOf fu v0 = some out) : xMet l yX10_lengthOf wsX10_lengthOf (rM 0 0) D G [.int v0] [] (xQi D [] out) := by
  refine x_ent (cc := cX10_lengthOf) (maxL := 2) (by decide) rfl (Nat.le_of_ble_eq_true rfl) ?_
  intro p e s m blw meth c aa ls args Q H locs hQ hx hb hr hml hown hts hlocks hE hN hl hP hS
  have hown : s.vm.findClass RX10 = some m.cls := hown
  have hl : lv_has ls 2 [(0, .int v0)] := hl
  have L2 : ∀ (n_2 : Nat) (v1 : Int32) (H : Heap) (locs : List Loc) (ls : Array Slot), xW D aa [] H → va_S (xA aa) s.heap H locs → lv_has ls 2 [(0, .int v0), (1, .int v1)] → lp (τ := Int32 → Option (Int32)) (fun _ => none) (f_X10_lengthOf_L2 v0) n_2 v1 = some out → W p l e (rM 0 0) s m args blw meth c H locs 0 0 Q (F0 m 2 ls []) := by
    intro    n_2
    induction n_2 with
    | zero =>
      intro v1 H locs ls hP hS hl hf
      exact no_some hf
    | succ n_2 ih_2 =>
      intro v1 H locs ls hP hS hl hf
      have hf : f_X10_lengthOf_L2 v0 (lp (τ := Int32 → Option (Int32)) (fun _ => none) (f_X10_lengthOf_L2 v0) n_2) v1 = some out := hf
      refine lv_iload_n hx hb dX10_lengthOf_2 rfl (lv_at hl 1 rfl) ?_
      refine lv_bipush (v := 15) hx hb dX10_lengthOf_3 (by decide) ?_
      refine lv_icmp_ge (tgt := 22) hx hb dX10_lengthOf_5 (by decide) (fun c_5 => ?_) (fun c_5 => ?_)
      · have hf := it_pos c_5 hf
        refine lv_iload_n hx hb dX10_lengthOf_22 rfl (lv_at hl 1 rfl) ?_
        have hf := Option.some.inj hf
        rewrite [← hQ, ← hf]
        exact x_iret hx hb hr hlocks hP hS dX10_lengthOf_23
      · have hf := it_neg c_5 hf
        refine lv_iload_n hx hb dX10_lengthOf_8 rfl (lv_at hl 0 rfl) ?_
        refine lv_iconst (v := 2) hx hb dX10_lengthOf_9 (by decide) ?_
        refine lv_iload_n hx hb dX10_lengthOf_10 rfl (lv_at hl 1 rfl) ?_
        refine lv_imul hx hb dX10_lengthOf_11 ?_
        refine lv_ishr hx hb dX10_lengthOf_12 ?_
        refine lv_if_eq (tgt := 22) hx hb dX10_lengthOf_13 (by decide) (fun c_13 => ?_) (fun c_13 => ?_)
        · have hf := it_pos c_13 hf
          refine lv_iload_n hx hb dX10_lengthOf_22 rfl (lv_at hl 1 rfl) ?_
          have hf := Option.some.inj hf
          rewrite [← hQ, ← hf]
          exact x_iret hx hb hr hlocks hP hS dX10_lengthOf_23
        · have hf := it_neg c_13 hf
          obtain ⟨v1_16, e_v1_16, hf⟩ := lt_some hf
          refine lv_iinc (v := v1_16) (lv' := [(1, .int v1_16), (0, .int v0)]) hx hb dX10_lengthOf_16 hl (k := 1) rfl (by rw [e_v1_16]; rfl) (by decide) rfl (fun ls hl => ?_)
          refine lv_goto (tgt := 2) hx hb dX10_lengthOf_19 (by decide) ?_
          exact ih_2 v1_16 H locs ls hP hS (lv_sub hl [1, 0] rfl) hf
  refine lv_iconst (v := 0) hx hb dX10_lengthOf_0 (by decide) ?_
  obtain ⟨v1_1, e_v1_1, hf⟩ := lt_some hf
  refine x_istore_n (v := v1_1) (lv' := [(1, .int v1_1), (0, .int v0)]) hx hb dX10_lengthOf_1 e_v1_1 rfl hl (by decide) rfl (fun ls hl => ?_)
  exact L2    fu v1_1 H locs ls hP hS (lv_sub hl [1, 0] rfl) hf

def f_X10_headOf (v0 : Int32) (v1 : Int32) : Option (Int32) :=
  some (v0 &&& ((1 <<< ((2 * v1) &&& 31)) - 1))
set_option maxHeartbeats 4000000 in
set_option maxRecDepth 100000 in
theorem k_X10_headOf (l : Launch) (D : va_G) (G : Nat → ClassId) (fu : Nat)    (v0 : Int32) (v1 : Int32) (out : Int32) (hf : f_X10_headOf v0 v1 = some out) : xMet l yX10_headOf wsX10_headOf (rM 0 0) D G [.int v0, .int v1] [] (xQi D [] out) := by
  refine x_ent (cc := cX10_headOf) (maxL := 2) (by decide) rfl (Nat.le_of_ble_eq_true rfl) ?_
  intro p e s m blw meth c aa ls args Q H locs hQ hx hb hr hml hown hts hlocks hE hN hl hP hS
  have hown : s.vm.findClass RX10 = some m.cls := hown
  have hl : lv_has ls 2 [(0, .int v0), (1, .int v1)] := hl
  refine lv_iload_n hx hb dX10_headOf_0 rfl (lv_at hl 0 rfl) ?_
  refine lv_iconst (v := 1) hx hb dX10_headOf_1 (by decide) ?_
  refine lv_iconst (v := 2) hx hb dX10_headOf_2 (by decide) ?_
  refine lv_iload_n hx hb dX10_headOf_3 rfl (lv_at hl 1 rfl) ?_
  refine lv_imul hx hb dX10_headOf_4 ?_
  refine lv_ishl hx hb dX10_headOf_5 ?_
  refine lv_iconst (v := 1) hx hb dX10_headOf_6 (by decide) ?_
  refine lv_isub hx hb dX10_headOf_7 ?_
  refine lv_iand hx hb dX10_headOf_8 ?_
  have hf := Option.some.inj hf
  rewrite [← hQ, ← hf]
  exact x_iret hx hb hr hlocks hP hS dX10_headOf_9

def f_X10_occurs (fu : Nat) (v0 : Int32) (v1 : Int32) (v2 : Int32) : Option (Int32) :=
  (f_X10_lengthOf fu v0).bind (fun r_6 => (f_X10_headOf (v1 >>> ((2 * v2) &&& 31)) r_6).bind (fun r_9 => if ¬ r_9 = v0 then (some 0) else (some 1)))
set_option maxHeartbeats 4000000 in
set_option maxRecDepth 100000 in
theorem k_X10_occurs (l : Launch) (D : va_G) (G : Nat → ClassId) (fu : Nat)    (v0 : Int32) (v1 : Int32) (v2 : Int32) (out : Int32) (hf : f_X10_occurs fu v0 v1 v2 = some out) : xMet l yX10_occurs wsX10_occurs (rM 1 21) D G [.int v0, .int v1, .int v2] [] (xQi D [] out) := by
  refine x_ent (cc := cX10_occurs) (maxL := 3) (by decide) rfl (Nat.le_of_ble_eq_true rfl) ?_
  intro p e s m blw meth c aa ls args Q H locs hQ hx hb hr hml hown hts hlocks hE hN hl hP hS
  have hown : s.vm.findClass RX10 = some m.cls := hown
  have hl : lv_has ls 3 [(0, .int v0), (1, .int v1), (2, .int v2)] := hl
  refine lv_iload_n hx hb dX10_occurs_0 rfl (lv_at hl 1 rfl) ?_
  refine lv_iconst (v := 2) hx hb dX10_occurs_1 (by decide) ?_
  refine lv_iload_n hx hb dX10_occurs_2 rfl (lv_at hl 2 rfl) ?_
  refine lv_imul hx hb dX10_occurs_3 ?_
  refine lv_ishr hx hb dX10_occurs_4 ?_
  refine lv_iload_n hx hb dX10_occurs_5 rfl (lv_at hl 0 rfl) ?_
  obtain ⟨r_6, hr_6, hf⟩ := bd_some hf
  refine x_goi0 (ps := []) (x_runS (As := [.int v0]) (rest := [.int (v1 >>> ((2 * v2) &&& 31))]) (ps := []) ⟨hx, hb, hml, hown, hts⟩ (k_X10_lengthOf l D G fu v0 r_6 hr_6) (va_cwS 1 hts gX10_occurs_X10_lengthOf rfl rfl rfl (by decide +kernel) ⟨Nat.le_of_ble_eq_true rfl, Nat.le_of_ble_eq_true rfl⟩) hE hP hN rfl (by decide) rfl hl.1 (Nat.le_of_ble_eq_true rfl) dX10_occurs_6 ⟨Nat.zero_le _, Nat.zero_le _⟩) hP hN hS rfl (fun H locs hP hS => ?_)
  obtain ⟨r_9, hr_9, hf⟩ := bd_some hf
  refine x_goi0 (ps := []) (x_runS (As := [.int (v1 >>> ((2 * v2) &&& 31)), .int r_6]) (rest := []) (ps := []) ⟨hx, hb, hml, hown, hts⟩ (k_X10_headOf l D G fu (v1 >>> ((2 * v2) &&& 31)) r_6 r_9 hr_9) (va_cwS 2 hts gX10_occurs_X10_headOf rfl rfl rfl (by decide +kernel) ⟨Nat.le_of_ble_eq_true rfl, Nat.le_of_ble_eq_true rfl⟩) hE hP hN rfl (by decide) rfl hl.1 (Nat.le_of_ble_eq_true rfl) dX10_occurs_9 ⟨Nat.zero_le _, Nat.zero_le _⟩) hP hN hS rfl (fun H locs hP hS => ?_)
  refine lv_iload_n hx hb dX10_occurs_12 rfl (lv_at hl 0 rfl) ?_
  refine lv_icmp_ne (tgt := 20) hx hb dX10_occurs_13 (by decide) (fun c_13 => ?_) (fun c_13 => ?_)
  · have hf := it_pos c_13 hf
    refine lv_iconst (v := 0) hx hb dX10_occurs_20 (by decide) ?_
    have hf := Option.some.inj hf
    rewrite [← hQ, ← hf]
    exact x_zret (r := 0) hx hb hr hlocks rfl hP hS dX10_occurs_21
  · have hf := it_neg (fun h => h c_13) hf
    refine lv_iconst (v := 1) hx hb dX10_occurs_16 (by decide) ?_
    refine lv_goto (tgt := 21) hx hb dX10_occurs_17 (by decide) ?_
    have hf := Option.some.inj hf
    rewrite [← hQ, ← hf]
    exact x_zret (r := 1) hx hb hr hlocks rfl hP hS dX10_occurs_21

def f_X10_replace (fu : Nat) (v0 : Int32) (v1 : Int32) (v2 : Int32) (v3 : Int32) : Option (Int32) :=
  (f_X10_lengthOf fu v2).bind (fun r_4 => lt (v0 >>> ((2 * (v1 + r_4)) &&& 31)) (fun v4_10 => (f_X10_headOf v0 v1).bind (fun r_14 => (f_X10_lengthOf fu v3).bind (fun r_28 => some ((r_14 ||| (v3 <<< ((2 * v1) &&& 31))) ||| (v4_10 <<< ((2 * (v1 + r_28)) &&& 31)))))))
set_option maxHeartbeats 4000000 in
set_option maxRecDepth 100000 in
theorem k_X10_replace (l : Launch) (D : va_G) (G : Nat → ClassId) (fu : Nat)    (v0 : Int32) (v1 : Int32) (v2 : Int32) (v3 : Int32) (out : Int32) (hf : f_X10_replace fu v0 v1 v2 v3 = some out) : xMet l yX10_replace wsX10_replace (rM 1 21) D G [.int v0, .int v1, .int v2, .int v3] [] (xQi D [] out) := by
  refine x_ent (cc := cX10_replace) (maxL := 5) (by decide) rfl (Nat.le_of_ble_eq_true rfl) ?_
  intro p e s m blw meth c aa ls args Q H locs hQ hx hb hr hml hown hts hlocks hE hN hl hP hS
  have hown : s.vm.findClass RX10 = some m.cls := hown
  have hl : lv_has ls 5 [(0, .int v0), (1, .int v1), (2, .int v2), (3, .int v3)] := hl
  refine lv_iload_n hx hb dX10_replace_0 rfl (lv_at hl 0 rfl) ?_
  refine lv_iconst (v := 2) hx hb dX10_replace_1 (by decide) ?_
  refine lv_iload_n hx hb dX10_replace_2 rfl (lv_at hl 1 rfl) ?_
  refine lv_iload_n hx hb dX10_replace_3 rfl (lv_at hl 2 rfl) ?_
  obtain ⟨r_4, hr_4, hf⟩ := bd_some hf
  refine x_goi0 (ps := []) (x_runS (As := [.int v2]) (rest := [.int v1, .int 2, .int v0]) (ps := []) ⟨hx, hb, hml, hown, hts⟩ (k_X10_lengthOf l D G fu v2 r_4 hr_4) (va_cwS 1 hts gX10_replace_X10_lengthOf rfl rfl rfl (by decide +kernel) ⟨Nat.le_of_ble_eq_true rfl, Nat.le_of_ble_eq_true rfl⟩) hE hP hN rfl (by decide) rfl hl.1 (Nat.le_of_ble_eq_true rfl) dX10_replace_4 ⟨Nat.zero_le _, Nat.zero_le _⟩) hP hN hS rfl (fun H locs hP hS => ?_)
  refine lv_iadd hx hb dX10_replace_7 ?_
  refine lv_imul hx hb dX10_replace_8 ?_
  refine lv_ishr hx hb dX10_replace_9 ?_
  obtain ⟨v4_10, e_v4_10, hf⟩ := lt_some hf
  refine x_istore (v := v4_10) (lv' := [(4, .int v4_10), (0, .int v0), (1, .int v1), (2, .int v2), (3, .int v3)]) hx hb dX10_replace_10 e_v4_10 hl (by decide) rfl (fun ls hl => ?_)
  refine lv_iload_n hx hb dX10_replace_12 rfl (lv_at hl 1 rfl) ?_
  refine lv_iload_n hx hb dX10_replace_13 rfl (lv_at hl 2 rfl) ?_
  obtain ⟨r_14, hr_14, hf⟩ := bd_some hf
  refine x_goi0 (ps := []) (x_runS (As := [.int v0, .int v1]) (rest := []) (ps := []) ⟨hx, hb, hml, hown, hts⟩ (k_X10_headOf l D G fu v0 v1 r_14 hr_14) (va_cwS 2 hts gX10_replace_X10_headOf rfl rfl rfl (by decide +kernel) ⟨Nat.le_of_ble_eq_true rfl, Nat.le_of_ble_eq_true rfl⟩) hE hP hN rfl (by decide) rfl hl.1 (Nat.le_of_ble_eq_true rfl) dX10_replace_14 ⟨Nat.zero_le _, Nat.zero_le _⟩) hP hN hS rfl (fun H locs hP hS => ?_)
  refine lv_iload_n hx hb dX10_replace_17 rfl (lv_at hl 4 rfl) ?_
  refine lv_iconst (v := 2) hx hb dX10_replace_18 (by decide) ?_
  refine lv_iload_n hx hb dX10_replace_19 rfl (lv_at hl 2 rfl) ?_
  refine lv_imul hx hb dX10_replace_20 ?_
  refine lv_ishl hx hb dX10_replace_21 ?_
  refine lv_ior hx hb dX10_replace_22 ?_
  refine lv_iload hx hb dX10_replace_23 (lv_at hl 0 rfl) ?_
  refine lv_iconst (v := 2) hx hb dX10_replace_25 (by decide) ?_
  refine lv_iload_n hx hb dX10_replace_26 rfl (lv_at hl 2 rfl) ?_
  refine lv_iload_n hx hb dX10_replace_27 rfl (lv_at hl 4 rfl) ?_
  obtain ⟨r_28, hr_28, hf⟩ := bd_some hf
  refine x_goi0 (ps := []) (x_runS (As := [.int v3]) (rest := [.int v1, .int 2, .int v4_10, .int (r_14 ||| (v3 <<< ((2 * v1) &&& 31)))]) (ps := []) ⟨hx, hb, hml, hown, hts⟩ (k_X10_lengthOf l D G fu v3 r_28 hr_28) (va_cwS 1 hts gX10_replace_X10_lengthOf rfl rfl rfl (by decide +kernel) ⟨Nat.le_of_ble_eq_true rfl, Nat.le_of_ble_eq_true rfl⟩) hE hP hN rfl (by decide) rfl hl.1 (Nat.le_of_ble_eq_true rfl) dX10_replace_28 ⟨Nat.zero_le _, Nat.zero_le _⟩) hP hN hS rfl (fun H locs hP hS => ?_)
  refine lv_iadd hx hb dX10_replace_31 ?_
  refine lv_imul hx hb dX10_replace_32 ?_
  refine lv_ishl hx hb dX10_replace_33 ?_
  refine lv_ior hx hb dX10_replace_34 ?_
  have hf := Option.some.inj hf
  rewrite [← hQ, ← hf]
  exact x_iret hx hb hr hlocks hP hS dX10_replace_35

set_option maxRecDepth 20000 in
theorem u_X3_objectOf_X3 : ∀ w ∈ wsX30, w ∈ wsX3_objectOf := xx_pl _ [3, 4, 5, 6, 7, 8] (by decide +kernel)
def f_X3_objectOf_L2 (objects : Int32) (words : (Nat → Int32)) (v1 : Int32) (rec_2 : Int32 → Option (Int32)) (v2 : Int32) : Option (Int32) :=
  if objects ≤ v2 then (some (-2)) else (ck v2 16 (if ¬ (words v2.toNatClampNeg) = v1 then (lt (v2 + 1) (fun v2_22 => rec_2 v2_22)) else (some v2)))
def f_X3_objectOf (fu : Nat) (objects : Int32) (words : (Nat → Int32)) (v1 : Int32) : Option (Int32) :=
  lt (0 : Int32) (fun v2_1 => lp (τ := Int32 → Option (Int32)) (fun _ => none) (f_X3_objectOf_L2 objects words v1) fu v2_1)
set_option maxHeartbeats 4000000 in
set_option maxRecDepth 100000 in
theorem k_X3_objectOf (l : Launch) (D : va_G) (G : Nat → ClassId) (fu : Nat) (h : Nat) (a_words : Nat) (a_sources : Nat) (a_targets : Nat) (a_labels : Nat) (objects : Int32) (steps : Int32) (words : (Nat → Int32))  (v1 : Int32) (out : Int32) (hf : f_X3_objectOf fu objects words v1 = some out) : xMet l yX3_objectOf wsX3_objectOf (rM 0 0) D G [.ref h, .int v1] [[(h, .inr (3, [.int objects, .ref a_words, .int steps, .ref a_sources, .ref a_targets, .ref a_labels]))], [(a_words, .inl (G 0, 16, .inl words))]] (xQi D [[(h, .inr (3, [.int objects, .ref a_words, .int steps, .ref a_sources, .ref a_targets, .ref a_labels]))], [(a_words, .inl (G 0, 16, .inl words))]] out) := by
  refine x_ent (cc := cX3_objectOf) (maxL := 3) (by decide) rfl (Nat.le_of_ble_eq_true rfl) ?_
  intro p e s m blw meth c aa ls args Q H locs hQ hx hb hr hml hown hts hlocks hE hN hl hP hS
  have hown : s.vm.findClass RX3 = some m.cls := hown
  have hl : lv_has ls 3 [(0, .ref h), (1, .int v1)] := hl
  have L2 : ∀ (n_2 : Nat) (v2 : Int32) (H : Heap) (locs : List Loc) (ls : Array Slot), xW D aa [[(h, .inr (3, [.int objects, .ref a_words, .int steps, .ref a_sources, .ref a_targets, .ref a_labels]))], [(a_words, .inl (G 0, 16, .inl words))]] H → va_S (xA aa) s.heap H locs → lv_has ls 3 [(0, .ref h), (1, .int v1), (2, .int v2)] → lp (τ := Int32 → Option (Int32)) (fun _ => none) (f_X3_objectOf_L2 objects words v1) n_2 v2 = some out → W p l e (rM 0 0) s m args blw meth c H locs 0 0 Q (F0 m 2 ls []) := by
    intro    n_2
    induction n_2 with
    | zero =>
      intro v2 H locs ls hP hS hl hf
      exact no_some hf
    | succ n_2 ih_2 =>
      intro v2 H locs ls hP hS hl hf
      have hf : f_X3_objectOf_L2 objects words v1 (lp (τ := Int32 → Option (Int32)) (fun _ => none) (f_X3_objectOf_L2 objects words v1) n_2) v2 = some out := hf
      refine lv_iload_n hx hb dX3_objectOf_2 rfl (lv_at hl 2 rfl) ?_
      refine lv_aload_n hx hb dX3_objectOf_3 rfl (lv_at hl 0 rfl) ?_
      refine x_get hx hb hts u_X3_objectOf_X3 hown hE hP 0 rfl rfl 0 (by decide) (hts (.fieldLink RX3 9 "DecreasingDiagrams$LabelledSystem" "objects" "I") (List.mem_of_getElem? (i := 1) rfl)) rfl dX3_objectOf_4 ?_
      refine lv_icmp_ge (tgt := 28) hx hb dX3_objectOf_7 (by decide) (fun c_7 => ?_) (fun c_7 => ?_)
      · have hf := it_pos c_7 hf
        refine lv_bipush (v := -2) hx hb dX3_objectOf_28 (by decide) ?_
        have hf := Option.some.inj hf
        rewrite [← hQ, ← hf]
        exact x_iret hx hb hr hlocks hP hS dX3_objectOf_30
      · have hf := it_neg c_7 hf
        refine lv_aload_n hx hb dX3_objectOf_10 rfl (lv_at hl 0 rfl) ?_
        refine x_get hx hb hts u_X3_objectOf_X3 hown hE hP 0 rfl rfl 1 (by decide) (hts (.fieldLink RX3 15 "DecreasingDiagrams$LabelledSystem" "words" "[I") (List.mem_of_getElem? (i := 2) rfl)) rfl dX3_objectOf_11 ?_
        refine lv_iload_n hx hb dX3_objectOf_14 rfl (lv_at hl 2 rfl) ?_
        obtain ⟨hi, hf⟩ := ck_some hf
        refine x_iald hx hb hE hP 1 rfl hi dX3_objectOf_15 ?_
        refine lv_iload_n hx hb dX3_objectOf_16 rfl (lv_at hl 1 rfl) ?_
        refine lv_icmp_ne (tgt := 22) hx hb dX3_objectOf_17 (by decide) (fun c_17 => ?_) (fun c_17 => ?_)
        · have hf := it_pos c_17 hf
          obtain ⟨v2_22, e_v2_22, hf⟩ := lt_some hf
          refine lv_iinc (v := v2_22) (lv' := [(2, .int v2_22), (0, .ref h), (1, .int v1)]) hx hb dX3_objectOf_22 hl (k := 2) rfl (by rw [e_v2_22]; rfl) (by decide) rfl (fun ls hl => ?_)
          refine lv_goto (tgt := 2) hx hb dX3_objectOf_25 (by decide) ?_
          exact ih_2 v2_22 H locs ls hP hS (lv_sub hl [1, 2, 0] rfl) hf
        · have hf := it_neg (fun h => h c_17) hf
          refine lv_iload_n hx hb dX3_objectOf_20 rfl (lv_at hl 2 rfl) ?_
          have hf := Option.some.inj hf
          rewrite [← hQ, ← hf]
          exact x_iret hx hb hr hlocks hP hS dX3_objectOf_21
  refine lv_iconst (v := 0) hx hb dX3_objectOf_0 (by decide) ?_
  obtain ⟨v2_1, e_v2_1, hf⟩ := lt_some hf
  refine x_istore_n (v := v2_1) (lv' := [(2, .int v2_1), (0, .ref h), (1, .int v1)]) hx hb dX3_objectOf_1 e_v2_1 rfl hl (by decide) rfl (fun ls hl => ?_)
  exact L2    fu v2_1 H locs ls hP hS (lv_sub hl [1, 2, 0] rfl) hf

set_option maxRecDepth 20000 in
theorem u_X3_appendObject_X3 : ∀ w ∈ wsX30, w ∈ wsX3_appendObject := xx_pl _ [3, 4, 5, 6, 7, 8] (by decide +kernel)
def f_X3_appendObject (objects : Int32) (words : (Nat → Int32)) (v1 : Int32) : Option (Int32 × Int32 × (Nat → Int32)) :=
  if objects < 16 then (ck objects 16 (lt (upd words objects.toNatClampNeg v1) (fun words_21 => lt (objects + 1) (fun objects_29 => some (objects_29 - 1, objects_29, words_21))))) else (some ((-3), objects, words))
set_option maxHeartbeats 4000000 in
set_option maxRecDepth 100000 in
theorem k_X3_appendObject (l : Launch) (D : va_G) (G : Nat → ClassId) (fu : Nat) (h : Nat) (a_words : Nat) (a_sources : Nat) (a_targets : Nat) (a_labels : Nat) (objects : Int32) (steps : Int32) (words : (Nat → Int32))  (v1 : Int32) (out : Int32 × Int32 × (Nat → Int32)) (hf : f_X3_appendObject objects words v1 = some out) : xMet l yX3_appendObject wsX3_appendObject (rM 0 0) D G [.ref h, .int v1] [[(h, .inr (3, [.int objects, .ref a_words, .int steps, .ref a_sources, .ref a_targets, .ref a_labels]))], [(a_words, .inl (G 0, 16, .inl words))]] (xQi D [[(h, .inr (3, [.int out.2.1, .ref a_words, .int steps, .ref a_sources, .ref a_targets, .ref a_labels]))], [(a_words, .inl (G 0, 16, .inl out.2.2))]] out.1) := by
  refine x_ent (cc := cX3_appendObject) (maxL := 2) (by decide) rfl (Nat.le_of_ble_eq_true rfl) ?_
  intro p e s m blw meth c aa ls args Q H locs hQ hx hb hr hml hown hts hlocks hE hN hl hP hS
  have hown : s.vm.findClass RX3 = some m.cls := hown
  have hl : lv_has ls 2 [(0, .ref h), (1, .int v1)] := hl
  refine lv_aload_n hx hb dX3_appendObject_0 rfl (lv_at hl 0 rfl) ?_
  refine x_get hx hb hts u_X3_appendObject_X3 hown hE hP 0 rfl rfl 0 (by decide) (hts (.fieldLink RX3 9 "DecreasingDiagrams$LabelledSystem" "objects" "I") (List.mem_of_getElem? (i := 1) rfl)) rfl dX3_appendObject_1 ?_
  refine lv_bipush (v := 16) hx hb dX3_appendObject_4 (by decide) ?_
  refine lv_icmp_lt (tgt := 12) hx hb dX3_appendObject_6 (by decide) (fun c_6 => ?_) (fun c_6 => ?_)
  · have hf := it_pos c_6 hf
    refine lv_aload_n hx hb dX3_appendObject_12 rfl (lv_at hl 0 rfl) ?_
    refine x_get hx hb hts u_X3_appendObject_X3 hown hE hP 0 rfl rfl 1 (by decide) (hts (.fieldLink RX3 15 "DecreasingDiagrams$LabelledSystem" "words" "[I") (List.mem_of_getElem? (i := 2) rfl)) rfl dX3_appendObject_13 ?_
    refine lv_aload_n hx hb dX3_appendObject_16 rfl (lv_at hl 0 rfl) ?_
    refine x_get hx hb hts u_X3_appendObject_X3 hown hE hP 0 rfl rfl 0 (by decide) (hts (.fieldLink RX3 9 "DecreasingDiagrams$LabelledSystem" "objects" "I") (List.mem_of_getElem? (i := 1) rfl)) rfl dX3_appendObject_17 ?_
    refine lv_iload_n hx hb dX3_appendObject_20 rfl (lv_at hl 1 rfl) ?_
    obtain ⟨hi, hf⟩ := ck_some hf
    obtain ⟨words_21, e_words_21, hf⟩ := lt_some hf
    refine x_iast (I' := [[(h, .inr (3, [.int objects, .ref a_words, .int steps, .ref a_sources, .ref a_targets, .ref a_labels]))], [(a_words, .inl (G 0, 16, .inl words_21))]]) hx hb hE hP hN hS 1 rfl hi e_words_21 rfl dX3_appendObject_21 (fun H locs hP hS => ?_)
    refine lv_aload_n hx hb dX3_appendObject_22 rfl (lv_at hl 0 rfl) ?_
    refine lv_dup hx hb dX3_appendObject_23 rfl ?_
    refine x_get hx hb hts u_X3_appendObject_X3 hown hE hP 0 rfl rfl 0 (by decide) (hts (.fieldLink RX3 9 "DecreasingDiagrams$LabelledSystem" "objects" "I") (List.mem_of_getElem? (i := 1) rfl)) rfl dX3_appendObject_24 ?_
    refine lv_iconst (v := 1) hx hb dX3_appendObject_27 (by decide) ?_
    refine lv_iadd hx hb dX3_appendObject_28 ?_
    obtain ⟨objects_29, e_objects_29, hf⟩ := lt_some hf
    refine x_put (w := .int objects_29) (ty := .int) (I' := [[(h, .inr (3, [.int objects_29, .ref a_words, .int steps, .ref a_sources, .ref a_targets, .ref a_labels]))], [(a_words, .inl (G 0, 16, .inl words_21))]]) hx hb hts u_X3_appendObject_X3 tyX3 tyX3_ok nmX3 hown hE hP hN hS 0 rfl rfl 0 (by decide) (hts (.fieldLink RX3 9 "DecreasingDiagrams$LabelledSystem" "objects" "I") (List.mem_of_getElem? (i := 1) rfl)) rfl (congrArg Value.int e_objects_29) (by decide +kernel) rfl rfl (Nat.le_of_ble_eq_true rfl) rfl dX3_appendObject_29 (fun H locs hP hS => ?_)
    refine lv_aload_n hx hb dX3_appendObject_32 rfl (lv_at hl 0 rfl) ?_
    refine x_get hx hb hts u_X3_appendObject_X3 hown hE hP 0 rfl rfl 0 (by decide) (hts (.fieldLink RX3 9 "DecreasingDiagrams$LabelledSystem" "objects" "I") (List.mem_of_getElem? (i := 1) rfl)) rfl dX3_appendObject_33 ?_
    refine lv_iconst (v := 1) hx hb dX3_appendObject_36 (by decide) ?_
    refine lv_isub hx hb dX3_appendObject_37 ?_
    have hf := Option.some.inj hf
    rewrite [← hQ, ← hf]
    exact x_iret hx hb hr hlocks hP hS dX3_appendObject_38
  · have hf := it_neg c_6 hf
    refine lv_bipush (v := -3) hx hb dX3_appendObject_9 (by decide) ?_
    have hf := Option.some.inj hf
    rewrite [← hQ, ← hf]
    exact x_iret hx hb hr hlocks hP hS dX3_appendObject_11

set_option maxRecDepth 20000 in
theorem u_X3_isJoined_X3 : ∀ w ∈ wsX30, w ∈ wsX3_isJoined := xx_pl _ [5, 6, 7, 8, 9, 10] (by decide +kernel)
def f_X3_isJoined_J47 (rec_3 : (Int32 → Option (Int32))) (v4 : Int32) : Option (Int32) :=
  lt (v4 + 1) (fun v4_47 => rec_3 v4_47)
def f_X3_isJoined_L3 (steps : Int32) (labels : (Nat → Int32)) (sources : (Nat → Int32)) (targets : (Nat → Int32)) (v1 : Int32) (v2 : Int32) (v3 : Int32) (rec_3 : Int32 → Option (Int32)) (v4 : Int32) : Option (Int32) :=
  if steps ≤ v4 then (some 0) else (ck v4 32 (if ¬ (sources v4.toNatClampNeg) = v1 then (f_X3_isJoined_J47 rec_3 v4) else (ck v4 32 (if ¬ (targets v4.toNatClampNeg) = v2 then (f_X3_isJoined_J47 rec_3 v4) else (ck v4 32 (if ¬ (labels v4.toNatClampNeg) = v3 then (f_X3_isJoined_J47 rec_3 v4) else (some 1)))))))
def f_X3_isJoined (fu : Nat) (steps : Int32) (labels : (Nat → Int32)) (sources : (Nat → Int32)) (targets : (Nat → Int32)) (v1 : Int32) (v2 : Int32) (v3 : Int32) : Option (Int32) :=
  lt (0 : Int32) (fun v4_1 => lp (τ := Int32 → Option (Int32)) (fun _ => none) (f_X3_isJoined_L3 steps labels sources targets v1 v2 v3) fu v4_1)
set_option maxHeartbeats 4000000 in
set_option maxRecDepth 100000 in
theorem k_X3_isJoined (l : Launch) (D : va_G) (G : Nat → ClassId) (fu : Nat) (h : Nat) (a_words : Nat) (a_sources : Nat) (a_targets : Nat) (a_labels : Nat) (objects : Int32) (steps : Int32) (labels : (Nat → Int32)) (sources : (Nat → Int32)) (targets : (Nat → Int32))  (v1 : Int32) (v2 : Int32) (v3 : Int32) (out : Int32) (hf : f_X3_isJoined fu steps labels sources targets v1 v2 v3 = some out) : xMet l yX3_isJoined wsX3_isJoined (rM 0 0) D G [.ref h, .int v1, .int v2, .int v3] [[(h, .inr (3, [.int objects, .ref a_words, .int steps, .ref a_sources, .ref a_targets, .ref a_labels]))], [(a_labels, .inl (G 0, 32, .inl labels))], [(a_sources, .inl (G 0, 32, .inl sources))], [(a_targets, .inl (G 0, 32, .inl targets))]] (xQi D [[(h, .inr (3, [.int objects, .ref a_words, .int steps, .ref a_sources, .ref a_targets, .ref a_labels]))], [(a_labels, .inl (G 0, 32, .inl labels))], [(a_sources, .inl (G 0, 32, .inl sources))], [(a_targets, .inl (G 0, 32, .inl targets))]] out) := by
  refine x_ent (cc := cX3_isJoined) (maxL := 5) (by decide) rfl (Nat.le_of_ble_eq_true rfl) ?_
  intro p e s m blw meth c aa ls args Q H locs hQ hx hb hr hml hown hts hlocks hE hN hl hP hS
  have hown : s.vm.findClass RX3 = some m.cls := hown
  have hl : lv_has ls 5 [(0, .ref h), (1, .int v1), (2, .int v2), (3, .int v3)] := hl
  have L3 : ∀ (n_3 : Nat) (v4 : Int32) (H : Heap) (locs : List Loc) (ls : Array Slot), xW D aa [[(h, .inr (3, [.int objects, .ref a_words, .int steps, .ref a_sources, .ref a_targets, .ref a_labels]))], [(a_labels, .inl (G 0, 32, .inl labels))], [(a_sources, .inl (G 0, 32, .inl sources))], [(a_targets, .inl (G 0, 32, .inl targets))]] H → va_S (xA aa) s.heap H locs → lv_has ls 5 [(0, .ref h), (1, .int v1), (2, .int v2), (3, .int v3), (4, .int v4)] → lp (τ := Int32 → Option (Int32)) (fun _ => none) (f_X3_isJoined_L3 steps labels sources targets v1 v2 v3) n_3 v4 = some out → W p l e (rM 0 0) s m args blw meth c H locs 0 0 Q (F0 m 3 ls []) := by
    intro    n_3
    induction n_3 with
    | zero =>
      intro v4 H locs ls hP hS hl hf
      exact no_some hf
    | succ n_3 ih_3 =>
      intro v4 H locs ls hP hS hl hf
      have hf : f_X3_isJoined_L3 steps labels sources targets v1 v2 v3 (lp (τ := Int32 → Option (Int32)) (fun _ => none) (f_X3_isJoined_L3 steps labels sources targets v1 v2 v3) n_3) v4 = some out := hf
      have J47 : ∀ (v4 : Int32) (H : Heap) (locs : List Loc) (ls : Array Slot), xW D aa [[(h, .inr (3, [.int objects, .ref a_words, .int steps, .ref a_sources, .ref a_targets, .ref a_labels]))], [(a_labels, .inl (G 0, 32, .inl labels))], [(a_sources, .inl (G 0, 32, .inl sources))], [(a_targets, .inl (G 0, 32, .inl targets))]] H → va_S (xA aa) s.heap H locs → lv_has ls 5 [(0, .ref h), (1, .int v1), (2, .int v2), (3, .int v3), (4, .int v4)] → f_X3_isJoined_J47 (lp (τ := Int32 → Option (Int32)) (fun _ => none) (f_X3_isJoined_L3 steps labels sources targets v1 v2 v3) n_3) v4 = some out → W p l e (rM 0 0) s m args blw meth c H locs 0 0 Q (F0 m 47 ls []) := by
        intro v4  H locs ls  hP hS hl hf
        obtain ⟨v4_47, e_v4_47, hf⟩ := lt_some hf
        refine lv_iinc (v := v4_47) (lv' := [(4, .int v4_47), (0, .ref h), (1, .int v1), (2, .int v2), (3, .int v3)]) hx hb dX3_isJoined_47 hl (k := 4) rfl (by rw [e_v4_47]; rfl) (by decide) rfl (fun ls hl => ?_)
        refine lv_goto (tgt := 3) hx hb dX3_isJoined_50 (by decide) ?_
        exact ih_3 v4_47 H locs ls hP hS (lv_sub hl [1, 2, 3, 4, 0] rfl) hf
      refine lv_iload hx hb dX3_isJoined_3 (lv_at hl 4 rfl) ?_
      refine lv_aload_n hx hb dX3_isJoined_5 rfl (lv_at hl 0 rfl) ?_
      refine x_get hx hb hts u_X3_isJoined_X3 hown hE hP 0 rfl rfl 2 (by decide) (hts (.fieldLink RX3 19 "DecreasingDiagrams$LabelledSystem" "steps" "I") (List.mem_of_getElem? (i := 1) rfl)) rfl dX3_isJoined_6 ?_
      refine lv_icmp_ge (tgt := 53) hx hb dX3_isJoined_9 (by decide) (fun c_9 => ?_) (fun c_9 => ?_)
      · have hf := it_pos c_9 hf
        refine lv_iconst (v := 0) hx hb dX3_isJoined_53 (by decide) ?_
        have hf := Option.some.inj hf
        rewrite [← hQ, ← hf]
        exact x_zret (r := 0) hx hb hr hlocks rfl hP hS dX3_isJoined_54
      · have hf := it_neg c_9 hf
        refine lv_aload_n hx hb dX3_isJoined_12 rfl (lv_at hl 0 rfl) ?_
        refine x_get hx hb hts u_X3_isJoined_X3 hown hE hP 0 rfl rfl 3 (by decide) (hts (.fieldLink RX3 22 "DecreasingDiagrams$LabelledSystem" "sources" "[I") (List.mem_of_getElem? (i := 2) rfl)) rfl dX3_isJoined_13 ?_
        refine lv_iload hx hb dX3_isJoined_16 (lv_at hl 4 rfl) ?_
        obtain ⟨hi, hf⟩ := ck_some hf
        refine x_iald hx hb hE hP 2 rfl hi dX3_isJoined_18 ?_
        refine lv_iload_n hx hb dX3_isJoined_19 rfl (lv_at hl 1 rfl) ?_
        refine lv_icmp_ne (tgt := 47) hx hb dX3_isJoined_20 (by decide) (fun c_20 => ?_) (fun c_20 => ?_)
        · have hf := it_pos c_20 hf
          exact J47 v4  H locs ls  hP hS (lv_sub hl [0, 1, 2, 3, 4] rfl) hf
        · have hf := it_neg (fun h => h c_20) hf
          refine lv_aload_n hx hb dX3_isJoined_23 rfl (lv_at hl 0 rfl) ?_
          refine x_get hx hb hts u_X3_isJoined_X3 hown hE hP 0 rfl rfl 4 (by decide) (hts (.fieldLink RX3 25 "DecreasingDiagrams$LabelledSystem" "targets" "[I") (List.mem_of_getElem? (i := 3) rfl)) rfl dX3_isJoined_24 ?_
          refine lv_iload hx hb dX3_isJoined_27 (lv_at hl 4 rfl) ?_
          obtain ⟨hi, hf⟩ := ck_some hf
          refine x_iald hx hb hE hP 3 rfl hi dX3_isJoined_29 ?_
          refine lv_iload_n hx hb dX3_isJoined_30 rfl (lv_at hl 2 rfl) ?_
          refine lv_icmp_ne (tgt := 47) hx hb dX3_isJoined_31 (by decide) (fun c_31 => ?_) (fun c_31 => ?_)
          · have hf := it_pos c_31 hf
            exact J47 v4  H locs ls  hP hS (lv_sub hl [0, 1, 2, 3, 4] rfl) hf
          · have hf := it_neg (fun h => h c_31) hf
            refine lv_aload_n hx hb dX3_isJoined_34 rfl (lv_at hl 0 rfl) ?_
            refine x_get hx hb hts u_X3_isJoined_X3 hown hE hP 0 rfl rfl 5 (by decide) (hts (.fieldLink RX3 28 "DecreasingDiagrams$LabelledSystem" "labels" "[I") (List.mem_of_getElem? (i := 4) rfl)) rfl dX3_isJoined_35 ?_
            refine lv_iload hx hb dX3_isJoined_38 (lv_at hl 4 rfl) ?_
            obtain ⟨hi, hf⟩ := ck_some hf
            refine x_iald hx hb hE hP 1 rfl hi dX3_isJoined_40 ?_
            refine lv_iload_n hx hb dX3_isJoined_41 rfl (lv_at hl 3 rfl) ?_
            refine lv_icmp_ne (tgt := 47) hx hb dX3_isJoined_42 (by decide) (fun c_42 => ?_) (fun c_42 => ?_)
            · have hf := it_pos c_42 hf
              exact J47 v4  H locs ls  hP hS (lv_sub hl [0, 1, 2, 3, 4] rfl) hf
            · have hf := it_neg (fun h => h c_42) hf
              refine lv_iconst (v := 1) hx hb dX3_isJoined_45 (by decide) ?_
              have hf := Option.some.inj hf
              rewrite [← hQ, ← hf]
              exact x_zret (r := 1) hx hb hr hlocks rfl hP hS dX3_isJoined_46
  refine lv_iconst (v := 0) hx hb dX3_isJoined_0 (by decide) ?_
  obtain ⟨v4_1, e_v4_1, hf⟩ := lt_some hf
  refine x_istore (v := v4_1) (lv' := [(4, .int v4_1), (0, .ref h), (1, .int v1), (2, .int v2), (3, .int v3)]) hx hb dX3_isJoined_1 e_v4_1 hl (by decide) rfl (fun ls hl => ?_)
  exact L3    fu v4_1 H locs ls hP hS (lv_sub hl [1, 2, 3, 4, 0] rfl) hf

set_option maxRecDepth 20000 in
theorem u_X3_appendStep_X3 : ∀ w ∈ wsX30, w ∈ wsX3_appendStep := xx_pl _ [5, 6, 7, 8, 9, 10] (by decide +kernel)
def f_X3_appendStep (steps : Int32) (labels : (Nat → Int32)) (sources : (Nat → Int32)) (targets : (Nat → Int32)) (v1 : Int32) (v2 : Int32) (v3 : Int32) : Option (Int32 × (Nat → Int32) × (Nat → Int32) × Int32 × (Nat → Int32)) :=
  if steps < 32 then (ck steps 32 (lt (upd sources steps.toNatClampNeg v1) (fun sources_21 => ck steps 32 (lt (upd targets steps.toNatClampNeg v2) (fun targets_31 => ck steps 32 (lt (upd labels steps.toNatClampNeg v3) (fun labels_41 => lt (steps + 1) (fun steps_49 => some (steps_49 - 1, labels_41, sources_21, steps_49, targets_31))))))))) else (some ((-3), labels, sources, steps, targets))
set_option maxHeartbeats 4000000 in
set_option maxRecDepth 100000 in
theorem k_X3_appendStep (l : Launch) (D : va_G) (G : Nat → ClassId) (fu : Nat) (h : Nat) (a_words : Nat) (a_sources : Nat) (a_targets : Nat) (a_labels : Nat) (objects : Int32) (steps : Int32) (labels : (Nat → Int32)) (sources : (Nat → Int32)) (targets : (Nat → Int32))  (v1 : Int32) (v2 : Int32) (v3 : Int32) (out : Int32 × (Nat → Int32) × (Nat → Int32) × Int32 × (Nat → Int32)) (hf : f_X3_appendStep steps labels sources targets v1 v2 v3 = some out) : xMet l yX3_appendStep wsX3_appendStep (rM 0 0) D G [.ref h, .int v1, .int v2, .int v3] [[(h, .inr (3, [.int objects, .ref a_words, .int steps, .ref a_sources, .ref a_targets, .ref a_labels]))], [(a_labels, .inl (G 0, 32, .inl labels))], [(a_sources, .inl (G 0, 32, .inl sources))], [(a_targets, .inl (G 0, 32, .inl targets))]] (xQi D [[(h, .inr (3, [.int objects, .ref a_words, .int out.2.2.2.1, .ref a_sources, .ref a_targets, .ref a_labels]))], [(a_labels, .inl (G 0, 32, .inl out.2.1))], [(a_sources, .inl (G 0, 32, .inl out.2.2.1))], [(a_targets, .inl (G 0, 32, .inl out.2.2.2.2))]] out.1) := by
  refine x_ent (cc := cX3_appendStep) (maxL := 4) (by decide) rfl (Nat.le_of_ble_eq_true rfl) ?_
  intro p e s m blw meth c aa ls args Q H locs hQ hx hb hr hml hown hts hlocks hE hN hl hP hS
  have hown : s.vm.findClass RX3 = some m.cls := hown
  have hl : lv_has ls 4 [(0, .ref h), (1, .int v1), (2, .int v2), (3, .int v3)] := hl
  refine lv_aload_n hx hb dX3_appendStep_0 rfl (lv_at hl 0 rfl) ?_
  refine x_get hx hb hts u_X3_appendStep_X3 hown hE hP 0 rfl rfl 2 (by decide) (hts (.fieldLink RX3 19 "DecreasingDiagrams$LabelledSystem" "steps" "I") (List.mem_of_getElem? (i := 1) rfl)) rfl dX3_appendStep_1 ?_
  refine lv_bipush (v := 32) hx hb dX3_appendStep_4 (by decide) ?_
  refine lv_icmp_lt (tgt := 12) hx hb dX3_appendStep_6 (by decide) (fun c_6 => ?_) (fun c_6 => ?_)
  · have hf := it_pos c_6 hf
    refine lv_aload_n hx hb dX3_appendStep_12 rfl (lv_at hl 0 rfl) ?_
    refine x_get hx hb hts u_X3_appendStep_X3 hown hE hP 0 rfl rfl 3 (by decide) (hts (.fieldLink RX3 22 "DecreasingDiagrams$LabelledSystem" "sources" "[I") (List.mem_of_getElem? (i := 2) rfl)) rfl dX3_appendStep_13 ?_
    refine lv_aload_n hx hb dX3_appendStep_16 rfl (lv_at hl 0 rfl) ?_
    refine x_get hx hb hts u_X3_appendStep_X3 hown hE hP 0 rfl rfl 2 (by decide) (hts (.fieldLink RX3 19 "DecreasingDiagrams$LabelledSystem" "steps" "I") (List.mem_of_getElem? (i := 1) rfl)) rfl dX3_appendStep_17 ?_
    refine lv_iload_n hx hb dX3_appendStep_20 rfl (lv_at hl 1 rfl) ?_
    obtain ⟨hi, hf⟩ := ck_some hf
    obtain ⟨sources_21, e_sources_21, hf⟩ := lt_some hf
    refine x_iast (I' := [[(h, .inr (3, [.int objects, .ref a_words, .int steps, .ref a_sources, .ref a_targets, .ref a_labels]))], [(a_labels, .inl (G 0, 32, .inl labels))], [(a_sources, .inl (G 0, 32, .inl sources_21))], [(a_targets, .inl (G 0, 32, .inl targets))]]) hx hb hE hP hN hS 2 rfl hi e_sources_21 rfl dX3_appendStep_21 (fun H locs hP hS => ?_)
    refine lv_aload_n hx hb dX3_appendStep_22 rfl (lv_at hl 0 rfl) ?_
    refine x_get hx hb hts u_X3_appendStep_X3 hown hE hP 0 rfl rfl 4 (by decide) (hts (.fieldLink RX3 25 "DecreasingDiagrams$LabelledSystem" "targets" "[I") (List.mem_of_getElem? (i := 3) rfl)) rfl dX3_appendStep_23 ?_
    refine lv_aload_n hx hb dX3_appendStep_26 rfl (lv_at hl 0 rfl) ?_
    refine x_get hx hb hts u_X3_appendStep_X3 hown hE hP 0 rfl rfl 2 (by decide) (hts (.fieldLink RX3 19 "DecreasingDiagrams$LabelledSystem" "steps" "I") (List.mem_of_getElem? (i := 1) rfl)) rfl dX3_appendStep_27 ?_
    refine lv_iload_n hx hb dX3_appendStep_30 rfl (lv_at hl 2 rfl) ?_
    obtain ⟨hi, hf⟩ := ck_some hf
    obtain ⟨targets_31, e_targets_31, hf⟩ := lt_some hf
    refine x_iast (I' := [[(h, .inr (3, [.int objects, .ref a_words, .int steps, .ref a_sources, .ref a_targets, .ref a_labels]))], [(a_labels, .inl (G 0, 32, .inl labels))], [(a_sources, .inl (G 0, 32, .inl sources_21))], [(a_targets, .inl (G 0, 32, .inl targets_31))]]) hx hb hE hP hN hS 3 rfl hi e_targets_31 rfl dX3_appendStep_31 (fun H locs hP hS => ?_)
    refine lv_aload_n hx hb dX3_appendStep_32 rfl (lv_at hl 0 rfl) ?_
    refine x_get hx hb hts u_X3_appendStep_X3 hown hE hP 0 rfl rfl 5 (by decide) (hts (.fieldLink RX3 28 "DecreasingDiagrams$LabelledSystem" "labels" "[I") (List.mem_of_getElem? (i := 4) rfl)) rfl dX3_appendStep_33 ?_
    refine lv_aload_n hx hb dX3_appendStep_36 rfl (lv_at hl 0 rfl) ?_
    refine x_get hx hb hts u_X3_appendStep_X3 hown hE hP 0 rfl rfl 2 (by decide) (hts (.fieldLink RX3 19 "DecreasingDiagrams$LabelledSystem" "steps" "I") (List.mem_of_getElem? (i := 1) rfl)) rfl dX3_appendStep_37 ?_
    refine lv_iload_n hx hb dX3_appendStep_40 rfl (lv_at hl 3 rfl) ?_
    obtain ⟨hi, hf⟩ := ck_some hf
    obtain ⟨labels_41, e_labels_41, hf⟩ := lt_some hf
    refine x_iast (I' := [[(h, .inr (3, [.int objects, .ref a_words, .int steps, .ref a_sources, .ref a_targets, .ref a_labels]))], [(a_labels, .inl (G 0, 32, .inl labels_41))], [(a_sources, .inl (G 0, 32, .inl sources_21))], [(a_targets, .inl (G 0, 32, .inl targets_31))]]) hx hb hE hP hN hS 1 rfl hi e_labels_41 rfl dX3_appendStep_41 (fun H locs hP hS => ?_)
    refine lv_aload_n hx hb dX3_appendStep_42 rfl (lv_at hl 0 rfl) ?_
    refine lv_dup hx hb dX3_appendStep_43 rfl ?_
    refine x_get hx hb hts u_X3_appendStep_X3 hown hE hP 0 rfl rfl 2 (by decide) (hts (.fieldLink RX3 19 "DecreasingDiagrams$LabelledSystem" "steps" "I") (List.mem_of_getElem? (i := 1) rfl)) rfl dX3_appendStep_44 ?_
    refine lv_iconst (v := 1) hx hb dX3_appendStep_47 (by decide) ?_
    refine lv_iadd hx hb dX3_appendStep_48 ?_
    obtain ⟨steps_49, e_steps_49, hf⟩ := lt_some hf
    refine x_put (w := .int steps_49) (ty := .int) (I' := [[(h, .inr (3, [.int objects, .ref a_words, .int steps_49, .ref a_sources, .ref a_targets, .ref a_labels]))], [(a_labels, .inl (G 0, 32, .inl labels_41))], [(a_sources, .inl (G 0, 32, .inl sources_21))], [(a_targets, .inl (G 0, 32, .inl targets_31))]]) hx hb hts u_X3_appendStep_X3 tyX3 tyX3_ok nmX3 hown hE hP hN hS 0 rfl rfl 2 (by decide) (hts (.fieldLink RX3 19 "DecreasingDiagrams$LabelledSystem" "steps" "I") (List.mem_of_getElem? (i := 1) rfl)) rfl (congrArg Value.int e_steps_49) (by decide +kernel) rfl rfl (Nat.le_of_ble_eq_true rfl) rfl dX3_appendStep_49 (fun H locs hP hS => ?_)
    refine lv_aload_n hx hb dX3_appendStep_52 rfl (lv_at hl 0 rfl) ?_
    refine x_get hx hb hts u_X3_appendStep_X3 hown hE hP 0 rfl rfl 2 (by decide) (hts (.fieldLink RX3 19 "DecreasingDiagrams$LabelledSystem" "steps" "I") (List.mem_of_getElem? (i := 1) rfl)) rfl dX3_appendStep_53 ?_
    refine lv_iconst (v := 1) hx hb dX3_appendStep_56 (by decide) ?_
    refine lv_isub hx hb dX3_appendStep_57 ?_
    have hf := Option.some.inj hf
    rewrite [← hQ, ← hf]
    exact x_iret hx hb hr hlocks hP hS dX3_appendStep_58
  · have hf := it_neg c_6 hf
    refine lv_bipush (v := -3) hx hb dX3_appendStep_9 (by decide) ?_
    have hf := Option.some.inj hf
    rewrite [← hQ, ← hf]
    exact x_iret hx hb hr hlocks hP hS dX3_appendStep_11

set_option maxRecDepth 20000 in
theorem u_X0_connect_X0 : ∀ w ∈ wsX00, w ∈ wsX0_connect := xx_pl _ [24, 25, 26, 27] (by decide +kernel)
def f_X0_connect_J38 (fu : Nat) (v1 : Int32) (v3 : Int32) (v4 : Int32) (draft_labels : (Nat → Int32)) (draft_objects : Int32) (draft_sources : (Nat → Int32)) (draft_steps : Int32) (draft_targets : (Nat → Int32)) (draft_words : (Nat → Int32)) : Option (Int32 × (Nat → Int32) × (Nat → (Nat → Int32))) :=
  if ¬ v4 = (-3) then ((f_X3_isJoined fu draft_steps draft_labels draft_sources draft_targets v1 v4 v3).bind (fun r_55 => if r_55 = 0 then ((f_X3_appendStep draft_steps draft_labels draft_sources draft_targets v1 v4 v3).bind (fun r_72 => if ¬ r_72.1 = (-3) then (some ((-2), vv (0 : Int32) [draft_objects, r_72.2.2.2.1], vv (fun _ => (0 : Int32)) [r_72.2.1, r_72.2.2.1, r_72.2.2.2.2, draft_words])) else (some (2, vv (0 : Int32) [draft_objects, r_72.2.2.2.1], vv (fun _ => (0 : Int32)) [r_72.2.1, r_72.2.2.1, r_72.2.2.2.2, draft_words])))) else (some ((-2), vv (0 : Int32) [draft_objects, draft_steps], vv (fun _ => (0 : Int32)) [draft_labels, draft_sources, draft_targets, draft_words])))) else (some (1, vv (0 : Int32) [draft_objects, draft_steps], vv (fun _ => (0 : Int32)) [draft_labels, draft_sources, draft_targets, draft_words]))
def f_X0_connect (fu : Nat) (draft_objects : Int32) (draft_steps : Int32) (draft_labels : (Nat → Int32)) (draft_sources : (Nat → Int32)) (draft_targets : (Nat → Int32)) (draft_words : (Nat → Int32)) (v1 : Int32) (v2 : Int32) (v3 : Int32) : Option (Int32 × (Nat → Int32) × (Nat → (Nat → Int32))) :=
  (f_X10_lengthOf fu v2).bind (fun r_1 => if r_1 ≤ 8 then ((f_X3_objectOf fu draft_objects draft_words v2).bind (fun r_16 => lt r_16 (fun v4_19 => if ¬ v4_19 = (-2) then (f_X0_connect_J38 fu v1 v3 v4_19 draft_labels draft_objects draft_sources draft_steps draft_targets draft_words) else ((f_X3_appendObject draft_objects draft_words v2).bind (fun r_33 => lt r_33.1 (fun v4_36 => f_X0_connect_J38 fu v1 v3 v4_36 draft_labels r_33.2.1 draft_sources draft_steps draft_targets r_33.2.2)))))) else (some (0, vv (0 : Int32) [draft_objects, draft_steps], vv (fun _ => (0 : Int32)) [draft_labels, draft_sources, draft_targets, draft_words])))
set_option maxHeartbeats 4000000 in
set_option maxRecDepth 100000 in
theorem k_X0_connect (l : Launch) (D : va_G) (G : Nat → ClassId) (fu : Nat) (h : Nat) (h_draft : Nat) (a_draft_words : Nat) (a_draft_sources : Nat) (a_draft_targets : Nat) (a_draft_labels : Nat) (failedObject : Int32) (failedRule : Int32) (failedLimit : Int32) (draft_objects : Int32) (draft_steps : Int32) (draft_labels : (Nat → Int32)) (draft_sources : (Nat → Int32)) (draft_targets : (Nat → Int32)) (draft_words : (Nat → Int32))  (v1 : Int32) (v2 : Int32) (v3 : Int32) (out : Int32 × (Nat → Int32) × (Nat → (Nat → Int32))) (hf : f_X0_connect fu draft_objects draft_steps draft_labels draft_sources draft_targets draft_words v1 v2 v3 = some out) : xMet l yX0_connect wsX0_connect (rM 1 24) D G [.ref h, .int v1, .int v2, .int v3] [[(h, .inr (0, [.ref h_draft, .int failedObject, .int failedRule, .int failedLimit]))], [(h_draft, .inr (3, [.int draft_objects, .ref a_draft_words, .int draft_steps, .ref a_draft_sources, .ref a_draft_targets, .ref a_draft_labels]))], [(a_draft_labels, .inl (G 0, 32, .inl draft_labels))], [(a_draft_sources, .inl (G 0, 32, .inl draft_sources))], [(a_draft_targets, .inl (G 0, 32, .inl draft_targets))], [(a_draft_words, .inl (G 0, 16, .inl draft_words))]] (xQi D [[(h, .inr (0, [.ref h_draft, .int failedObject, .int failedRule, .int failedLimit]))], [(h_draft, .inr (3, [.int (out.2.1 0), .ref a_draft_words, .int (out.2.1 1), .ref a_draft_sources, .ref a_draft_targets, .ref a_draft_labels]))], [(a_draft_labels, .inl (G 0, 32, .inl (out.2.2 0)))], [(a_draft_sources, .inl (G 0, 32, .inl (out.2.2 1)))], [(a_draft_targets, .inl (G 0, 32, .inl (out.2.2 2)))], [(a_draft_words, .inl (G 0, 16, .inl (out.2.2 3)))]] out.1) := by
  refine x_ent (cc := cX0_connect) (maxL := 5) (by decide) rfl (Nat.le_of_ble_eq_true rfl) ?_
  intro p e s m blw meth c aa ls args Q H locs hQ hx hb hr hml hown hts hlocks hE hN hl hP hS
  have hown : s.vm.findClass RX0 = some m.cls := hown
  have hl : lv_has ls 5 [(0, .ref h), (1, .int v1), (2, .int v2), (3, .int v3)] := hl
  have J38 : ∀ (v4 : Int32) (draft_labels : (Nat → Int32)) (draft_objects : Int32) (draft_sources : (Nat → Int32)) (draft_steps : Int32) (draft_targets : (Nat → Int32)) (draft_words : (Nat → Int32)) (H : Heap) (locs : List Loc) (ls : Array Slot), xW D aa [[(h, .inr (0, [.ref h_draft, .int failedObject, .int failedRule, .int failedLimit]))], [(h_draft, .inr (3, [.int draft_objects, .ref a_draft_words, .int draft_steps, .ref a_draft_sources, .ref a_draft_targets, .ref a_draft_labels]))], [(a_draft_labels, .inl (G 0, 32, .inl draft_labels))], [(a_draft_sources, .inl (G 0, 32, .inl draft_sources))], [(a_draft_targets, .inl (G 0, 32, .inl draft_targets))], [(a_draft_words, .inl (G 0, 16, .inl draft_words))]] H → va_S (xA aa) s.heap H locs → lv_has ls 5 [(0, .ref h), (1, .int v1), (3, .int v3), (4, .int v4)] → f_X0_connect_J38 fu v1 v3 v4 draft_labels draft_objects draft_sources draft_steps draft_targets draft_words = some out → W p l e (rM 1 24) s m args blw meth c H locs 0 0 Q (F0 m 38 ls []) := by
    intro v4 draft_labels draft_objects draft_sources draft_steps draft_targets draft_words  H locs ls  hP hS hl hf
    refine lv_iload hx hb dX0_connect_38 (lv_at hl 3 rfl) ?_
    refine lv_bipush (v := -3) hx hb dX0_connect_40 (by decide) ?_
    refine lv_icmp_ne (tgt := 47) hx hb dX0_connect_42 (by decide) (fun c_42 => ?_) (fun c_42 => ?_)
    · have hf := it_pos c_42 hf
      refine lv_aload_n hx hb dX0_connect_47 rfl (lv_at hl 0 rfl) ?_
      refine x_get hx hb hts u_X0_connect_X0 hown hE hP 0 rfl rfl 0 (by decide) (hts (.fieldLink RX0 12 "DecreasingDiagrams$Explorer" "draft" "LDecreasingDiagrams$LabelledSystem;") (List.mem_of_getElem? (i := 1) rfl)) rfl dX0_connect_48 ?_
      refine lv_iload_n hx hb dX0_connect_51 rfl (lv_at hl 1 rfl) ?_
      refine lv_iload hx hb dX0_connect_52 (lv_at hl 3 rfl) ?_
      refine lv_iload_n hx hb dX0_connect_54 rfl (lv_at hl 2 rfl) ?_
      obtain ⟨r_55, hr_55, hf⟩ := bd_some hf
      refine x_goi0 (ps := [1, 2, 3, 4]) (x_runVN (As := [.int v1, .int v4, .int v3]) (rest := []) (ps := [1, 2, 3, 4]) ⟨hx, hb, hml, hown, hts⟩ (k_X3_isJoined l D G fu h_draft a_draft_words a_draft_sources a_draft_targets a_draft_labels draft_objects draft_steps draft_labels draft_sources draft_targets v1 v4 v3 r_55 hr_55) ⟨va_cnB 3 hts gX0_connect_X3_isJoined_n76 rfl rfl rfl (hE.2 (.methodLinkNest RX0 76 yX3_isJoined RX11) (List.mem_of_getElem? (i := 106) rfl)) (hts (.initialized RX3) (List.mem_of_getElem? (i := 6) rfl)) (by decide +kernel) ⟨Nat.le_of_ble_eq_true rfl, Nat.le_of_ble_eq_true rfl⟩, (hts (.instanceMethod yX3_isJoined) (List.mem_of_getElem? (i := 14) rfl)), (hts (.selects RX3 yX3_isJoined yX3_isJoined) (List.mem_of_getElem? (i := 15) rfl))⟩ hE hP hN rfl (by decide) 1 rfl rfl rfl hl.1 (Nat.le_of_ble_eq_true rfl) dX0_connect_55 ⟨Nat.zero_le _, Nat.zero_le _⟩) hP hN hS rfl (fun H locs hP hS => ?_)
      refine lv_if_eq (tgt := 64) hx hb dX0_connect_58 (by decide) (fun c_58 => ?_) (fun c_58 => ?_)
      · have hf := it_pos c_58 hf
        refine lv_aload_n hx hb dX0_connect_64 rfl (lv_at hl 0 rfl) ?_
        refine x_get hx hb hts u_X0_connect_X0 hown hE hP 0 rfl rfl 0 (by decide) (hts (.fieldLink RX0 12 "DecreasingDiagrams$Explorer" "draft" "LDecreasingDiagrams$LabelledSystem;") (List.mem_of_getElem? (i := 1) rfl)) rfl dX0_connect_65 ?_
        refine lv_iload_n hx hb dX0_connect_68 rfl (lv_at hl 1 rfl) ?_
        refine lv_iload hx hb dX0_connect_69 (lv_at hl 3 rfl) ?_
        refine lv_iload_n hx hb dX0_connect_71 rfl (lv_at hl 2 rfl) ?_
        obtain ⟨r_72, hr_72, hf⟩ := bd_some hf
        refine x_goi (ps := [1, 2, 3, 4]) (qs := [0, 5]) (n := 6) (I' := [[(h, .inr (0, [.ref h_draft, .int failedObject, .int failedRule, .int failedLimit]))], [(h_draft, .inr (3, [.int draft_objects, .ref a_draft_words, .int r_72.2.2.2.1, .ref a_draft_sources, .ref a_draft_targets, .ref a_draft_labels]))], [(a_draft_labels, .inl (G 0, 32, .inl r_72.2.1))], [(a_draft_sources, .inl (G 0, 32, .inl r_72.2.2.1))], [(a_draft_targets, .inl (G 0, 32, .inl r_72.2.2.2.2))], [(a_draft_words, .inl (G 0, 16, .inl draft_words))]]) (x_runVN (As := [.int v1, .int v4, .int v3]) (rest := []) (ps := [1, 2, 3, 4]) ⟨hx, hb, hml, hown, hts⟩ (k_X3_appendStep l D G fu h_draft a_draft_words a_draft_sources a_draft_targets a_draft_labels draft_objects draft_steps draft_labels draft_sources draft_targets v1 v4 v3 r_72 hr_72) ⟨va_cnB 3 hts gX0_connect_X3_appendStep_n79 rfl rfl rfl (hE.2 (.methodLinkNest RX0 79 yX3_appendStep RX11) (List.mem_of_getElem? (i := 107) rfl)) (hts (.initialized RX3) (List.mem_of_getElem? (i := 6) rfl)) (by decide +kernel) ⟨Nat.le_of_ble_eq_true rfl, Nat.le_of_ble_eq_true rfl⟩, (hts (.instanceMethod yX3_appendStep) (List.mem_of_getElem? (i := 21) rfl)), (hts (.selects RX3 yX3_appendStep yX3_appendStep) (List.mem_of_getElem? (i := 22) rfl))⟩ hE hP hN rfl (by decide) 1 rfl rfl rfl hl.1 (Nat.le_of_ble_eq_true rfl) dX0_connect_72 ⟨Nat.zero_le _, Nat.zero_le _⟩) hP hN hS rfl rfl rfl rfl rfl (by decide) (fun H locs hP hS => ?_)
        refine lv_bipush (v := -3) hx hb dX0_connect_75 (by decide) ?_
        refine lv_icmp_ne (tgt := 84) hx hb dX0_connect_77 (by decide) (fun c_77 => ?_) (fun c_77 => ?_)
        · have hf := it_pos c_77 hf
          refine lv_bipush (v := -2) hx hb dX0_connect_84 (by decide) ?_
          have hf := Option.some.inj hf
          rewrite [← hQ, ← hf]
          exact x_iret hx hb hr hlocks hP hS dX0_connect_86
        · have hf := it_neg (fun h => h c_77) hf
          refine lv_iconst (v := 2) hx hb dX0_connect_80 (by decide) ?_
          refine lv_goto (tgt := 86) hx hb dX0_connect_81 (by decide) ?_
          have hf := Option.some.inj hf
          rewrite [← hQ, ← hf]
          exact x_iret hx hb hr hlocks hP hS dX0_connect_86
      · have hf := it_neg c_58 hf
        refine lv_bipush (v := -2) hx hb dX0_connect_61 (by decide) ?_
        have hf := Option.some.inj hf
        rewrite [← hQ, ← hf]
        exact x_iret hx hb hr hlocks hP hS dX0_connect_63
    · have hf := it_neg (fun h => h c_42) hf
      refine lv_iconst (v := 1) hx hb dX0_connect_45 (by decide) ?_
      have hf := Option.some.inj hf
      rewrite [← hQ, ← hf]
      exact x_iret hx hb hr hlocks hP hS dX0_connect_46
  refine lv_iload_n hx hb dX0_connect_0 rfl (lv_at hl 2 rfl) ?_
  obtain ⟨r_1, hr_1, hf⟩ := bd_some hf
  refine x_goi0 (ps := []) (x_runSN (As := [.int v2]) (rest := []) (ps := []) ⟨hx, hb, hml, hown, hts⟩ (k_X10_lengthOf l D G fu v2 r_1 hr_1) ⟨va_cnB 1 hts gX0_connect_X10_lengthOf_n57 rfl rfl rfl (hE.2 (.methodLinkNest RX0 57 yX10_lengthOf RX11) (List.mem_of_getElem? (i := 102) rfl)) (hts (.initialized RX10) (List.mem_of_getElem? (i := 3) rfl)) (by decide +kernel) ⟨Nat.le_of_ble_eq_true rfl, Nat.le_of_ble_eq_true rfl⟩, (hts (.static yX10_lengthOf) (List.mem_of_getElem? (i := 2) rfl)), trivial⟩ hE hP hN rfl (by decide) rfl hl.1 (Nat.le_of_ble_eq_true rfl) dX0_connect_1 ⟨Nat.zero_le _, Nat.zero_le _⟩) hP hN hS rfl (fun H locs hP hS => ?_)
  refine lv_bipush (v := 8) hx hb dX0_connect_4 (by decide) ?_
  refine lv_icmp_le (tgt := 11) hx hb dX0_connect_6 (by decide) (fun c_6 => ?_) (fun c_6 => ?_)
  · have hf := it_pos c_6 hf
    refine lv_aload_n hx hb dX0_connect_11 rfl (lv_at hl 0 rfl) ?_
    refine x_get hx hb hts u_X0_connect_X0 hown hE hP 0 rfl rfl 0 (by decide) (hts (.fieldLink RX0 12 "DecreasingDiagrams$Explorer" "draft" "LDecreasingDiagrams$LabelledSystem;") (List.mem_of_getElem? (i := 1) rfl)) rfl dX0_connect_12 ?_
    refine lv_iload_n hx hb dX0_connect_15 rfl (lv_at hl 2 rfl) ?_
    obtain ⟨r_16, hr_16, hf⟩ := bd_some hf
    refine x_goi0 (ps := [1, 5]) (x_runVN (As := [.int v2]) (rest := []) (ps := [1, 5]) ⟨hx, hb, hml, hown, hts⟩ (k_X3_objectOf l D G fu h_draft a_draft_words a_draft_sources a_draft_targets a_draft_labels draft_objects draft_steps draft_words v2 r_16 hr_16) ⟨va_cnB 1 hts gX0_connect_X3_objectOf_n73 rfl rfl rfl (hE.2 (.methodLinkNest RX0 73 yX3_objectOf RX11) (List.mem_of_getElem? (i := 105) rfl)) (hts (.initialized RX3) (List.mem_of_getElem? (i := 6) rfl)) (by decide +kernel) ⟨Nat.le_of_ble_eq_true rfl, Nat.le_of_ble_eq_true rfl⟩, (hts (.instanceMethod yX3_objectOf) (List.mem_of_getElem? (i := 5) rfl)), (hts (.selects RX3 yX3_objectOf yX3_objectOf) (List.mem_of_getElem? (i := 7) rfl))⟩ hE hP hN rfl (by decide) 1 rfl rfl rfl hl.1 (Nat.le_of_ble_eq_true rfl) dX0_connect_16 ⟨Nat.zero_le _, Nat.zero_le _⟩) hP hN hS rfl (fun H locs hP hS => ?_)
    obtain ⟨v4_19, e_v4_19, hf⟩ := lt_some hf
    refine x_istore (v := v4_19) (lv' := [(4, .int v4_19), (0, .ref h), (1, .int v1), (2, .int v2), (3, .int v3)]) hx hb dX0_connect_19 e_v4_19 hl (by decide) rfl (fun ls hl => ?_)
    refine lv_iload hx hb dX0_connect_21 (lv_at hl 0 rfl) ?_
    refine lv_bipush (v := -2) hx hb dX0_connect_23 (by decide) ?_
    refine lv_icmp_ne (tgt := 38) hx hb dX0_connect_25 (by decide) (fun c_25 => ?_) (fun c_25 => ?_)
    · have hf := it_pos c_25 hf
      exact J38 v4_19 draft_labels draft_objects draft_sources draft_steps draft_targets draft_words  H locs ls  hP hS (lv_sub hl [1, 2, 4, 0] rfl) hf
    · have hf := it_neg (fun h => h c_25) hf
      refine lv_aload_n hx hb dX0_connect_28 rfl (lv_at hl 1 rfl) ?_
      refine x_get hx hb hts u_X0_connect_X0 hown hE hP 0 rfl rfl 0 (by decide) (hts (.fieldLink RX0 12 "DecreasingDiagrams$Explorer" "draft" "LDecreasingDiagrams$LabelledSystem;") (List.mem_of_getElem? (i := 1) rfl)) rfl dX0_connect_29 ?_
      refine lv_iload_n hx hb dX0_connect_32 rfl (lv_at hl 3 rfl) ?_
      obtain ⟨r_33, hr_33, hf⟩ := bd_some hf
      refine x_goi (ps := [1, 5]) (qs := [0, 2, 3, 4]) (n := 6) (I' := [[(h, .inr (0, [.ref h_draft, .int failedObject, .int failedRule, .int failedLimit]))], [(h_draft, .inr (3, [.int r_33.2.1, .ref a_draft_words, .int draft_steps, .ref a_draft_sources, .ref a_draft_targets, .ref a_draft_labels]))], [(a_draft_labels, .inl (G 0, 32, .inl draft_labels))], [(a_draft_sources, .inl (G 0, 32, .inl draft_sources))], [(a_draft_targets, .inl (G 0, 32, .inl draft_targets))], [(a_draft_words, .inl (G 0, 16, .inl r_33.2.2))]]) (x_runVN (As := [.int v2]) (rest := []) (ps := [1, 5]) ⟨hx, hb, hml, hown, hts⟩ (k_X3_appendObject l D G fu h_draft a_draft_words a_draft_sources a_draft_targets a_draft_labels draft_objects draft_steps draft_words v2 r_33 hr_33) ⟨va_cnB 1 hts gX0_connect_X3_appendObject_n31 rfl rfl rfl (hE.2 (.methodLinkNest RX0 31 yX3_appendObject RX11) (List.mem_of_getElem? (i := 101) rfl)) (hts (.initialized RX3) (List.mem_of_getElem? (i := 6) rfl)) (by decide +kernel) ⟨Nat.le_of_ble_eq_true rfl, Nat.le_of_ble_eq_true rfl⟩, (hts (.instanceMethod yX3_appendObject) (List.mem_of_getElem? (i := 11) rfl)), (hts (.selects RX3 yX3_appendObject yX3_appendObject) (List.mem_of_getElem? (i := 12) rfl))⟩ hE hP hN rfl (by decide) 1 rfl rfl rfl hl.1 (Nat.le_of_ble_eq_true rfl) dX0_connect_33 ⟨Nat.zero_le _, Nat.zero_le _⟩) hP hN hS rfl rfl rfl rfl rfl (by decide) (fun H locs hP hS => ?_)
      obtain ⟨v4_36, e_v4_36, hf⟩ := lt_some hf
      refine x_istore (v := v4_36) (lv' := [(4, .int v4_36), (0, .ref h), (1, .int v1), (2, .int v2), (3, .int v3)]) hx hb dX0_connect_36 e_v4_36 hl (by decide) rfl (fun ls hl => ?_)
      exact J38 v4_36 draft_labels r_33.2.1 draft_sources draft_steps draft_targets r_33.2.2  H locs ls  hP hS (lv_sub hl [1, 2, 4, 0] rfl) hf
  · have hf := it_neg c_6 hf
    refine lv_iconst (v := 0) hx hb dX0_connect_9 (by decide) ?_
    have hf := Option.some.inj hf
    rewrite [← hQ, ← hf]
    exact x_iret hx hb hr hlocks hP hS dX0_connect_10

set_option maxRecDepth 20000 in
theorem u_X0_applyEverywhere_X0 : ∀ w ∈ wsX00, w ∈ wsX0_applyEverywhere := xx_pl _ [37, 38, 39, 40] (by decide +kernel)
set_option maxRecDepth 20000 in
theorem u_X0_applyEverywhere_X3 : ∀ w ∈ wsX30, w ∈ wsX0_applyEverywhere := xx_pl _ [41, 42, 43, 44, 45, 46] (by decide +kernel)
def f_X0_applyEverywhere_J72 (rec_26 : (Int32 → (Nat → Int32) → Int32 → (Nat → Int32) → Int32 → (Nat → Int32) → (Nat → Int32) → Option (Int32 × (Nat → Int32) × (Nat → (Nat → Int32))))) (v7 : Int32) (draft_labels : (Nat → Int32)) (draft_objects : Int32) (draft_sources : (Nat → Int32)) (draft_steps : Int32) (draft_targets : (Nat → Int32)) (draft_words : (Nat → Int32)) : Option (Int32 × (Nat → Int32) × (Nat → (Nat → Int32))) :=
  lt (v7 + 1) (fun v7_72 => rec_26 v7_72 draft_labels draft_objects draft_sources draft_steps draft_targets draft_words)
def f_X0_applyEverywhere_L26 (fu : Nat) (v1 : Int32) (v2 : Int32) (v3 : Int32) (v4 : Int32) (v5 : Int32) (v6 : Int32) (rec_26 : Int32 → (Nat → Int32) → Int32 → (Nat → Int32) → Int32 → (Nat → Int32) → (Nat → Int32) → Option (Int32 × (Nat → Int32) × (Nat → (Nat → Int32)))) (v7 : Int32) (draft_labels : (Nat → Int32)) (draft_objects : Int32) (draft_sources : (Nat → Int32)) (draft_steps : Int32) (draft_targets : (Nat → Int32)) (draft_words : (Nat → Int32)) : Option (Int32 × (Nat → Int32) × (Nat → (Nat → Int32))) :=
  if v6 < v7 then (some ((-2), vv (0 : Int32) [draft_objects, draft_steps], vv (fun _ => (0 : Int32)) [draft_labels, draft_sources, draft_targets, draft_words])) else ((f_X10_occurs fu v3 v5 v7).bind (fun r_38 => if r_38 = 0 then (f_X0_applyEverywhere_J72 rec_26 v7 draft_labels draft_objects draft_sources draft_steps draft_targets draft_words) else ((f_X10_replace fu v5 v7 v3 v4).bind (fun r_53 => (f_X0_connect fu draft_objects draft_steps draft_labels draft_sources draft_targets draft_words v1 r_53 v2).bind (fun r_57 => lt r_57.1 (fun v8_60 => if v8_60 = (-2) then (f_X0_applyEverywhere_J72 rec_26 v7 (r_57.2.2 0) (r_57.2.1 0) (r_57.2.2 1) (r_57.2.1 1) (r_57.2.2 2) (r_57.2.2 3)) else (some (v8_60, vv (0 : Int32) [(r_57.2.1 0), (r_57.2.1 1)], vv (fun _ => (0 : Int32)) [(r_57.2.2 0), (r_57.2.2 1), (r_57.2.2 2), (r_57.2.2 3)]))))))))
def f_X0_applyEverywhere (fu : Nat) (draft_objects : Int32) (draft_steps : Int32) (draft_labels : (Nat → Int32)) (draft_sources : (Nat → Int32)) (draft_targets : (Nat → Int32)) (draft_words : (Nat → Int32)) (v1 : Int32) (v2 : Int32) (v3 : Int32) (v4 : Int32) : Option (Int32 × (Nat → Int32) × (Nat → (Nat → Int32))) :=
  ck v1 16 (lt (draft_words v1.toNatClampNeg) (fun v5_9 => (f_X10_lengthOf fu v5_9).bind (fun r_13 => (f_X10_lengthOf fu v3).bind (fun r_17 => lt (r_13 - r_17) (fun v6_21 => lt (0 : Int32) (fun v7_24 => lp (τ := Int32 → (Nat → Int32) → Int32 → (Nat → Int32) → Int32 → (Nat → Int32) → (Nat → Int32) → Option (Int32 × (Nat → Int32) × (Nat → (Nat → Int32)))) (fun _ _ _ _ _ _ _ => none) (f_X0_applyEverywhere_L26 fu v1 v2 v3 v4 v5_9 v6_21) fu v7_24 draft_labels draft_objects draft_sources draft_steps draft_targets draft_words))))))
set_option maxHeartbeats 4000000 in
set_option maxRecDepth 100000 in
theorem k_X0_applyEverywhere (l : Launch) (D : va_G) (G : Nat → ClassId) (fu : Nat) (h : Nat) (h_draft : Nat) (a_draft_words : Nat) (a_draft_sources : Nat) (a_draft_targets : Nat) (a_draft_labels : Nat) (failedObject : Int32) (failedRule : Int32) (failedLimit : Int32) (draft_objects : Int32) (draft_steps : Int32) (draft_labels : (Nat → Int32)) (draft_sources : (Nat → Int32)) (draft_targets : (Nat → Int32)) (draft_words : (Nat → Int32))  (v1 : Int32) (v2 : Int32) (v3 : Int32) (v4 : Int32) (out : Int32 × (Nat → Int32) × (Nat → (Nat → Int32))) (hf : f_X0_applyEverywhere fu draft_objects draft_steps draft_labels draft_sources draft_targets draft_words v1 v2 v3 v4 = some out) : xMet l yX0_applyEverywhere wsX0_applyEverywhere (rM 2 48) D G [.ref h, .int v1, .int v2, .int v3, .int v4] [[(h, .inr (0, [.ref h_draft, .int failedObject, .int failedRule, .int failedLimit]))], [(h_draft, .inr (3, [.int draft_objects, .ref a_draft_words, .int draft_steps, .ref a_draft_sources, .ref a_draft_targets, .ref a_draft_labels]))], [(a_draft_labels, .inl (G 0, 32, .inl draft_labels))], [(a_draft_sources, .inl (G 0, 32, .inl draft_sources))], [(a_draft_targets, .inl (G 0, 32, .inl draft_targets))], [(a_draft_words, .inl (G 0, 16, .inl draft_words))]] (xQi D [[(h, .inr (0, [.ref h_draft, .int failedObject, .int failedRule, .int failedLimit]))], [(h_draft, .inr (3, [.int (out.2.1 0), .ref a_draft_words, .int (out.2.1 1), .ref a_draft_sources, .ref a_draft_targets, .ref a_draft_labels]))], [(a_draft_labels, .inl (G 0, 32, .inl (out.2.2 0)))], [(a_draft_sources, .inl (G 0, 32, .inl (out.2.2 1)))], [(a_draft_targets, .inl (G 0, 32, .inl (out.2.2 2)))], [(a_draft_words, .inl (G 0, 16, .inl (out.2.2 3)))]] out.1) := by
  refine x_ent (cc := cX0_applyEverywhere) (maxL := 9) (by decide) rfl (Nat.le_of_ble_eq_true rfl) ?_
  intro p e s m blw meth c aa ls args Q H locs hQ hx hb hr hml hown hts hlocks hE hN hl hP hS
  have hown : s.vm.findClass RX0 = some m.cls := hown
  have hl : lv_has ls 9 [(0, .ref h), (1, .int v1), (2, .int v2), (3, .int v3), (4, .int v4)] := hl
  have L26 : ∀ (v5 : Int32) (v6 : Int32), ∀ (n_26 : Nat) (v7 : Int32) (draft_labels : (Nat → Int32)) (draft_objects : Int32) (draft_sources : (Nat → Int32)) (draft_steps : Int32) (draft_targets : (Nat → Int32)) (draft_words : (Nat → Int32)) (H : Heap) (locs : List Loc) (ls : Array Slot), xW D aa [[(h, .inr (0, [.ref h_draft, .int failedObject, .int failedRule, .int failedLimit]))], [(h_draft, .inr (3, [.int draft_objects, .ref a_draft_words, .int draft_steps, .ref a_draft_sources, .ref a_draft_targets, .ref a_draft_labels]))], [(a_draft_labels, .inl (G 0, 32, .inl draft_labels))], [(a_draft_sources, .inl (G 0, 32, .inl draft_sources))], [(a_draft_targets, .inl (G 0, 32, .inl draft_targets))], [(a_draft_words, .inl (G 0, 16, .inl draft_words))]] H → va_S (xA aa) s.heap H locs → lv_has ls 9 [(0, .ref h), (1, .int v1), (2, .int v2), (3, .int v3), (4, .int v4), (5, .int v5), (6, .int v6), (7, .int v7)] → lp (τ := Int32 → (Nat → Int32) → Int32 → (Nat → Int32) → Int32 → (Nat → Int32) → (Nat → Int32) → Option (Int32 × (Nat → Int32) × (Nat → (Nat → Int32)))) (fun _ _ _ _ _ _ _ => none) (f_X0_applyEverywhere_L26 fu v1 v2 v3 v4 v5 v6) n_26 v7 draft_labels draft_objects draft_sources draft_steps draft_targets draft_words = some out → W p l e (rM 2 48) s m args blw meth c H locs 0 0 Q (F0 m 26 ls []) := by
    intro v5 v6   n_26
    induction n_26 with
    | zero =>
      intro v7 draft_labels draft_objects draft_sources draft_steps draft_targets draft_words H locs ls hP hS hl hf
      exact no_some hf
    | succ n_26 ih_26 =>
      intro v7 draft_labels draft_objects draft_sources draft_steps draft_targets draft_words H locs ls hP hS hl hf
      have hf : f_X0_applyEverywhere_L26 fu v1 v2 v3 v4 v5 v6 (lp (τ := Int32 → (Nat → Int32) → Int32 → (Nat → Int32) → Int32 → (Nat → Int32) → (Nat → Int32) → Option (Int32 × (Nat → Int32) × (Nat → (Nat → Int32)))) (fun _ _ _ _ _ _ _ => none) (f_X0_applyEverywhere_L26 fu v1 v2 v3 v4 v5 v6) n_26) v7 draft_labels draft_objects draft_sources draft_steps draft_targets draft_words = some out := hf
      have J72 : ∀ (v7 : Int32) (draft_labels : (Nat → Int32)) (draft_objects : Int32) (draft_sources : (Nat → Int32)) (draft_steps : Int32) (draft_targets : (Nat → Int32)) (draft_words : (Nat → Int32)) (H : Heap) (locs : List Loc) (ls : Array Slot), xW D aa [[(h, .inr (0, [.ref h_draft, .int failedObject, .int failedRule, .int failedLimit]))], [(h_draft, .inr (3, [.int draft_objects, .ref a_draft_words, .int draft_steps, .ref a_draft_sources, .ref a_draft_targets, .ref a_draft_labels]))], [(a_draft_labels, .inl (G 0, 32, .inl draft_labels))], [(a_draft_sources, .inl (G 0, 32, .inl draft_sources))], [(a_draft_targets, .inl (G 0, 32, .inl draft_targets))], [(a_draft_words, .inl (G 0, 16, .inl draft_words))]] H → va_S (xA aa) s.heap H locs → lv_has ls 9 [(0, .ref h), (1, .int v1), (2, .int v2), (3, .int v3), (4, .int v4), (5, .int v5), (6, .int v6), (7, .int v7)] → f_X0_applyEverywhere_J72 (lp (τ := Int32 → (Nat → Int32) → Int32 → (Nat → Int32) → Int32 → (Nat → Int32) → (Nat → Int32) → Option (Int32 × (Nat → Int32) × (Nat → (Nat → Int32)))) (fun _ _ _ _ _ _ _ => none) (f_X0_applyEverywhere_L26 fu v1 v2 v3 v4 v5 v6) n_26) v7 draft_labels draft_objects draft_sources draft_steps draft_targets draft_words = some out → W p l e (rM 2 48) s m args blw meth c H locs 0 0 Q (F0 m 72 ls []) := by
        intro v7 draft_labels draft_objects draft_sources draft_steps draft_targets draft_words  H locs ls  hP hS hl hf
        obtain ⟨v7_72, e_v7_72, hf⟩ := lt_some hf
        refine lv_iinc (v := v7_72) (lv' := [(7, .int v7_72), (0, .ref h), (1, .int v1), (2, .int v2), (3, .int v3), (4, .int v4), (5, .int v5), (6, .int v6)]) hx hb dX0_applyEverywhere_72 hl (k := 7) rfl (by rw [e_v7_72]; rfl) (by decide) rfl (fun ls hl => ?_)
        refine lv_goto (tgt := 26) hx hb dX0_applyEverywhere_75 (by decide) ?_
        exact ih_26 v7_72 draft_labels draft_objects draft_sources draft_steps draft_targets draft_words H locs ls hP hS (lv_sub hl [1, 2, 3, 4, 5, 6, 7, 0] rfl) hf
      refine lv_iload hx hb dX0_applyEverywhere_26 (lv_at hl 7 rfl) ?_
      refine lv_iload hx hb dX0_applyEverywhere_28 (lv_at hl 6 rfl) ?_
      refine lv_icmp_gt (tgt := 78) hx hb dX0_applyEverywhere_30 (by decide) (fun c_30 => ?_) (fun c_30 => ?_)
      · have hf := it_pos c_30 hf
        refine lv_bipush (v := -2) hx hb dX0_applyEverywhere_78 (by decide) ?_
        have hf := Option.some.inj hf
        rewrite [← hQ, ← hf]
        exact x_iret hx hb hr hlocks hP hS dX0_applyEverywhere_80
      · have hf := it_neg c_30 hf
        refine lv_iload_n hx hb dX0_applyEverywhere_33 rfl (lv_at hl 3 rfl) ?_
        refine lv_iload hx hb dX0_applyEverywhere_34 (lv_at hl 5 rfl) ?_
        refine lv_iload hx hb dX0_applyEverywhere_36 (lv_at hl 7 rfl) ?_
        obtain ⟨r_38, hr_38, hf⟩ := bd_some hf
        refine x_goi0 (ps := []) (x_runSN (As := [.int v3, .int v5, .int v7]) (rest := []) (ps := []) ⟨hx, hb, hml, hown, hts⟩ (k_X10_occurs l D G fu v3 v5 v7 r_38 hr_38) ⟨va_cnB 3 hts gX0_applyEverywhere_X10_occurs_n62 rfl rfl rfl (hE.2 (.methodLinkNest RX0 62 yX10_occurs RX11) (List.mem_of_getElem? (i := 103) rfl)) (hts (.initialized RX10) (List.mem_of_getElem? (i := 3) rfl)) (by decide +kernel) ⟨Nat.le_of_ble_eq_true rfl, Nat.le_of_ble_eq_true rfl⟩, (hts (.static yX10_occurs) (List.mem_of_getElem? (i := 5) rfl)), trivial⟩ hE hP hN rfl (by decide) rfl hl.1 (Nat.le_of_ble_eq_true rfl) dX0_applyEverywhere_38 ⟨Nat.zero_le _, Nat.zero_le _⟩) hP hN hS rfl (fun H locs hP hS => ?_)
        refine lv_if_eq (tgt := 72) hx hb dX0_applyEverywhere_41 (by decide) (fun c_41 => ?_) (fun c_41 => ?_)
        · have hf := it_pos c_41 hf
          exact J72 v7 draft_labels draft_objects draft_sources draft_steps draft_targets draft_words  H locs ls  hP hS (lv_sub hl [0, 1, 2, 3, 4, 5, 6, 7] rfl) hf
        · have hf := it_neg c_41 hf
          refine lv_aload_n hx hb dX0_applyEverywhere_44 rfl (lv_at hl 0 rfl) ?_
          refine lv_iload_n hx hb dX0_applyEverywhere_45 rfl (lv_at hl 1 rfl) ?_
          refine lv_iload hx hb dX0_applyEverywhere_46 (lv_at hl 5 rfl) ?_
          refine lv_iload hx hb dX0_applyEverywhere_48 (lv_at hl 7 rfl) ?_
          refine lv_iload_n hx hb dX0_applyEverywhere_50 rfl (lv_at hl 3 rfl) ?_
          refine lv_iload hx hb dX0_applyEverywhere_51 (lv_at hl 4 rfl) ?_
          obtain ⟨r_53, hr_53, hf⟩ := bd_some hf
          refine x_goi0 (ps := []) (x_runSN (As := [.int v5, .int v7, .int v3, .int v4]) (rest := [.int v1, .ref h]) (ps := []) ⟨hx, hb, hml, hown, hts⟩ (k_X10_replace l D G fu v5 v7 v3 v4 r_53 hr_53) ⟨va_cnB 4 hts gX0_applyEverywhere_X10_replace_n66 rfl rfl rfl (hE.2 (.methodLinkNest RX0 66 yX10_replace RX11) (List.mem_of_getElem? (i := 104) rfl)) (hts (.initialized RX10) (List.mem_of_getElem? (i := 3) rfl)) (by decide +kernel) ⟨Nat.le_of_ble_eq_true rfl, Nat.le_of_ble_eq_true rfl⟩, (hts (.static yX10_replace) (List.mem_of_getElem? (i := 11) rfl)), trivial⟩ hE hP hN rfl (by decide) rfl hl.1 (Nat.le_of_ble_eq_true rfl) dX0_applyEverywhere_53 ⟨Nat.zero_le _, Nat.zero_le _⟩) hP hN hS rfl (fun H locs hP hS => ?_)
          refine lv_iload_n hx hb dX0_applyEverywhere_56 rfl (lv_at hl 2 rfl) ?_
          obtain ⟨r_57, hr_57, hf⟩ := bd_some hf
          refine x_goi (ps := [0, 1, 2, 3, 4, 5]) (qs := []) (n := 6) (I' := [[(h, .inr (0, [.ref h_draft, .int failedObject, .int failedRule, .int failedLimit]))], [(h_draft, .inr (3, [.int (r_57.2.1 0), .ref a_draft_words, .int (r_57.2.1 1), .ref a_draft_sources, .ref a_draft_targets, .ref a_draft_labels]))], [(a_draft_labels, .inl (G 0, 32, .inl (r_57.2.2 0)))], [(a_draft_sources, .inl (G 0, 32, .inl (r_57.2.2 1)))], [(a_draft_targets, .inl (G 0, 32, .inl (r_57.2.2 2)))], [(a_draft_words, .inl (G 0, 16, .inl (r_57.2.2 3)))]]) (x_runV (As := [.int v1, .int r_53, .int v2]) (rest := []) (ps := [0, 1, 2, 3, 4, 5]) ⟨hx, hb, hml, hown, hts⟩ (k_X0_connect l D G fu h h_draft a_draft_words a_draft_sources a_draft_targets a_draft_labels failedObject failedRule failedLimit draft_objects draft_steps draft_labels draft_sources draft_targets draft_words v1 r_53 v2 r_57 hr_57) (cwV 3 hts gX0_applyEverywhere_X0_connect rfl rfl rfl (by decide +kernel) ⟨Nat.le_of_ble_eq_true rfl, Nat.le_of_ble_eq_true rfl⟩) hE hP hN rfl (by decide) 0 rfl rfl rfl hl.1 (Nat.le_of_ble_eq_true rfl) dX0_applyEverywhere_57 ⟨Nat.zero_le _, Nat.zero_le _⟩) hP hN hS rfl rfl rfl rfl rfl (by decide) (fun H locs hP hS => ?_)
          obtain ⟨v8_60, e_v8_60, hf⟩ := lt_some hf
          refine x_istore (v := v8_60) (lv' := [(8, .int v8_60), (0, .ref h), (1, .int v1), (2, .int v2), (3, .int v3), (4, .int v4), (5, .int v5), (6, .int v6), (7, .int v7)]) hx hb dX0_applyEverywhere_60 e_v8_60 hl (by decide) rfl (fun ls hl => ?_)
          refine lv_iload hx hb dX0_applyEverywhere_62 (lv_at hl 0 rfl) ?_
          refine lv_bipush (v := -2) hx hb dX0_applyEverywhere_64 (by decide) ?_
          refine lv_icmp_eq (tgt := 72) hx hb dX0_applyEverywhere_66 (by decide) (fun c_66 => ?_) (fun c_66 => ?_)
          · have hf := it_pos c_66 hf
            exact J72 v7 (r_57.2.2 0) (r_57.2.1 0) (r_57.2.2 1) (r_57.2.1 1) (r_57.2.2 2) (r_57.2.2 3)  H locs ls  hP hS (lv_sub hl [1, 2, 3, 4, 5, 6, 7, 8] rfl) hf
          · have hf := it_neg c_66 hf
            refine lv_iload hx hb dX0_applyEverywhere_69 (lv_at hl 0 rfl) ?_
            have hf := Option.some.inj hf
            rewrite [← hQ, ← hf]
            exact x_iret hx hb hr hlocks hP hS dX0_applyEverywhere_71
  refine lv_aload_n hx hb dX0_applyEverywhere_0 rfl (lv_at hl 0 rfl) ?_
  refine x_get hx hb hts u_X0_applyEverywhere_X0 hown hE hP 0 rfl rfl 0 (by decide) (hts (.fieldLink RX0 12 "DecreasingDiagrams$Explorer" "draft" "LDecreasingDiagrams$LabelledSystem;") (List.mem_of_getElem? (i := 1) rfl)) rfl dX0_applyEverywhere_1 ?_
  refine x_getN hx hb hts u_X0_applyEverywhere_X3 hown hE hP 1 rfl rfl 1 (by decide) (hE.2 (.fieldLinkNest RX0 54 "DecreasingDiagrams$LabelledSystem" "words" "[I" RX11) (List.mem_of_getElem? (i := 6) rfl)) rfl dX0_applyEverywhere_4 ?_
  refine lv_iload_n hx hb dX0_applyEverywhere_7 rfl (lv_at hl 1 rfl) ?_
  obtain ⟨hi, hf⟩ := ck_some hf
  refine x_iald hx hb hE hP 5 rfl hi dX0_applyEverywhere_8 ?_
  obtain ⟨v5_9, e_v5_9, hf⟩ := lt_some hf
  refine x_istore (v := v5_9) (lv' := [(5, .int v5_9), (0, .ref h), (1, .int v1), (2, .int v2), (3, .int v3), (4, .int v4)]) hx hb dX0_applyEverywhere_9 e_v5_9 hl (by decide) rfl (fun ls hl => ?_)
  refine lv_iload hx hb dX0_applyEverywhere_11 (lv_at hl 0 rfl) ?_
  obtain ⟨r_13, hr_13, hf⟩ := bd_some hf
  refine x_goi0 (ps := []) (x_runSN (As := [.int v5_9]) (rest := []) (ps := []) ⟨hx, hb, hml, hown, hts⟩ (k_X10_lengthOf l D G fu v5_9 r_13 hr_13) ⟨va_cnB 1 hts gX0_applyEverywhere_X10_lengthOf_n57 rfl rfl rfl (hE.2 (.methodLinkNest RX0 57 yX10_lengthOf RX11) (List.mem_of_getElem? (i := 102) rfl)) (hts (.initialized RX10) (List.mem_of_getElem? (i := 3) rfl)) (by decide +kernel) ⟨Nat.le_of_ble_eq_true rfl, Nat.le_of_ble_eq_true rfl⟩, (hts (.static yX10_lengthOf) (List.mem_of_getElem? (i := 2) rfl)), trivial⟩ hE hP hN rfl (by decide) rfl hl.1 (Nat.le_of_ble_eq_true rfl) dX0_applyEverywhere_13 ⟨Nat.zero_le _, Nat.zero_le _⟩) hP hN hS rfl (fun H locs hP hS => ?_)
  refine lv_iload_n hx hb dX0_applyEverywhere_16 rfl (lv_at hl 4 rfl) ?_
  obtain ⟨r_17, hr_17, hf⟩ := bd_some hf
  refine x_goi0 (ps := []) (x_runSN (As := [.int v3]) (rest := [.int r_13]) (ps := []) ⟨hx, hb, hml, hown, hts⟩ (k_X10_lengthOf l D G fu v3 r_17 hr_17) ⟨va_cnB 1 hts gX0_applyEverywhere_X10_lengthOf_n57 rfl rfl rfl (hE.2 (.methodLinkNest RX0 57 yX10_lengthOf RX11) (List.mem_of_getElem? (i := 102) rfl)) (hts (.initialized RX10) (List.mem_of_getElem? (i := 3) rfl)) (by decide +kernel) ⟨Nat.le_of_ble_eq_true rfl, Nat.le_of_ble_eq_true rfl⟩, (hts (.static yX10_lengthOf) (List.mem_of_getElem? (i := 2) rfl)), trivial⟩ hE hP hN rfl (by decide) rfl hl.1 (Nat.le_of_ble_eq_true rfl) dX0_applyEverywhere_17 ⟨Nat.zero_le _, Nat.zero_le _⟩) hP hN hS rfl (fun H locs hP hS => ?_)
  refine lv_isub hx hb dX0_applyEverywhere_20 ?_
  obtain ⟨v6_21, e_v6_21, hf⟩ := lt_some hf
  refine x_istore (v := v6_21) (lv' := [(6, .int v6_21), (5, .int v5_9), (0, .ref h), (1, .int v1), (2, .int v2), (3, .int v3), (4, .int v4)]) hx hb dX0_applyEverywhere_21 e_v6_21 hl (by decide) rfl (fun ls hl => ?_)
  refine lv_iconst (v := 0) hx hb dX0_applyEverywhere_23 (by decide) ?_
  obtain ⟨v7_24, e_v7_24, hf⟩ := lt_some hf
  refine x_istore (v := v7_24) (lv' := [(7, .int v7_24), (6, .int v6_21), (5, .int v5_9), (0, .ref h), (1, .int v1), (2, .int v2), (3, .int v3), (4, .int v4)]) hx hb dX0_applyEverywhere_24 e_v7_24 hl (by decide) rfl (fun ls hl => ?_)
  exact L26 v5_9 v6_21   fu v7_24 draft_labels draft_objects draft_sources draft_steps draft_targets draft_words H locs ls hP hS (lv_sub hl [3, 4, 5, 6, 7, 2, 1, 0] rfl) hf

set_option maxRecDepth 20000 in
theorem u_X3_clear_X3 : ∀ w ∈ wsX30, w ∈ wsX3_clear := xx_pl _ [3, 4, 5, 6, 7, 8] (by decide +kernel)
def f_X3_clear  : Option (Int32 × Int32) :=
  lt (0 : Int32) (fun objects_2 => lt (0 : Int32) (fun steps_7 => some (objects_2, steps_7)))
set_option maxHeartbeats 4000000 in
set_option maxRecDepth 100000 in
theorem k_X3_clear (l : Launch) (D : va_G) (G : Nat → ClassId) (fu : Nat) (h : Nat) (a_words : Nat) (a_sources : Nat) (a_targets : Nat) (a_labels : Nat) (objects : Int32) (steps : Int32)   (out : Int32 × Int32) (hf : f_X3_clear  = some out) : xMet l yX3_clear wsX3_clear (rM 0 0) D G [.ref h] [[(h, .inr (3, [.int objects, .ref a_words, .int steps, .ref a_sources, .ref a_targets, .ref a_labels]))]] (xQv D [[(h, .inr (3, [.int out.1, .ref a_words, .int out.2, .ref a_sources, .ref a_targets, .ref a_labels]))]]) := by
  refine x_ent (cc := cX3_clear) (maxL := 1) (by decide) rfl (Nat.le_of_ble_eq_true rfl) ?_
  intro p e s m blw meth c aa ls args Q H locs hQ hx hb hr hml hown hts hlocks hE hN hl hP hS
  have hown : s.vm.findClass RX3 = some m.cls := hown
  have hl : lv_has ls 1 [(0, .ref h)] := hl
  refine lv_aload_n hx hb dX3_clear_0 rfl (lv_at hl 0 rfl) ?_
  refine lv_iconst (v := 0) hx hb dX3_clear_1 (by decide) ?_
  obtain ⟨objects_2, e_objects_2, hf⟩ := lt_some hf
  refine x_put (w := .int objects_2) (ty := .int) (I' := [[(h, .inr (3, [.int objects_2, .ref a_words, .int steps, .ref a_sources, .ref a_targets, .ref a_labels]))]]) hx hb hts u_X3_clear_X3 tyX3 tyX3_ok nmX3 hown hE hP hN hS 0 rfl rfl 0 (by decide) (hts (.fieldLink RX3 9 "DecreasingDiagrams$LabelledSystem" "objects" "I") (List.mem_of_getElem? (i := 1) rfl)) rfl (congrArg Value.int e_objects_2) (by decide +kernel) rfl rfl (Nat.le_of_ble_eq_true rfl) rfl dX3_clear_2 (fun H locs hP hS => ?_)
  refine lv_aload_n hx hb dX3_clear_5 rfl (lv_at hl 0 rfl) ?_
  refine lv_iconst (v := 0) hx hb dX3_clear_6 (by decide) ?_
  obtain ⟨steps_7, e_steps_7, hf⟩ := lt_some hf
  refine x_put (w := .int steps_7) (ty := .int) (I' := [[(h, .inr (3, [.int objects_2, .ref a_words, .int steps_7, .ref a_sources, .ref a_targets, .ref a_labels]))]]) hx hb hts u_X3_clear_X3 tyX3 tyX3_ok nmX3 hown hE hP hN hS 0 rfl rfl 2 (by decide) (hts (.fieldLink RX3 19 "DecreasingDiagrams$LabelledSystem" "steps" "I") (List.mem_of_getElem? (i := 2) rfl)) rfl (congrArg Value.int e_steps_7) (by decide +kernel) rfl rfl (Nat.le_of_ble_eq_true rfl) rfl dX3_clear_7 (fun H locs hP hS => ?_)
  have hf := Option.some.inj hf
  rewrite [← hQ, ← hf]
  exact x_vret hx hb hr hlocks hP hS dX3_clear_10

set_option maxRecDepth 20000 in
theorem u_X0_run_X0 : ∀ w ∈ wsX00, w ∈ wsX0_run := xx_pl _ [47, 48, 49, 50] (by decide +kernel)
set_option maxRecDepth 20000 in
theorem u_X0_run_X8 : ∀ w ∈ wsX80, w ∈ wsX0_run := xx_pl _ [57, 58, 59] (by decide +kernel)
set_option maxRecDepth 20000 in
theorem u_X0_run_X3 : ∀ w ∈ wsX30, w ∈ wsX0_run := xx_pl _ [51, 52, 53, 54, 55, 56] (by decide +kernel)
def f_X0_run_J102 (rec_18 : (Int32 → (Nat → Int32) → Int32 → (Nat → Int32) → Int32 → (Nat → Int32) → (Nat → Int32) → Option (Int32 × (Nat → Int32) × (Nat → (Nat → Int32))))) (v3 : Int32) (draft_labels : (Nat → Int32)) (draft_objects : Int32) (draft_sources : (Nat → Int32)) (draft_steps : Int32) (draft_targets : (Nat → Int32)) (draft_words : (Nat → Int32)) : Option (Int32 × (Nat → Int32) × (Nat → (Nat → Int32))) :=
  lt (v3 + 1) (fun v3_102 => rec_18 v3_102 draft_labels draft_objects draft_sources draft_steps draft_targets draft_words)
def f_X0_run_J77  (v3 : Int32) (v4 : Int32) (v5 : Int32) (draft_labels : (Nat → Int32)) (draft_objects : Int32) (draft_sources : (Nat → Int32)) (draft_steps : Int32) (draft_targets : (Nat → Int32)) (draft_words : (Nat → Int32)) (failedLimit : Int32) (failedObject : Int32) (failedRule : Int32) : Option (Int32 × (Nat → Int32) × (Nat → (Nat → Int32))) :=
  lt v3 (fun failedObject_79 => lt v4 (fun failedRule_85 => lt v5 (fun failedLimit_91 => some (0, vv (0 : Int32) [draft_objects, draft_steps, failedLimit_91, failedObject_79, failedRule_85], vv (fun _ => (0 : Int32)) [draft_labels, draft_sources, draft_targets, draft_words]))))
def f_X0_run_L38 (fu : Nat) (p2_count : Int32) (failedObject : Int32) (failedRule : Int32) (failedLimit : Int32) (p2_lefts : (Nat → Int32)) (p2_rights : (Nat → Int32)) (v3 : Int32) (rec_18 : (Int32 → (Nat → Int32) → Int32 → (Nat → Int32) → Int32 → (Nat → Int32) → (Nat → Int32) → Option (Int32 × (Nat → Int32) × (Nat → (Nat → Int32))))) (rec_38 : Int32 → (Nat → Int32) → Int32 → (Nat → Int32) → Int32 → (Nat → Int32) → (Nat → Int32) → Option (Int32 × (Nat → Int32) × (Nat → (Nat → Int32)))) (v4 : Int32) (draft_labels : (Nat → Int32)) (draft_objects : Int32) (draft_sources : (Nat → Int32)) (draft_steps : Int32) (draft_targets : (Nat → Int32)) (draft_words : (Nat → Int32)) : Option (Int32 × (Nat → Int32) × (Nat → (Nat → Int32))) :=
  if p2_count ≤ v4 then (f_X0_run_J102 rec_18 v3 draft_labels draft_objects draft_sources draft_steps draft_targets draft_words) else (ck v4 6 (ck v4 6 ((f_X0_applyEverywhere fu draft_objects draft_steps draft_labels draft_sources draft_targets draft_words v3 v4 (p2_lefts v4.toNatClampNeg) (p2_rights v4.toNatClampNeg)).bind (fun r_65 => lt r_65.1 (fun v5_68 => if v5_68 = (-2) then (lt (v4 + 1) (fun v4_96 => rec_38 v4_96 (r_65.2.2 0) (r_65.2.1 0) (r_65.2.2 1) (r_65.2.1 1) (r_65.2.2 2) (r_65.2.2 3))) else (f_X0_run_J77 v3 v4 v5_68 (r_65.2.2 0) (r_65.2.1 0) (r_65.2.2 1) (r_65.2.1 1) (r_65.2.2 2) (r_65.2.2 3) failedLimit failedObject failedRule))))))
def f_X0_run_L18 (fu : Nat) (p2_count : Int32) (failedObject : Int32) (failedRule : Int32) (failedLimit : Int32) (p2_lefts : (Nat → Int32)) (p2_rights : (Nat → Int32)) (rec_18 : Int32 → (Nat → Int32) → Int32 → (Nat → Int32) → Int32 → (Nat → Int32) → (Nat → Int32) → Option (Int32 × (Nat → Int32) × (Nat → (Nat → Int32)))) (v3 : Int32) (draft_labels : (Nat → Int32)) (draft_objects : Int32) (draft_sources : (Nat → Int32)) (draft_steps : Int32) (draft_targets : (Nat → Int32)) (draft_words : (Nat → Int32)) : Option (Int32 × (Nat → Int32) × (Nat → (Nat → Int32))) :=
  if 16 ≤ v3 then (some (1, vv (0 : Int32) [draft_objects, draft_steps, failedLimit, failedObject, failedRule], vv (fun _ => (0 : Int32)) [draft_labels, draft_sources, draft_targets, draft_words])) else (if draft_objects ≤ v3 then (some (1, vv (0 : Int32) [draft_objects, draft_steps, failedLimit, failedObject, failedRule], vv (fun _ => (0 : Int32)) [draft_labels, draft_sources, draft_targets, draft_words])) else (lt (0 : Int32) (fun v4_36 => lp (τ := Int32 → (Nat → Int32) → Int32 → (Nat → Int32) → Int32 → (Nat → Int32) → (Nat → Int32) → Option (Int32 × (Nat → Int32) × (Nat → (Nat → Int32)))) (fun _ _ _ _ _ _ _ => none) (f_X0_run_L38 fu p2_count failedObject failedRule failedLimit p2_lefts p2_rights v3 rec_18) fu v4_36 draft_labels draft_objects draft_sources draft_steps draft_targets draft_words)))
def f_X0_run (fu : Nat) (p2_count : Int32) (failedObject : Int32) (failedRule : Int32) (failedLimit : Int32) (p2_lefts : (Nat → Int32)) (p2_rights : (Nat → Int32)) (draft_labels : (Nat → Int32)) (draft_sources : (Nat → Int32)) (draft_targets : (Nat → Int32)) (draft_words : (Nat → Int32)) (v1 : Int32) : Option (Int32 × (Nat → Int32) × (Nat → (Nat → Int32))) :=
  (f_X3_clear).bind (fun r_4 => (f_X3_appendObject r_4.1 draft_words v1).bind (fun r_12 => lt (0 : Int32) (fun v3_17 => lp (τ := Int32 → (Nat → Int32) → Int32 → (Nat → Int32) → Int32 → (Nat → Int32) → (Nat → Int32) → Option (Int32 × (Nat → Int32) × (Nat → (Nat → Int32)))) (fun _ _ _ _ _ _ _ => none) (f_X0_run_L18 fu p2_count failedObject failedRule failedLimit p2_lefts p2_rights) fu v3_17 draft_labels r_12.2.1 draft_sources r_4.2 draft_targets r_12.2.2)))
set_option maxHeartbeats 4000000 in
set_option maxRecDepth 100000 in
theorem k_X0_run (l : Launch) (D : va_G) (G : Nat → ClassId) (fu : Nat) (h : Nat) (h_p2 : Nat) (a_p2_lefts : Nat) (a_p2_rights : Nat) (h_draft : Nat) (a_draft_words : Nat) (a_draft_sources : Nat) (a_draft_targets : Nat) (a_draft_labels : Nat) (p2_count : Int32) (failedObject : Int32) (failedRule : Int32) (failedLimit : Int32) (draft_objects : Int32) (draft_steps : Int32) (p2_lefts : (Nat → Int32)) (p2_rights : (Nat → Int32)) (draft_labels : (Nat → Int32)) (draft_sources : (Nat → Int32)) (draft_targets : (Nat → Int32)) (draft_words : (Nat → Int32))  (v1 : Int32) (out : Int32 × (Nat → Int32) × (Nat → (Nat → Int32))) (hf : f_X0_run fu p2_count failedObject failedRule failedLimit p2_lefts p2_rights draft_labels draft_sources draft_targets draft_words v1 = some out) : xMet l yX0_run wsX0_run (rM 3 76) D G [.ref h, .int v1, .ref h_p2] [[(h_p2, .inr (8, [.int p2_count, .ref a_p2_lefts, .ref a_p2_rights]))], [(a_p2_lefts, .inl (G 0, 6, .inl p2_lefts))], [(a_p2_rights, .inl (G 0, 6, .inl p2_rights))], [(h, .inr (0, [.ref h_draft, .int failedObject, .int failedRule, .int failedLimit]))], [(h_draft, .inr (3, [.int draft_objects, .ref a_draft_words, .int draft_steps, .ref a_draft_sources, .ref a_draft_targets, .ref a_draft_labels]))], [(a_draft_labels, .inl (G 0, 32, .inl draft_labels))], [(a_draft_sources, .inl (G 0, 32, .inl draft_sources))], [(a_draft_targets, .inl (G 0, 32, .inl draft_targets))], [(a_draft_words, .inl (G 0, 16, .inl draft_words))]] (xQi D [[(h_p2, .inr (8, [.int p2_count, .ref a_p2_lefts, .ref a_p2_rights]))], [(a_p2_lefts, .inl (G 0, 6, .inl p2_lefts))], [(a_p2_rights, .inl (G 0, 6, .inl p2_rights))], [(h, .inr (0, [.ref h_draft, .int (out.2.1 3), .int (out.2.1 4), .int (out.2.1 2)]))], [(h_draft, .inr (3, [.int (out.2.1 0), .ref a_draft_words, .int (out.2.1 1), .ref a_draft_sources, .ref a_draft_targets, .ref a_draft_labels]))], [(a_draft_labels, .inl (G 0, 32, .inl (out.2.2 0)))], [(a_draft_sources, .inl (G 0, 32, .inl (out.2.2 1)))], [(a_draft_targets, .inl (G 0, 32, .inl (out.2.2 2)))], [(a_draft_words, .inl (G 0, 16, .inl (out.2.2 3)))]] out.1) := by
  refine x_ent (cc := cX0_run) (maxL := 6) (by decide) rfl (Nat.le_of_ble_eq_true rfl) ?_
  intro p e s m blw meth c aa ls args Q H locs hQ hx hb hr hml hown hts hlocks hE hN hl hP hS
  have hown : s.vm.findClass RX0 = some m.cls := hown
  have hl : lv_has ls 6 [(0, .ref h), (1, .int v1), (2, .ref h_p2)] := hl
  have J77 : ∀ (v3 : Int32) (v4 : Int32) (v5 : Int32) (draft_labels : (Nat → Int32)) (draft_objects : Int32) (draft_sources : (Nat → Int32)) (draft_steps : Int32) (draft_targets : (Nat → Int32)) (draft_words : (Nat → Int32)) (failedLimit : Int32) (failedObject : Int32) (failedRule : Int32) (H : Heap) (locs : List Loc) (ls : Array Slot), xW D aa [[(h_p2, .inr (8, [.int p2_count, .ref a_p2_lefts, .ref a_p2_rights]))], [(a_p2_lefts, .inl (G 0, 6, .inl p2_lefts))], [(a_p2_rights, .inl (G 0, 6, .inl p2_rights))], [(h, .inr (0, [.ref h_draft, .int failedObject, .int failedRule, .int failedLimit]))], [(h_draft, .inr (3, [.int draft_objects, .ref a_draft_words, .int draft_steps, .ref a_draft_sources, .ref a_draft_targets, .ref a_draft_labels]))], [(a_draft_labels, .inl (G 0, 32, .inl draft_labels))], [(a_draft_sources, .inl (G 0, 32, .inl draft_sources))], [(a_draft_targets, .inl (G 0, 32, .inl draft_targets))], [(a_draft_words, .inl (G 0, 16, .inl draft_words))]] H → va_S (xA aa) s.heap H locs → lv_has ls 6 [(0, .ref h), (3, .int v3), (4, .int v4), (5, .int v5)] → f_X0_run_J77  v3 v4 v5 draft_labels draft_objects draft_sources draft_steps draft_targets draft_words failedLimit failedObject failedRule = some out → W p l e (rM 3 76) s m args blw meth c H locs 0 0 Q (F0 m 77 ls []) := by
    intro v3 v4 v5 draft_labels draft_objects draft_sources draft_steps draft_targets draft_words failedLimit failedObject failedRule  H locs ls  hP hS hl hf
    refine lv_aload_n hx hb dX0_run_77 rfl (lv_at hl 0 rfl) ?_
    refine lv_iload_n hx hb dX0_run_78 rfl (lv_at hl 1 rfl) ?_
    obtain ⟨failedObject_79, e_failedObject_79, hf⟩ := lt_some hf
    refine x_put (w := .int failedObject_79) (ty := .int) (I' := [[(h_p2, .inr (8, [.int p2_count, .ref a_p2_lefts, .ref a_p2_rights]))], [(a_p2_lefts, .inl (G 0, 6, .inl p2_lefts))], [(a_p2_rights, .inl (G 0, 6, .inl p2_rights))], [(h, .inr (0, [.ref h_draft, .int failedObject_79, .int failedRule, .int failedLimit]))], [(h_draft, .inr (3, [.int draft_objects, .ref a_draft_words, .int draft_steps, .ref a_draft_sources, .ref a_draft_targets, .ref a_draft_labels]))], [(a_draft_labels, .inl (G 0, 32, .inl draft_labels))], [(a_draft_sources, .inl (G 0, 32, .inl draft_sources))], [(a_draft_targets, .inl (G 0, 32, .inl draft_targets))], [(a_draft_words, .inl (G 0, 16, .inl draft_words))]]) hx hb hts u_X0_run_X0 tyX0 tyX0_ok nmX0 hown hE hP hN hS 3 rfl rfl 1 (by decide) (hts (.fieldLink RX0 18 "DecreasingDiagrams$Explorer" "failedObject" "I") (List.mem_of_getElem? (i := 2) rfl)) rfl (congrArg Value.int e_failedObject_79) (by decide +kernel) rfl rfl (Nat.le_of_ble_eq_true rfl) rfl dX0_run_79 (fun H locs hP hS => ?_)
    refine lv_aload_n hx hb dX0_run_82 rfl (lv_at hl 0 rfl) ?_
    refine lv_iload hx hb dX0_run_83 (lv_at hl 2 rfl) ?_
    obtain ⟨failedRule_85, e_failedRule_85, hf⟩ := lt_some hf
    refine x_put (w := .int failedRule_85) (ty := .int) (I' := [[(h_p2, .inr (8, [.int p2_count, .ref a_p2_lefts, .ref a_p2_rights]))], [(a_p2_lefts, .inl (G 0, 6, .inl p2_lefts))], [(a_p2_rights, .inl (G 0, 6, .inl p2_rights))], [(h, .inr (0, [.ref h_draft, .int failedObject_79, .int failedRule_85, .int failedLimit]))], [(h_draft, .inr (3, [.int draft_objects, .ref a_draft_words, .int draft_steps, .ref a_draft_sources, .ref a_draft_targets, .ref a_draft_labels]))], [(a_draft_labels, .inl (G 0, 32, .inl draft_labels))], [(a_draft_sources, .inl (G 0, 32, .inl draft_sources))], [(a_draft_targets, .inl (G 0, 32, .inl draft_targets))], [(a_draft_words, .inl (G 0, 16, .inl draft_words))]]) hx hb hts u_X0_run_X0 tyX0 tyX0_ok nmX0 hown hE hP hN hS 3 rfl rfl 2 (by decide) (hts (.fieldLink RX0 22 "DecreasingDiagrams$Explorer" "failedRule" "I") (List.mem_of_getElem? (i := 3) rfl)) rfl (congrArg Value.int e_failedRule_85) (by decide +kernel) rfl rfl (Nat.le_of_ble_eq_true rfl) rfl dX0_run_85 (fun H locs hP hS => ?_)
    refine lv_aload_n hx hb dX0_run_88 rfl (lv_at hl 0 rfl) ?_
    refine lv_iload hx hb dX0_run_89 (lv_at hl 3 rfl) ?_
    obtain ⟨failedLimit_91, e_failedLimit_91, hf⟩ := lt_some hf
    refine x_put (w := .int failedLimit_91) (ty := .int) (I' := [[(h_p2, .inr (8, [.int p2_count, .ref a_p2_lefts, .ref a_p2_rights]))], [(a_p2_lefts, .inl (G 0, 6, .inl p2_lefts))], [(a_p2_rights, .inl (G 0, 6, .inl p2_rights))], [(h, .inr (0, [.ref h_draft, .int failedObject_79, .int failedRule_85, .int failedLimit_91]))], [(h_draft, .inr (3, [.int draft_objects, .ref a_draft_words, .int draft_steps, .ref a_draft_sources, .ref a_draft_targets, .ref a_draft_labels]))], [(a_draft_labels, .inl (G 0, 32, .inl draft_labels))], [(a_draft_sources, .inl (G 0, 32, .inl draft_sources))], [(a_draft_targets, .inl (G 0, 32, .inl draft_targets))], [(a_draft_words, .inl (G 0, 16, .inl draft_words))]]) hx hb hts u_X0_run_X0 tyX0 tyX0_ok nmX0 hown hE hP hN hS 3 rfl rfl 3 (by decide) (hts (.fieldLink RX0 25 "DecreasingDiagrams$Explorer" "failedLimit" "I") (List.mem_of_getElem? (i := 4) rfl)) rfl (congrArg Value.int e_failedLimit_91) (by decide +kernel) rfl rfl (Nat.le_of_ble_eq_true rfl) rfl dX0_run_91 (fun H locs hP hS => ?_)
    refine lv_iconst (v := 0) hx hb dX0_run_94 (by decide) ?_
    have hf := Option.some.inj hf
    rewrite [← hQ, ← hf]
    exact x_zret (r := 0) hx hb hr hlocks rfl hP hS dX0_run_95
  have L18 : ∀ (failedLimit : Int32) (failedObject : Int32) (failedRule : Int32), ∀ (n_18 : Nat) (v3 : Int32) (draft_labels : (Nat → Int32)) (draft_objects : Int32) (draft_sources : (Nat → Int32)) (draft_steps : Int32) (draft_targets : (Nat → Int32)) (draft_words : (Nat → Int32)) (H : Heap) (locs : List Loc) (ls : Array Slot), xW D aa [[(h_p2, .inr (8, [.int p2_count, .ref a_p2_lefts, .ref a_p2_rights]))], [(a_p2_lefts, .inl (G 0, 6, .inl p2_lefts))], [(a_p2_rights, .inl (G 0, 6, .inl p2_rights))], [(h, .inr (0, [.ref h_draft, .int failedObject, .int failedRule, .int failedLimit]))], [(h_draft, .inr (3, [.int draft_objects, .ref a_draft_words, .int draft_steps, .ref a_draft_sources, .ref a_draft_targets, .ref a_draft_labels]))], [(a_draft_labels, .inl (G 0, 32, .inl draft_labels))], [(a_draft_sources, .inl (G 0, 32, .inl draft_sources))], [(a_draft_targets, .inl (G 0, 32, .inl draft_targets))], [(a_draft_words, .inl (G 0, 16, .inl draft_words))]] H → va_S (xA aa) s.heap H locs → lv_has ls 6 [(0, .ref h), (2, .ref h_p2), (3, .int v3)] → lp (τ := Int32 → (Nat → Int32) → Int32 → (Nat → Int32) → Int32 → (Nat → Int32) → (Nat → Int32) → Option (Int32 × (Nat → Int32) × (Nat → (Nat → Int32)))) (fun _ _ _ _ _ _ _ => none) (f_X0_run_L18 fu p2_count failedObject failedRule failedLimit p2_lefts p2_rights) n_18 v3 draft_labels draft_objects draft_sources draft_steps draft_targets draft_words = some out → W p l e (rM 3 76) s m args blw meth c H locs 0 0 Q (F0 m 18 ls []) := by
    intro failedLimit failedObject failedRule   n_18
    induction n_18 with
    | zero =>
      intro v3 draft_labels draft_objects draft_sources draft_steps draft_targets draft_words H locs ls hP hS hl hf
      exact no_some hf
    | succ n_18 ih_18 =>
      intro v3 draft_labels draft_objects draft_sources draft_steps draft_targets draft_words H locs ls hP hS hl hf
      have hf : f_X0_run_L18 fu p2_count failedObject failedRule failedLimit p2_lefts p2_rights (lp (τ := Int32 → (Nat → Int32) → Int32 → (Nat → Int32) → Int32 → (Nat → Int32) → (Nat → Int32) → Option (Int32 × (Nat → Int32) × (Nat → (Nat → Int32)))) (fun _ _ _ _ _ _ _ => none) (f_X0_run_L18 fu p2_count failedObject failedRule failedLimit p2_lefts p2_rights) n_18) v3 draft_labels draft_objects draft_sources draft_steps draft_targets draft_words = some out := hf
      have J102 : ∀ (v3 : Int32) (draft_labels : (Nat → Int32)) (draft_objects : Int32) (draft_sources : (Nat → Int32)) (draft_steps : Int32) (draft_targets : (Nat → Int32)) (draft_words : (Nat → Int32)) (H : Heap) (locs : List Loc) (ls : Array Slot), xW D aa [[(h_p2, .inr (8, [.int p2_count, .ref a_p2_lefts, .ref a_p2_rights]))], [(a_p2_lefts, .inl (G 0, 6, .inl p2_lefts))], [(a_p2_rights, .inl (G 0, 6, .inl p2_rights))], [(h, .inr (0, [.ref h_draft, .int failedObject, .int failedRule, .int failedLimit]))], [(h_draft, .inr (3, [.int draft_objects, .ref a_draft_words, .int draft_steps, .ref a_draft_sources, .ref a_draft_targets, .ref a_draft_labels]))], [(a_draft_labels, .inl (G 0, 32, .inl draft_labels))], [(a_draft_sources, .inl (G 0, 32, .inl draft_sources))], [(a_draft_targets, .inl (G 0, 32, .inl draft_targets))], [(a_draft_words, .inl (G 0, 16, .inl draft_words))]] H → va_S (xA aa) s.heap H locs → lv_has ls 6 [(0, .ref h), (2, .ref h_p2), (3, .int v3)] → f_X0_run_J102 (lp (τ := Int32 → (Nat → Int32) → Int32 → (Nat → Int32) → Int32 → (Nat → Int32) → (Nat → Int32) → Option (Int32 × (Nat → Int32) × (Nat → (Nat → Int32)))) (fun _ _ _ _ _ _ _ => none) (f_X0_run_L18 fu p2_count failedObject failedRule failedLimit p2_lefts p2_rights) n_18) v3 draft_labels draft_objects draft_sources draft_steps draft_targets draft_words = some out → W p l e (rM 3 76) s m args blw meth c H locs 0 0 Q (F0 m 102 ls []) := by
        intro v3 draft_labels draft_objects draft_sources draft_steps draft_targets draft_words  H locs ls  hP hS hl hf
        obtain ⟨v3_102, e_v3_102, hf⟩ := lt_some hf
        refine lv_iinc (v := v3_102) (lv' := [(3, .int v3_102), (0, .ref h), (2, .ref h_p2)]) hx hb dX0_run_102 hl (k := 2) rfl (by rw [e_v3_102]; rfl) (by decide) rfl (fun ls hl => ?_)
        refine lv_goto (tgt := 18) hx hb dX0_run_105 (by decide) ?_
        exact ih_18 v3_102 draft_labels draft_objects draft_sources draft_steps draft_targets draft_words H locs ls hP hS (lv_sub hl [1, 2, 0] rfl) hf
      have L38 : ∀ (v3 : Int32), ∀ (n_38 : Nat) (v4 : Int32) (draft_labels : (Nat → Int32)) (draft_objects : Int32) (draft_sources : (Nat → Int32)) (draft_steps : Int32) (draft_targets : (Nat → Int32)) (draft_words : (Nat → Int32)) (H : Heap) (locs : List Loc) (ls : Array Slot), xW D aa [[(h_p2, .inr (8, [.int p2_count, .ref a_p2_lefts, .ref a_p2_rights]))], [(a_p2_lefts, .inl (G 0, 6, .inl p2_lefts))], [(a_p2_rights, .inl (G 0, 6, .inl p2_rights))], [(h, .inr (0, [.ref h_draft, .int failedObject, .int failedRule, .int failedLimit]))], [(h_draft, .inr (3, [.int draft_objects, .ref a_draft_words, .int draft_steps, .ref a_draft_sources, .ref a_draft_targets, .ref a_draft_labels]))], [(a_draft_labels, .inl (G 0, 32, .inl draft_labels))], [(a_draft_sources, .inl (G 0, 32, .inl draft_sources))], [(a_draft_targets, .inl (G 0, 32, .inl draft_targets))], [(a_draft_words, .inl (G 0, 16, .inl draft_words))]] H → va_S (xA aa) s.heap H locs → lv_has ls 6 [(0, .ref h), (2, .ref h_p2), (3, .int v3), (4, .int v4)] → lp (τ := Int32 → (Nat → Int32) → Int32 → (Nat → Int32) → Int32 → (Nat → Int32) → (Nat → Int32) → Option (Int32 × (Nat → Int32) × (Nat → (Nat → Int32)))) (fun _ _ _ _ _ _ _ => none) (f_X0_run_L38 fu p2_count failedObject failedRule failedLimit p2_lefts p2_rights v3 (lp (τ := Int32 → (Nat → Int32) → Int32 → (Nat → Int32) → Int32 → (Nat → Int32) → (Nat → Int32) → Option (Int32 × (Nat → Int32) × (Nat → (Nat → Int32)))) (fun _ _ _ _ _ _ _ => none) (f_X0_run_L18 fu p2_count failedObject failedRule failedLimit p2_lefts p2_rights) n_18)) n_38 v4 draft_labels draft_objects draft_sources draft_steps draft_targets draft_words = some out → W p l e (rM 3 76) s m args blw meth c H locs 0 0 Q (F0 m 38 ls []) := by
        intro v3   n_38
        induction n_38 with
        | zero =>
          intro v4 draft_labels draft_objects draft_sources draft_steps draft_targets draft_words H locs ls hP hS hl hf
          exact no_some hf
        | succ n_38 ih_38 =>
          intro v4 draft_labels draft_objects draft_sources draft_steps draft_targets draft_words H locs ls hP hS hl hf
          have hf : f_X0_run_L38 fu p2_count failedObject failedRule failedLimit p2_lefts p2_rights v3 (lp (τ := Int32 → (Nat → Int32) → Int32 → (Nat → Int32) → Int32 → (Nat → Int32) → (Nat → Int32) → Option (Int32 × (Nat → Int32) × (Nat → (Nat → Int32)))) (fun _ _ _ _ _ _ _ => none) (f_X0_run_L18 fu p2_count failedObject failedRule failedLimit p2_lefts p2_rights) n_18) (lp (τ := Int32 → (Nat → Int32) → Int32 → (Nat → Int32) → Int32 → (Nat → Int32) → (Nat → Int32) → Option (Int32 × (Nat → Int32) × (Nat → (Nat → Int32)))) (fun _ _ _ _ _ _ _ => none) (f_X0_run_L38 fu p2_count failedObject failedRule failedLimit p2_lefts p2_rights v3 (lp (τ := Int32 → (Nat → Int32) → Int32 → (Nat → Int32) → Int32 → (Nat → Int32) → (Nat → Int32) → Option (Int32 × (Nat → Int32) × (Nat → (Nat → Int32)))) (fun _ _ _ _ _ _ _ => none) (f_X0_run_L18 fu p2_count failedObject failedRule failedLimit p2_lefts p2_rights) n_18)) n_38) v4 draft_labels draft_objects draft_sources draft_steps draft_targets draft_words = some out := hf
          refine lv_iload hx hb dX0_run_38 (lv_at hl 3 rfl) ?_
          refine lv_aload_n hx hb dX0_run_40 rfl (lv_at hl 1 rfl) ?_
          refine x_getN hx hb hts u_X0_run_X8 hown hE hP 0 rfl rfl 0 (by decide) (hE.2 (.fieldLinkNest RX0 38 "DecreasingDiagrams$RuleSet" "count" "I" RX11) (List.mem_of_getElem? (i := 23) rfl)) rfl dX0_run_41 ?_
          refine lv_icmp_ge (tgt := 102) hx hb dX0_run_44 (by decide) (fun c_44 => ?_) (fun c_44 => ?_)
          · have hf := it_pos c_44 hf
            exact J102 v3 draft_labels draft_objects draft_sources draft_steps draft_targets draft_words  H locs ls  hP hS (lv_sub hl [0, 1, 2] rfl) hf
          · have hf := it_neg c_44 hf
            refine lv_aload_n hx hb dX0_run_47 rfl (lv_at hl 0 rfl) ?_
            refine lv_iload_n hx hb dX0_run_48 rfl (lv_at hl 2 rfl) ?_
            refine lv_iload hx hb dX0_run_49 (lv_at hl 3 rfl) ?_
            refine lv_aload_n hx hb dX0_run_51 rfl (lv_at hl 1 rfl) ?_
            refine x_getN hx hb hts u_X0_run_X8 hown hE hP 0 rfl rfl 1 (by decide) (hE.2 (.fieldLinkNest RX0 43 "DecreasingDiagrams$RuleSet" "lefts" "[I" RX11) (List.mem_of_getElem? (i := 25) rfl)) rfl dX0_run_52 ?_
            refine lv_iload hx hb dX0_run_55 (lv_at hl 3 rfl) ?_
            obtain ⟨hi, hf⟩ := ck_some hf
            refine x_iald hx hb hE hP 1 rfl hi dX0_run_57 ?_
            refine lv_aload_n hx hb dX0_run_58 rfl (lv_at hl 1 rfl) ?_
            refine x_getN hx hb hts u_X0_run_X8 hown hE hP 0 rfl rfl 2 (by decide) (hE.2 (.fieldLinkNest RX0 47 "DecreasingDiagrams$RuleSet" "rights" "[I" RX11) (List.mem_of_getElem? (i := 26) rfl)) rfl dX0_run_59 ?_
            refine lv_iload hx hb dX0_run_62 (lv_at hl 3 rfl) ?_
            obtain ⟨hi, hf⟩ := ck_some hf
            refine x_iald hx hb hE hP 2 rfl hi dX0_run_64 ?_
            obtain ⟨r_65, hr_65, hf⟩ := bd_some hf
            refine x_goi (ps := [3, 4, 5, 6, 7, 8]) (qs := [0, 1, 2]) (n := 9) (I' := [[(h_p2, .inr (8, [.int p2_count, .ref a_p2_lefts, .ref a_p2_rights]))], [(a_p2_lefts, .inl (G 0, 6, .inl p2_lefts))], [(a_p2_rights, .inl (G 0, 6, .inl p2_rights))], [(h, .inr (0, [.ref h_draft, .int failedObject, .int failedRule, .int failedLimit]))], [(h_draft, .inr (3, [.int (r_65.2.1 0), .ref a_draft_words, .int (r_65.2.1 1), .ref a_draft_sources, .ref a_draft_targets, .ref a_draft_labels]))], [(a_draft_labels, .inl (G 0, 32, .inl (r_65.2.2 0)))], [(a_draft_sources, .inl (G 0, 32, .inl (r_65.2.2 1)))], [(a_draft_targets, .inl (G 0, 32, .inl (r_65.2.2 2)))], [(a_draft_words, .inl (G 0, 16, .inl (r_65.2.2 3)))]]) (x_runV (As := [.int v3, .int v4, .int (p2_lefts v4.toNatClampNeg), .int (p2_rights v4.toNatClampNeg)]) (rest := []) (ps := [3, 4, 5, 6, 7, 8]) ⟨hx, hb, hml, hown, hts⟩ (k_X0_applyEverywhere l D G fu h h_draft a_draft_words a_draft_sources a_draft_targets a_draft_labels failedObject failedRule failedLimit draft_objects draft_steps draft_labels draft_sources draft_targets draft_words v3 v4 (p2_lefts v4.toNatClampNeg) (p2_rights v4.toNatClampNeg) r_65 hr_65) (cwV 4 hts gX0_run_X0_applyEverywhere rfl rfl rfl (by decide +kernel) ⟨Nat.le_of_ble_eq_true rfl, Nat.le_of_ble_eq_true rfl⟩) hE hP hN rfl (by decide) 3 rfl rfl rfl hl.1 (Nat.le_of_ble_eq_true rfl) dX0_run_65 ⟨Nat.zero_le _, Nat.zero_le _⟩) hP hN hS rfl rfl rfl rfl rfl (by decide) (fun H locs hP hS => ?_)
            obtain ⟨v5_68, e_v5_68, hf⟩ := lt_some hf
            refine x_istore (v := v5_68) (lv' := [(5, .int v5_68), (0, .ref h), (2, .ref h_p2), (3, .int v3), (4, .int v4)]) hx hb dX0_run_68 e_v5_68 hl (by decide) rfl (fun ls hl => ?_)
            refine lv_iload hx hb dX0_run_70 (lv_at hl 0 rfl) ?_
            refine lv_bipush (v := -2) hx hb dX0_run_72 (by decide) ?_
            refine lv_icmp_eq (tgt := 96) hx hb dX0_run_74 (by decide) (fun c_74 => ?_) (fun c_74 => ?_)
            · have hf := it_pos c_74 hf
              obtain ⟨v4_96, e_v4_96, hf⟩ := lt_some hf
              refine lv_iinc (v := v4_96) (lv' := [(4, .int v4_96), (5, .int v5_68), (0, .ref h), (2, .ref h_p2), (3, .int v3)]) hx hb dX0_run_96 hl (k := 4) rfl (by rw [e_v4_96]; rfl) (by decide) rfl (fun ls hl => ?_)
              refine lv_goto (tgt := 38) hx hb dX0_run_99 (by decide) ?_
              exact ih_38 v4_96 (r_65.2.2 0) (r_65.2.1 0) (r_65.2.2 1) (r_65.2.1 1) (r_65.2.2 2) (r_65.2.2 3) H locs ls hP hS (lv_sub hl [2, 3, 4, 0] rfl) hf
            · have hf := it_neg c_74 hf
              exact J77 v3 v4 v5_68 (r_65.2.2 0) (r_65.2.1 0) (r_65.2.2 1) (r_65.2.1 1) (r_65.2.2 2) (r_65.2.2 3) failedLimit failedObject failedRule  H locs ls  hP hS (lv_sub hl [1, 3, 4, 0] rfl) hf
      refine lv_iload_n hx hb dX0_run_18 rfl (lv_at hl 2 rfl) ?_
      refine lv_bipush (v := 16) hx hb dX0_run_19 (by decide) ?_
      refine lv_icmp_ge (tgt := 108) hx hb dX0_run_21 (by decide) (fun c_21 => ?_) (fun c_21 => ?_)
      · have hf := it_pos c_21 hf
        refine lv_iconst (v := 1) hx hb dX0_run_108 (by decide) ?_
        have hf := Option.some.inj hf
        rewrite [← hQ, ← hf]
        exact x_zret (r := 1) hx hb hr hlocks rfl hP hS dX0_run_109
      · have hf := it_neg c_21 hf
        refine lv_iload_n hx hb dX0_run_24 rfl (lv_at hl 2 rfl) ?_
        refine lv_aload_n hx hb dX0_run_25 rfl (lv_at hl 0 rfl) ?_
        refine x_get hx hb hts u_X0_run_X0 hown hE hP 3 rfl rfl 0 (by decide) (hts (.fieldLink RX0 12 "DecreasingDiagrams$Explorer" "draft" "LDecreasingDiagrams$LabelledSystem;") (List.mem_of_getElem? (i := 1) rfl)) rfl dX0_run_26 ?_
        refine x_getN hx hb hts u_X0_run_X3 hown hE hP 4 rfl rfl 0 (by decide) (hE.2 (.fieldLinkNest RX0 35 "DecreasingDiagrams$LabelledSystem" "objects" "I" RX11) (List.mem_of_getElem? (i := 4) rfl)) rfl dX0_run_29 ?_
        refine lv_icmp_ge (tgt := 108) hx hb dX0_run_32 (by decide) (fun c_32 => ?_) (fun c_32 => ?_)
        · have hf := it_pos c_32 hf
          refine lv_iconst (v := 1) hx hb dX0_run_108 (by decide) ?_
          have hf := Option.some.inj hf
          rewrite [← hQ, ← hf]
          exact x_zret (r := 1) hx hb hr hlocks rfl hP hS dX0_run_109
        · have hf := it_neg c_32 hf
          refine lv_iconst (v := 0) hx hb dX0_run_35 (by decide) ?_
          obtain ⟨v4_36, e_v4_36, hf⟩ := lt_some hf
          refine x_istore (v := v4_36) (lv' := [(4, .int v4_36), (0, .ref h), (2, .ref h_p2), (3, .int v3)]) hx hb dX0_run_36 e_v4_36 hl (by decide) rfl (fun ls hl => ?_)
          exact L38 v3   fu v4_36 draft_labels draft_objects draft_sources draft_steps draft_targets draft_words H locs ls hP hS (lv_sub hl [1, 2, 3, 0] rfl) hf
  refine lv_aload_n hx hb dX0_run_0 rfl (lv_at hl 0 rfl) ?_
  refine x_get hx hb hts u_X0_run_X0 hown hE hP 3 rfl rfl 0 (by decide) (hts (.fieldLink RX0 12 "DecreasingDiagrams$Explorer" "draft" "LDecreasingDiagrams$LabelledSystem;") (List.mem_of_getElem? (i := 1) rfl)) rfl dX0_run_1 ?_
  obtain ⟨r_4, hr_4, hf⟩ := bd_some hf
  refine x_gov (ps := [4]) (qs := [0, 1, 2, 3, 5, 6, 7, 8]) (n := 9) (I' := [[(h_p2, .inr (8, [.int p2_count, .ref a_p2_lefts, .ref a_p2_rights]))], [(a_p2_lefts, .inl (G 0, 6, .inl p2_lefts))], [(a_p2_rights, .inl (G 0, 6, .inl p2_rights))], [(h, .inr (0, [.ref h_draft, .int failedObject, .int failedRule, .int failedLimit]))], [(h_draft, .inr (3, [.int r_4.1, .ref a_draft_words, .int r_4.2, .ref a_draft_sources, .ref a_draft_targets, .ref a_draft_labels]))], [(a_draft_labels, .inl (G 0, 32, .inl draft_labels))], [(a_draft_sources, .inl (G 0, 32, .inl draft_sources))], [(a_draft_targets, .inl (G 0, 32, .inl draft_targets))], [(a_draft_words, .inl (G 0, 16, .inl draft_words))]]) (x_runVN (As := []) (rest := []) (ps := [4]) ⟨hx, hb, hml, hown, hts⟩ (k_X3_clear l D G fu h_draft a_draft_words a_draft_sources a_draft_targets a_draft_labels draft_objects draft_steps r_4 hr_4) ⟨va_cnB 0 hts gX0_run_X3_clear_n28 rfl rfl rfl (hE.2 (.methodLinkNest RX0 28 yX3_clear RX11) (List.mem_of_getElem? (i := 100) rfl)) (hts (.initialized RX3) (List.mem_of_getElem? (i := 6) rfl)) (by decide +kernel) ⟨Nat.le_of_ble_eq_true rfl, Nat.le_of_ble_eq_true rfl⟩, (hts (.instanceMethod yX3_clear) (List.mem_of_getElem? (i := 5) rfl)), (hts (.selects RX3 yX3_clear yX3_clear) (List.mem_of_getElem? (i := 7) rfl))⟩ hE hP hN rfl (by decide) 4 rfl rfl rfl hl.1 (Nat.le_of_ble_eq_true rfl) dX0_run_4 ⟨Nat.zero_le _, Nat.zero_le _⟩) hP hN hS rfl rfl rfl rfl rfl (by decide) (fun H locs hP hS => ?_)
  refine lv_aload_n hx hb dX0_run_7 rfl (lv_at hl 0 rfl) ?_
  refine x_get hx hb hts u_X0_run_X0 hown hE hP 3 rfl rfl 0 (by decide) (hts (.fieldLink RX0 12 "DecreasingDiagrams$Explorer" "draft" "LDecreasingDiagrams$LabelledSystem;") (List.mem_of_getElem? (i := 1) rfl)) rfl dX0_run_8 ?_
  refine lv_iload_n hx hb dX0_run_11 rfl (lv_at hl 1 rfl) ?_
  obtain ⟨r_12, hr_12, hf⟩ := bd_some hf
  refine x_goi (ps := [4, 8]) (qs := [0, 1, 2, 3, 5, 6, 7]) (n := 9) (I' := [[(h_p2, .inr (8, [.int p2_count, .ref a_p2_lefts, .ref a_p2_rights]))], [(a_p2_lefts, .inl (G 0, 6, .inl p2_lefts))], [(a_p2_rights, .inl (G 0, 6, .inl p2_rights))], [(h, .inr (0, [.ref h_draft, .int failedObject, .int failedRule, .int failedLimit]))], [(h_draft, .inr (3, [.int r_12.2.1, .ref a_draft_words, .int r_4.2, .ref a_draft_sources, .ref a_draft_targets, .ref a_draft_labels]))], [(a_draft_labels, .inl (G 0, 32, .inl draft_labels))], [(a_draft_sources, .inl (G 0, 32, .inl draft_sources))], [(a_draft_targets, .inl (G 0, 32, .inl draft_targets))], [(a_draft_words, .inl (G 0, 16, .inl r_12.2.2))]]) (x_runVN (As := [.int v1]) (rest := []) (ps := [4, 8]) ⟨hx, hb, hml, hown, hts⟩ (k_X3_appendObject l D G fu h_draft a_draft_words a_draft_sources a_draft_targets a_draft_labels r_4.1 r_4.2 draft_words v1 r_12 hr_12) ⟨va_cnB 1 hts gX0_run_X3_appendObject_n31 rfl rfl rfl (hE.2 (.methodLinkNest RX0 31 yX3_appendObject RX11) (List.mem_of_getElem? (i := 101) rfl)) (hts (.initialized RX3) (List.mem_of_getElem? (i := 6) rfl)) (by decide +kernel) ⟨Nat.le_of_ble_eq_true rfl, Nat.le_of_ble_eq_true rfl⟩, (hts (.instanceMethod yX3_appendObject) (List.mem_of_getElem? (i := 11) rfl)), (hts (.selects RX3 yX3_appendObject yX3_appendObject) (List.mem_of_getElem? (i := 12) rfl))⟩ hE hP hN rfl (by decide) 4 rfl rfl rfl hl.1 (Nat.le_of_ble_eq_true rfl) dX0_run_12 ⟨Nat.zero_le _, Nat.zero_le _⟩) hP hN hS rfl rfl rfl rfl rfl (by decide) (fun H locs hP hS => ?_)
  refine lv_pop hx hb dX0_run_15 rfl ?_
  refine lv_iconst (v := 0) hx hb dX0_run_16 (by decide) ?_
  obtain ⟨v3_17, e_v3_17, hf⟩ := lt_some hf
  refine x_istore_n (v := v3_17) (lv' := [(3, .int v3_17), (0, .ref h), (1, .int v1), (2, .ref h_p2)]) hx hb dX0_run_17 e_v3_17 rfl hl (by decide) rfl (fun ls hl => ?_)
  exact L18 failedLimit failedObject failedRule   fu v3_17 draft_labels r_12.2.1 draft_sources r_4.2 draft_targets r_12.2.2 H locs ls hP hS (lv_sub hl [1, 3, 0] rfl) hf

def f_X10_append (v0 : Int32) (v1 : Int32) (v2 : Int32) : Option (Int32) :=
  some (v0 ||| (((v2 - 97) + 1) <<< ((2 * v1) &&& 31)))
set_option maxHeartbeats 4000000 in
set_option maxRecDepth 100000 in
theorem k_X10_append (l : Launch) (D : va_G) (G : Nat → ClassId) (fu : Nat)    (v0 : Int32) (v1 : Int32) (v2 : Int32) (out : Int32) (hf : f_X10_append v0 v1 v2 = some out) : xMet l yX10_append wsX10_append (rM 0 0) D G [.int v0, .int v1, .int v2] [] (xQi D [] out) := by
  refine x_ent (cc := cX10_append) (maxL := 3) (by decide) rfl (Nat.le_of_ble_eq_true rfl) ?_
  intro p e s m blw meth c aa ls args Q H locs hQ hx hb hr hml hown hts hlocks hE hN hl hP hS
  have hown : s.vm.findClass RX10 = some m.cls := hown
  have hl : lv_has ls 3 [(0, .int v0), (1, .int v1), (2, .int v2)] := hl
  refine lv_iload_n hx hb dX10_append_0 rfl (lv_at hl 0 rfl) ?_
  refine lv_iload_n hx hb dX10_append_1 rfl (lv_at hl 2 rfl) ?_
  refine lv_bipush (v := 97) hx hb dX10_append_2 (by decide) ?_
  refine lv_isub hx hb dX10_append_4 ?_
  refine lv_iconst (v := 1) hx hb dX10_append_5 (by decide) ?_
  refine lv_iadd hx hb dX10_append_6 ?_
  refine lv_iconst (v := 2) hx hb dX10_append_7 (by decide) ?_
  refine lv_iload_n hx hb dX10_append_8 rfl (lv_at hl 1 rfl) ?_
  refine lv_imul hx hb dX10_append_9 ?_
  refine lv_ishl hx hb dX10_append_10 ?_
  refine lv_ior hx hb dX10_append_11 ?_
  have hf := Option.some.inj hf
  rewrite [← hQ, ← hf]
  exact x_iret hx hb hr hlocks hP hS dX10_append_12

def f_X10_letterOf (v0 : Int32) (v1 : Int32) : Option (Int32) :=
  some (96 + ((v0 >>> ((2 * v1) &&& 31)) &&& 3))
set_option maxHeartbeats 4000000 in
set_option maxRecDepth 100000 in
theorem k_X10_letterOf (l : Launch) (D : va_G) (G : Nat → ClassId) (fu : Nat)    (v0 : Int32) (v1 : Int32) (out : Int32) (hf : f_X10_letterOf v0 v1 = some out) : xMet l yX10_letterOf wsX10_letterOf (rM 0 0) D G [.int v0, .int v1] [] (xQi D [] out) := by
  refine x_ent (cc := cX10_letterOf) (maxL := 2) (by decide) rfl (Nat.le_of_ble_eq_true rfl) ?_
  intro p e s m blw meth c aa ls args Q H locs hQ hx hb hr hml hown hts hlocks hE hN hl hP hS
  have hown : s.vm.findClass RX10 = some m.cls := hown
  have hl : lv_has ls 2 [(0, .int v0), (1, .int v1)] := hl
  refine lv_bipush (v := 96) hx hb dX10_letterOf_0 (by decide) ?_
  refine lv_iload_n hx hb dX10_letterOf_2 rfl (lv_at hl 0 rfl) ?_
  refine lv_iconst (v := 2) hx hb dX10_letterOf_3 (by decide) ?_
  refine lv_iload_n hx hb dX10_letterOf_4 rfl (lv_at hl 1 rfl) ?_
  refine lv_imul hx hb dX10_letterOf_5 ?_
  refine lv_ishr hx hb dX10_letterOf_6 ?_
  refine lv_iconst (v := 3) hx hb dX10_letterOf_7 (by decide) ?_
  refine lv_iand hx hb dX10_letterOf_8 ?_
  refine lv_iadd hx hb dX10_letterOf_9 ?_
  have hf := Option.some.inj hf
  rewrite [← hQ, ← hf]
  exact x_iret hx hb hr hlocks hP hS dX10_letterOf_10

def f_X11_isLabel (v0 : Int32) : Option (Int32) :=
  if v0 < 0 then (some 0) else (if 8 ≤ v0 then (some 0) else (some 1))
set_option maxHeartbeats 4000000 in
set_option maxRecDepth 100000 in
theorem k_X11_isLabel (l : Launch) (D : va_G) (G : Nat → ClassId) (fu : Nat)    (v0 : Int32) (out : Int32) (hf : f_X11_isLabel v0 = some out) : xMet l yX11_isLabel wsX11_isLabel (rM 0 0) D G [.int v0] [] (xQi D [] out) := by
  refine x_ent (cc := cX11_isLabel) (maxL := 1) (by decide) rfl (Nat.le_of_ble_eq_true rfl) ?_
  intro p e s m blw meth c aa ls args Q H locs hQ hx hb hr hml hown hts hlocks hE hN hl hP hS
  have hown : s.vm.findClass RX11 = some m.cls := hown
  have hl : lv_has ls 1 [(0, .int v0)] := hl
  refine lv_iload_n hx hb dX11_isLabel_0 rfl (lv_at hl 0 rfl) ?_
  refine lv_if_lt (tgt := 14) hx hb dX11_isLabel_1 (by decide) (fun c_1 => ?_) (fun c_1 => ?_)
  · have hf := it_pos c_1 hf
    refine lv_iconst (v := 0) hx hb dX11_isLabel_14 (by decide) ?_
    have hf := Option.some.inj hf
    rewrite [← hQ, ← hf]
    exact x_zret (r := 0) hx hb hr hlocks rfl hP hS dX11_isLabel_15
  · have hf := it_neg c_1 hf
    refine lv_iload_n hx hb dX11_isLabel_4 rfl (lv_at hl 0 rfl) ?_
    refine lv_bipush (v := 8) hx hb dX11_isLabel_5 (by decide) ?_
    refine lv_icmp_ge (tgt := 14) hx hb dX11_isLabel_7 (by decide) (fun c_7 => ?_) (fun c_7 => ?_)
    · have hf := it_pos c_7 hf
      refine lv_iconst (v := 0) hx hb dX11_isLabel_14 (by decide) ?_
      have hf := Option.some.inj hf
      rewrite [← hQ, ← hf]
      exact x_zret (r := 0) hx hb hr hlocks rfl hP hS dX11_isLabel_15
    · have hf := it_neg c_7 hf
      refine lv_iconst (v := 1) hx hb dX11_isLabel_10 (by decide) ?_
      refine lv_goto (tgt := 15) hx hb dX11_isLabel_11 (by decide) ?_
      have hf := Option.some.inj hf
      rewrite [← hQ, ← hf]
      exact x_zret (r := 1) hx hb hr hlocks rfl hP hS dX11_isLabel_15

def f_X11_isIn (v0 : Int32) (v1 : Int32) : Option (Int32) :=
  if ((v0 >>> (v1 &&& 31)) &&& 1) = 0 then (some 0) else (some 1)
set_option maxHeartbeats 4000000 in
set_option maxRecDepth 100000 in
theorem k_X11_isIn (l : Launch) (D : va_G) (G : Nat → ClassId) (fu : Nat)    (v0 : Int32) (v1 : Int32) (out : Int32) (hf : f_X11_isIn v0 v1 = some out) : xMet l yX11_isIn wsX11_isIn (rM 0 0) D G [.int v0, .int v1] [] (xQi D [] out) := by
  refine x_ent (cc := cX11_isIn) (maxL := 2) (by decide) rfl (Nat.le_of_ble_eq_true rfl) ?_
  intro p e s m blw meth c aa ls args Q H locs hQ hx hb hr hml hown hts hlocks hE hN hl hP hS
  have hown : s.vm.findClass RX11 = some m.cls := hown
  have hl : lv_has ls 2 [(0, .int v0), (1, .int v1)] := hl
  refine lv_iload_n hx hb dX11_isIn_0 rfl (lv_at hl 0 rfl) ?_
  refine lv_iload_n hx hb dX11_isIn_1 rfl (lv_at hl 1 rfl) ?_
  refine lv_ishr hx hb dX11_isIn_2 ?_
  refine lv_iconst (v := 1) hx hb dX11_isIn_3 (by decide) ?_
  refine lv_iand hx hb dX11_isIn_4 ?_
  refine lv_if_eq (tgt := 12) hx hb dX11_isIn_5 (by decide) (fun c_5 => ?_) (fun c_5 => ?_)
  · have hf := it_pos c_5 hf
    refine lv_iconst (v := 0) hx hb dX11_isIn_12 (by decide) ?_
    have hf := Option.some.inj hf
    rewrite [← hQ, ← hf]
    exact x_zret (r := 0) hx hb hr hlocks rfl hP hS dX11_isIn_13
  · have hf := it_neg c_5 hf
    refine lv_iconst (v := 1) hx hb dX11_isIn_8 (by decide) ?_
    refine lv_goto (tgt := 13) hx hb dX11_isIn_9 (by decide) ?_
    have hf := Option.some.inj hf
    rewrite [← hQ, ← hf]
    exact x_zret (r := 1) hx hb hr hlocks rfl hP hS dX11_isIn_13

set_option maxRecDepth 20000 in
theorem u_X2_isAbove_X2 : ∀ w ∈ wsX20, w ∈ wsX2_isAbove := xx_pl _ [5, 6] (by decide +kernel)
def f_X2_isAbove (below : (Nat → Int32)) (v1 : Int32) (v2 : Int32) : Option (Int32) :=
  ck v1 8 ((f_X11_isIn (below v1.toNatClampNeg) v2).bind (fun r_7 => ckb r_7 (some r_7)))
set_option maxHeartbeats 4000000 in
set_option maxRecDepth 100000 in
theorem k_X2_isAbove (l : Launch) (D : va_G) (G : Nat → ClassId) (fu : Nat) (h : Nat) (a_pairs : Nat) (a_below : Nat) (below : (Nat → Int32))  (v1 : Int32) (v2 : Int32) (out : Int32) (hf : f_X2_isAbove below v1 v2 = some out) : xMet l yX2_isAbove wsX2_isAbove (rM 1 21) D G [.ref h, .int v1, .int v2] [[(h, .inr (2, [.ref a_pairs, .ref a_below]))], [(a_below, .inl (G 0, 8, .inl below))]] (xQi D [[(h, .inr (2, [.ref a_pairs, .ref a_below]))], [(a_below, .inl (G 0, 8, .inl below))]] out) := by
  refine x_ent (cc := cX2_isAbove) (maxL := 3) (by decide) rfl (Nat.le_of_ble_eq_true rfl) ?_
  intro p e s m blw meth c aa ls args Q H locs hQ hx hb hr hml hown hts hlocks hE hN hl hP hS
  have hown : s.vm.findClass RX2 = some m.cls := hown
  have hl : lv_has ls 3 [(0, .ref h), (1, .int v1), (2, .int v2)] := hl
  refine lv_aload_n hx hb dX2_isAbove_0 rfl (lv_at hl 0 rfl) ?_
  refine x_get hx hb hts u_X2_isAbove_X2 hown hE hP 0 rfl rfl 1 (by decide) (hts (.fieldLink RX2 15 "DecreasingDiagrams$LabelOrder" "below" "[I") (List.mem_of_getElem? (i := 1) rfl)) rfl dX2_isAbove_1 ?_
  refine lv_iload_n hx hb dX2_isAbove_4 rfl (lv_at hl 1 rfl) ?_
  obtain ⟨hi, hf⟩ := ck_some hf
  refine x_iald hx hb hE hP 1 rfl hi dX2_isAbove_5 ?_
  refine lv_iload_n hx hb dX2_isAbove_6 rfl (lv_at hl 2 rfl) ?_
  obtain ⟨r_7, hr_7, hf⟩ := bd_some hf
  refine x_goi0 (ps := []) (x_runSN (As := [.int (below v1.toNatClampNeg), .int v2]) (rest := []) (ps := []) ⟨hx, hb, hml, hown, hts⟩ (k_X11_isIn l D G fu (below v1.toNatClampNeg) v2 r_7 hr_7) ⟨va_cnB 2 hts gX2_isAbove_X11_isIn_n18 rfl rfl rfl (hE.2 (.methodLinkNest RX2 18 yX11_isIn RX11) (List.mem_of_getElem? (i := 54) rfl)) (hts (.initialized RX11) (List.mem_of_getElem? (i := 3) rfl)) (by decide +kernel) ⟨Nat.le_of_ble_eq_true rfl, Nat.le_of_ble_eq_true rfl⟩, (hts (.static yX11_isIn) (List.mem_of_getElem? (i := 2) rfl)), trivial⟩ hE hP hN rfl (by decide) rfl hl.1 (Nat.le_of_ble_eq_true rfl) dX2_isAbove_7 ⟨Nat.zero_le _, Nat.zero_le _⟩) hP hN hS rfl (fun H locs hP hS => ?_)
  obtain ⟨hz, hf⟩ := ckb_some hf
  have hf := Option.some.inj hf
  rewrite [← hQ, ← hf]
  exact x_zret (r := r_7) hx hb hr hlocks hz hP hS dX2_isAbove_10

set_option maxRecDepth 20000 in
theorem u_X2_hasPair_X2 : ∀ w ∈ wsX20, w ∈ wsX2_hasPair := xx_pl _ [5, 6] (by decide +kernel)
def f_X2_hasPair (pairs : (Nat → Int32)) (v1 : Int32) (v2 : Int32) : Option (Int32) :=
  ck v1 8 ((f_X11_isIn (pairs v1.toNatClampNeg) v2).bind (fun r_7 => ckb r_7 (some r_7)))
set_option maxHeartbeats 4000000 in
set_option maxRecDepth 100000 in
theorem k_X2_hasPair (l : Launch) (D : va_G) (G : Nat → ClassId) (fu : Nat) (h : Nat) (a_pairs : Nat) (a_below : Nat) (pairs : (Nat → Int32))  (v1 : Int32) (v2 : Int32) (out : Int32) (hf : f_X2_hasPair pairs v1 v2 = some out) : xMet l yX2_hasPair wsX2_hasPair (rM 1 21) D G [.ref h, .int v1, .int v2] [[(h, .inr (2, [.ref a_pairs, .ref a_below]))], [(a_pairs, .inl (G 0, 8, .inl pairs))]] (xQi D [[(h, .inr (2, [.ref a_pairs, .ref a_below]))], [(a_pairs, .inl (G 0, 8, .inl pairs))]] out) := by
  refine x_ent (cc := cX2_hasPair) (maxL := 3) (by decide) rfl (Nat.le_of_ble_eq_true rfl) ?_
  intro p e s m blw meth c aa ls args Q H locs hQ hx hb hr hml hown hts hlocks hE hN hl hP hS
  have hown : s.vm.findClass RX2 = some m.cls := hown
  have hl : lv_has ls 3 [(0, .ref h), (1, .int v1), (2, .int v2)] := hl
  refine lv_aload_n hx hb dX2_hasPair_0 rfl (lv_at hl 0 rfl) ?_
  refine x_get hx hb hts u_X2_hasPair_X2 hown hE hP 0 rfl rfl 0 (by decide) (hts (.fieldLink RX2 9 "DecreasingDiagrams$LabelOrder" "pairs" "[I") (List.mem_of_getElem? (i := 1) rfl)) rfl dX2_hasPair_1 ?_
  refine lv_iload_n hx hb dX2_hasPair_4 rfl (lv_at hl 1 rfl) ?_
  obtain ⟨hi, hf⟩ := ck_some hf
  refine x_iald hx hb hE hP 1 rfl hi dX2_hasPair_5 ?_
  refine lv_iload_n hx hb dX2_hasPair_6 rfl (lv_at hl 2 rfl) ?_
  obtain ⟨r_7, hr_7, hf⟩ := bd_some hf
  refine x_goi0 (ps := []) (x_runSN (As := [.int (pairs v1.toNatClampNeg), .int v2]) (rest := []) (ps := []) ⟨hx, hb, hml, hown, hts⟩ (k_X11_isIn l D G fu (pairs v1.toNatClampNeg) v2 r_7 hr_7) ⟨va_cnB 2 hts gX2_hasPair_X11_isIn_n18 rfl rfl rfl (hE.2 (.methodLinkNest RX2 18 yX11_isIn RX11) (List.mem_of_getElem? (i := 54) rfl)) (hts (.initialized RX11) (List.mem_of_getElem? (i := 3) rfl)) (by decide +kernel) ⟨Nat.le_of_ble_eq_true rfl, Nat.le_of_ble_eq_true rfl⟩, (hts (.static yX11_isIn) (List.mem_of_getElem? (i := 2) rfl)), trivial⟩ hE hP hN rfl (by decide) rfl hl.1 (Nat.le_of_ble_eq_true rfl) dX2_hasPair_7 ⟨Nat.zero_le _, Nat.zero_le _⟩) hP hN hS rfl (fun H locs hP hS => ?_)
  obtain ⟨hz, hf⟩ := ckb_some hf
  have hf := Option.some.inj hf
  rewrite [← hQ, ← hf]
  exact x_zret (r := r_7) hx hb hr hlocks hz hP hS dX2_hasPair_10

set_option maxRecDepth 20000 in
theorem u_X2_close_X2 : ∀ w ∈ wsX20, w ∈ wsX2_close := xx_pl _ [10, 11] (by decide +kernel)
def f_X2_close_J65 (rec_17 : (Int32 → (Nat → Int32) → Option ((Nat → Int32)))) (v1 : Int32) (below : (Nat → Int32)) : Option ((Nat → Int32)) :=
  lt (v1 + 1) (fun v1_65 => rec_17 v1_65 below)
def f_X2_close_J59 (rec_25 : (Int32 → (Nat → Int32) → Option ((Nat → Int32)))) (v2 : Int32) (below : (Nat → Int32)) : Option ((Nat → Int32)) :=
  lt (v2 + 1) (fun v2_59 => rec_25 v2_59 below)
def f_X2_close_L25 (v1 : Int32) (rec_17 : (Int32 → (Nat → Int32) → Option ((Nat → Int32)))) (rec_25 : Int32 → (Nat → Int32) → Option ((Nat → Int32))) (v2 : Int32) (below : (Nat → Int32)) : Option ((Nat → Int32)) :=
  if 8 ≤ v2 then (f_X2_close_J65 rec_17 v1 below) else (ck v2 8 ((f_X11_isIn (below v2.toNatClampNeg) v1).bind (fun r_38 => if r_38 = 0 then (f_X2_close_J59 rec_25 v2 below) else (ck v2 8 (ck v1 8 (ck v2 8 (lt (upd below v2.toNatClampNeg ((below v2.toNatClampNeg) ||| (below v1.toNatClampNeg))) (fun below_58 => f_X2_close_J59 rec_25 v2 below_58))))))))
def f_X2_close_L17 (fu : Nat) (rec_17 : Int32 → (Nat → Int32) → Option ((Nat → Int32))) (v1 : Int32) (below : (Nat → Int32)) : Option ((Nat → Int32)) :=
  if 8 ≤ v1 then (some below) else (lt (0 : Int32) (fun v2_24 => lp (τ := Int32 → (Nat → Int32) → Option ((Nat → Int32))) (fun _ _ => none) (f_X2_close_L25 v1 rec_17) fu v2_24 below))
def f_X2_close (fu : Nat) (below : (Nat → Int32)) (pairs : (Nat → Int32)) : Option ((Nat → Int32)) :=
  lt (va_cpy pairs below 0 0 8) (fun below_12 => lt (0 : Int32) (fun v1_16 => lp (τ := Int32 → (Nat → Int32) → Option ((Nat → Int32))) (fun _ _ => none) (f_X2_close_L17 fu) fu v1_16 below_12))
set_option maxHeartbeats 4000000 in
set_option maxRecDepth 100000 in
theorem k_X2_close (l : Launch) (D : va_G) (G : Nat → ClassId) (fu : Nat) (h : Nat) (a_pairs : Nat) (a_below : Nat) (below : (Nat → Int32)) (pairs : (Nat → Int32))   (out : (Nat → Int32)) (hf : f_X2_close fu below pairs = some out) : xMet l yX2_close wsX2_close (rM 1 26) D G [.ref h] [[(h, .inr (2, [.ref a_pairs, .ref a_below]))], [(a_below, .inl (G 0, 8, .inl below))], [(a_pairs, .inl (G 0, 8, .inl pairs))]] (xQv D [[(h, .inr (2, [.ref a_pairs, .ref a_below]))], [(a_below, .inl (G 0, 8, .inl out))], [(a_pairs, .inl (G 0, 8, .inl pairs))]]) := by
  refine x_ent (cc := cX2_close) (maxL := 3) (by decide) rfl (Nat.le_of_ble_eq_true rfl) ?_
  intro p e s m blw meth c aa ls args Q H locs hQ hx hb hr hml hown hts hlocks hE hN hl hP hS
  have hown : s.vm.findClass RX2 = some m.cls := hown
  have hl : lv_has ls 3 [(0, .ref h)] := hl
  have L17 : ∀ (n_17 : Nat) (v1 : Int32) (below : (Nat → Int32)) (H : Heap) (locs : List Loc) (ls : Array Slot), xW D aa [[(h, .inr (2, [.ref a_pairs, .ref a_below]))], [(a_below, .inl (G 0, 8, .inl below))], [(a_pairs, .inl (G 0, 8, .inl pairs))]] H → va_S (xA aa) s.heap H locs → lv_has ls 3 [(0, .ref h), (1, .int v1)] → lp (τ := Int32 → (Nat → Int32) → Option ((Nat → Int32))) (fun _ _ => none) (f_X2_close_L17 fu) n_17 v1 below = some out → W p l e (rM 1 26) s m args blw meth c H locs 0 0 Q (F0 m 17 ls []) := by
    intro    n_17
    induction n_17 with
    | zero =>
      intro v1 below H locs ls hP hS hl hf
      exact no_some hf
    | succ n_17 ih_17 =>
      intro v1 below H locs ls hP hS hl hf
      have hf : f_X2_close_L17 fu (lp (τ := Int32 → (Nat → Int32) → Option ((Nat → Int32))) (fun _ _ => none) (f_X2_close_L17 fu) n_17) v1 below = some out := hf
      have J65 : ∀ (v1 : Int32) (below : (Nat → Int32)) (H : Heap) (locs : List Loc) (ls : Array Slot), xW D aa [[(h, .inr (2, [.ref a_pairs, .ref a_below]))], [(a_below, .inl (G 0, 8, .inl below))], [(a_pairs, .inl (G 0, 8, .inl pairs))]] H → va_S (xA aa) s.heap H locs → lv_has ls 3 [(0, .ref h), (1, .int v1)] → f_X2_close_J65 (lp (τ := Int32 → (Nat → Int32) → Option ((Nat → Int32))) (fun _ _ => none) (f_X2_close_L17 fu) n_17) v1 below = some out → W p l e (rM 1 26) s m args blw meth c H locs 0 0 Q (F0 m 65 ls []) := by
        intro v1 below  H locs ls  hP hS hl hf
        obtain ⟨v1_65, e_v1_65, hf⟩ := lt_some hf
        refine lv_iinc (v := v1_65) (lv' := [(1, .int v1_65), (0, .ref h)]) hx hb dX2_close_65 hl (k := 1) rfl (by rw [e_v1_65]; rfl) (by decide) rfl (fun ls hl => ?_)
        refine lv_goto (tgt := 17) hx hb dX2_close_68 (by decide) ?_
        exact ih_17 v1_65 below H locs ls hP hS (lv_sub hl [1, 0] rfl) hf
      have L25 : ∀ (v1 : Int32), ∀ (n_25 : Nat) (v2 : Int32) (below : (Nat → Int32)) (H : Heap) (locs : List Loc) (ls : Array Slot), xW D aa [[(h, .inr (2, [.ref a_pairs, .ref a_below]))], [(a_below, .inl (G 0, 8, .inl below))], [(a_pairs, .inl (G 0, 8, .inl pairs))]] H → va_S (xA aa) s.heap H locs → lv_has ls 3 [(0, .ref h), (1, .int v1), (2, .int v2)] → lp (τ := Int32 → (Nat → Int32) → Option ((Nat → Int32))) (fun _ _ => none) (f_X2_close_L25 v1 (lp (τ := Int32 → (Nat → Int32) → Option ((Nat → Int32))) (fun _ _ => none) (f_X2_close_L17 fu) n_17)) n_25 v2 below = some out → W p l e (rM 1 26) s m args blw meth c H locs 0 0 Q (F0 m 25 ls []) := by
        intro v1   n_25
        induction n_25 with
        | zero =>
          intro v2 below H locs ls hP hS hl hf
          exact no_some hf
        | succ n_25 ih_25 =>
          intro v2 below H locs ls hP hS hl hf
          have hf : f_X2_close_L25 v1 (lp (τ := Int32 → (Nat → Int32) → Option ((Nat → Int32))) (fun _ _ => none) (f_X2_close_L17 fu) n_17) (lp (τ := Int32 → (Nat → Int32) → Option ((Nat → Int32))) (fun _ _ => none) (f_X2_close_L25 v1 (lp (τ := Int32 → (Nat → Int32) → Option ((Nat → Int32))) (fun _ _ => none) (f_X2_close_L17 fu) n_17)) n_25) v2 below = some out := hf
          have J59 : ∀ (v2 : Int32) (below : (Nat → Int32)) (H : Heap) (locs : List Loc) (ls : Array Slot), xW D aa [[(h, .inr (2, [.ref a_pairs, .ref a_below]))], [(a_below, .inl (G 0, 8, .inl below))], [(a_pairs, .inl (G 0, 8, .inl pairs))]] H → va_S (xA aa) s.heap H locs → lv_has ls 3 [(0, .ref h), (1, .int v1), (2, .int v2)] → f_X2_close_J59 (lp (τ := Int32 → (Nat → Int32) → Option ((Nat → Int32))) (fun _ _ => none) (f_X2_close_L25 v1 (lp (τ := Int32 → (Nat → Int32) → Option ((Nat → Int32))) (fun _ _ => none) (f_X2_close_L17 fu) n_17)) n_25) v2 below = some out → W p l e (rM 1 26) s m args blw meth c H locs 0 0 Q (F0 m 59 ls []) := by
            intro v2 below  H locs ls  hP hS hl hf
            obtain ⟨v2_59, e_v2_59, hf⟩ := lt_some hf
            refine lv_iinc (v := v2_59) (lv' := [(2, .int v2_59), (0, .ref h), (1, .int v1)]) hx hb dX2_close_59 hl (k := 2) rfl (by rw [e_v2_59]; rfl) (by decide) rfl (fun ls hl => ?_)
            refine lv_goto (tgt := 25) hx hb dX2_close_62 (by decide) ?_
            exact ih_25 v2_59 below H locs ls hP hS (lv_sub hl [1, 2, 0] rfl) hf
          refine lv_iload_n hx hb dX2_close_25 rfl (lv_at hl 2 rfl) ?_
          refine lv_bipush (v := 8) hx hb dX2_close_26 (by decide) ?_
          refine lv_icmp_ge (tgt := 65) hx hb dX2_close_28 (by decide) (fun c_28 => ?_) (fun c_28 => ?_)
          · have hf := it_pos c_28 hf
            exact J65 v1 below  H locs ls  hP hS (lv_sub hl [0, 1] rfl) hf
          · have hf := it_neg c_28 hf
            refine lv_aload_n hx hb dX2_close_31 rfl (lv_at hl 0 rfl) ?_
            refine x_get hx hb hts u_X2_close_X2 hown hE hP 0 rfl rfl 1 (by decide) (hts (.fieldLink RX2 15 "DecreasingDiagrams$LabelOrder" "below" "[I") (List.mem_of_getElem? (i := 2) rfl)) rfl dX2_close_32 ?_
            refine lv_iload_n hx hb dX2_close_35 rfl (lv_at hl 2 rfl) ?_
            obtain ⟨hi, hf⟩ := ck_some hf
            refine x_iald hx hb hE hP 1 rfl hi dX2_close_36 ?_
            refine lv_iload_n hx hb dX2_close_37 rfl (lv_at hl 1 rfl) ?_
            obtain ⟨r_38, hr_38, hf⟩ := bd_some hf
            refine x_goi0 (ps := []) (x_runSN (As := [.int (below v2.toNatClampNeg), .int v1]) (rest := []) (ps := []) ⟨hx, hb, hml, hown, hts⟩ (k_X11_isIn l D G fu (below v2.toNatClampNeg) v1 r_38 hr_38) ⟨va_cnB 2 hts gX2_close_X11_isIn_n18 rfl rfl rfl (hE.2 (.methodLinkNest RX2 18 yX11_isIn RX11) (List.mem_of_getElem? (i := 54) rfl)) (hts (.initialized RX11) (List.mem_of_getElem? (i := 8) rfl)) (by decide +kernel) ⟨Nat.le_of_ble_eq_true rfl, Nat.le_of_ble_eq_true rfl⟩, (hts (.static yX11_isIn) (List.mem_of_getElem? (i := 7) rfl)), trivial⟩ hE hP hN rfl (by decide) rfl hl.1 (Nat.le_of_ble_eq_true rfl) dX2_close_38 ⟨Nat.zero_le _, Nat.zero_le _⟩) hP hN hS rfl (fun H locs hP hS => ?_)
            refine lv_if_eq (tgt := 59) hx hb dX2_close_41 (by decide) (fun c_41 => ?_) (fun c_41 => ?_)
            · have hf := it_pos c_41 hf
              exact J59 v2 below  H locs ls  hP hS (lv_sub hl [0, 1, 2] rfl) hf
            · have hf := it_neg c_41 hf
              refine lv_aload_n hx hb dX2_close_44 rfl (lv_at hl 0 rfl) ?_
              refine x_get hx hb hts u_X2_close_X2 hown hE hP 0 rfl rfl 1 (by decide) (hts (.fieldLink RX2 15 "DecreasingDiagrams$LabelOrder" "below" "[I") (List.mem_of_getElem? (i := 2) rfl)) rfl dX2_close_45 ?_
              refine lv_iload_n hx hb dX2_close_48 rfl (lv_at hl 2 rfl) ?_
              refine lv_dup2_11 hx hb dX2_close_49 rfl rfl ?_
              obtain ⟨hi, hf⟩ := ck_some hf
              refine x_iald hx hb hE hP 1 rfl hi dX2_close_50 ?_
              refine lv_aload_n hx hb dX2_close_51 rfl (lv_at hl 0 rfl) ?_
              refine x_get hx hb hts u_X2_close_X2 hown hE hP 0 rfl rfl 1 (by decide) (hts (.fieldLink RX2 15 "DecreasingDiagrams$LabelOrder" "below" "[I") (List.mem_of_getElem? (i := 2) rfl)) rfl dX2_close_52 ?_
              refine lv_iload_n hx hb dX2_close_55 rfl (lv_at hl 1 rfl) ?_
              obtain ⟨hi, hf⟩ := ck_some hf
              refine x_iald hx hb hE hP 1 rfl hi dX2_close_56 ?_
              refine lv_ior hx hb dX2_close_57 ?_
              obtain ⟨hi, hf⟩ := ck_some hf
              obtain ⟨below_58, e_below_58, hf⟩ := lt_some hf
              refine x_iast (I' := [[(h, .inr (2, [.ref a_pairs, .ref a_below]))], [(a_below, .inl (G 0, 8, .inl below_58))], [(a_pairs, .inl (G 0, 8, .inl pairs))]]) hx hb hE hP hN hS 1 rfl hi e_below_58 rfl dX2_close_58 (fun H locs hP hS => ?_)
              exact J59 v2 below_58  H locs ls  hP hS (lv_sub hl [0, 1, 2] rfl) hf
      refine lv_iload_n hx hb dX2_close_17 rfl (lv_at hl 1 rfl) ?_
      refine lv_bipush (v := 8) hx hb dX2_close_18 (by decide) ?_
      refine lv_icmp_ge (tgt := 71) hx hb dX2_close_20 (by decide) (fun c_20 => ?_) (fun c_20 => ?_)
      · have hf := it_pos c_20 hf
        have hf := Option.some.inj hf
        rewrite [← hQ, ← hf]
        exact x_vret hx hb hr hlocks hP hS dX2_close_71
      · have hf := it_neg c_20 hf
        refine lv_iconst (v := 0) hx hb dX2_close_23 (by decide) ?_
        obtain ⟨v2_24, e_v2_24, hf⟩ := lt_some hf
        refine x_istore_n (v := v2_24) (lv' := [(2, .int v2_24), (0, .ref h), (1, .int v1)]) hx hb dX2_close_24 e_v2_24 rfl hl (by decide) rfl (fun ls hl => ?_)
        exact L25 v1   fu v2_24 below H locs ls hP hS (lv_sub hl [1, 2, 0] rfl) hf
  refine lv_aload_n hx hb dX2_close_0 rfl (lv_at hl 0 rfl) ?_
  refine x_get hx hb hts u_X2_close_X2 hown hE hP 0 rfl rfl 0 (by decide) (hts (.fieldLink RX2 9 "DecreasingDiagrams$LabelOrder" "pairs" "[I") (List.mem_of_getElem? (i := 1) rfl)) rfl dX2_close_1 ?_
  refine lv_iconst (v := 0) hx hb dX2_close_4 (by decide) ?_
  refine lv_aload_n hx hb dX2_close_5 rfl (lv_at hl 0 rfl) ?_
  refine x_get hx hb hts u_X2_close_X2 hown hE hP 0 rfl rfl 1 (by decide) (hts (.fieldLink RX2 15 "DecreasingDiagrams$LabelOrder" "below" "[I") (List.mem_of_getElem? (i := 2) rfl)) rfl dX2_close_6 ?_
  refine lv_iconst (v := 0) hx hb dX2_close_9 (by decide) ?_
  refine lv_bipush (v := 8) hx hb dX2_close_10 (by decide) ?_
  obtain ⟨below_12, e_below_12, hf⟩ := lt_some hf
  refine x_copyi (I' := [[(h, .inr (2, [.ref a_pairs, .ref a_below]))], [(a_below, .inl (G 0, 8, .inl below_12))], [(a_pairs, .inl (G 0, 8, .inl pairs))]]) hx hb (hml.trans hl.1.symm) hown (hts (.methodLink RX2 31 arraycopyName) (List.mem_of_getElem? (i := 3) rfl)) (hts (.native arraycopyName) (List.mem_of_getElem? (i := 4) rfl)) (hts (.static arraycopyName) (List.mem_of_getElem? (i := 5) rfl)) (hts (.initialized RJ10) (List.mem_of_getElem? (i := 6) rfl)) hE hP hN hS 2 1 rfl rfl (by decide) (by decide) (by decide) (by decide) (by decide) (by decide) (by decide) (by rw [e_below_12]; rfl) rfl dX2_close_12 (fun H locs hP hS => ?_)
  refine lv_iconst (v := 0) hx hb dX2_close_15 (by decide) ?_
  obtain ⟨v1_16, e_v1_16, hf⟩ := lt_some hf
  refine x_istore_n (v := v1_16) (lv' := [(1, .int v1_16), (0, .ref h)]) hx hb dX2_close_16 e_v1_16 rfl hl (by decide) rfl (fun ls hl => ?_)
  exact L17    fu v1_16 below_12 H locs ls hP hS (lv_sub hl [1, 0] rfl) hf

set_option maxRecDepth 20000 in
theorem u_X2_put_X2 : ∀ w ∈ wsX20, w ∈ wsX2_put := xx_pl _ [15, 16] (by decide +kernel)
def f_X2_put (fu : Nat) (below : (Nat → Int32)) (pairs : (Nat → Int32)) (v1 : Int32) (v2 : Int32) : Option ((Nat → Int32) × (Nat → Int32)) :=
  ck v1 8 (ck v1 8 (lt (upd pairs v1.toNatClampNeg ((pairs v1.toNatClampNeg) ||| (1 <<< (v2 &&& 31)))) (fun pairs_11 => (f_X2_close fu below pairs_11).bind (fun r_13 => some (r_13, pairs_11)))))
set_option maxHeartbeats 4000000 in
set_option maxRecDepth 100000 in
theorem k_X2_put (l : Launch) (D : va_G) (G : Nat → ClassId) (fu : Nat) (h : Nat) (a_pairs : Nat) (a_below : Nat) (below : (Nat → Int32)) (pairs : (Nat → Int32))  (v1 : Int32) (v2 : Int32) (out : (Nat → Int32) × (Nat → Int32)) (hf : f_X2_put fu below pairs v1 v2 = some out) : xMet l yX2_put wsX2_put (rM 2 48) D G [.ref h, .int v1, .int v2] [[(h, .inr (2, [.ref a_pairs, .ref a_below]))], [(a_below, .inl (G 0, 8, .inl below))], [(a_pairs, .inl (G 0, 8, .inl pairs))]] (xQv D [[(h, .inr (2, [.ref a_pairs, .ref a_below]))], [(a_below, .inl (G 0, 8, .inl out.1))], [(a_pairs, .inl (G 0, 8, .inl out.2))]]) := by
  refine x_ent (cc := cX2_put) (maxL := 3) (by decide) rfl (Nat.le_of_ble_eq_true rfl) ?_
  intro p e s m blw meth c aa ls args Q H locs hQ hx hb hr hml hown hts hlocks hE hN hl hP hS
  have hown : s.vm.findClass RX2 = some m.cls := hown
  have hl : lv_has ls 3 [(0, .ref h), (1, .int v1), (2, .int v2)] := hl
  refine lv_aload_n hx hb dX2_put_0 rfl (lv_at hl 0 rfl) ?_
  refine x_get hx hb hts u_X2_put_X2 hown hE hP 0 rfl rfl 0 (by decide) (hts (.fieldLink RX2 9 "DecreasingDiagrams$LabelOrder" "pairs" "[I") (List.mem_of_getElem? (i := 1) rfl)) rfl dX2_put_1 ?_
  refine lv_iload_n hx hb dX2_put_4 rfl (lv_at hl 1 rfl) ?_
  refine lv_dup2_11 hx hb dX2_put_5 rfl rfl ?_
  obtain ⟨hi, hf⟩ := ck_some hf
  refine x_iald hx hb hE hP 2 rfl hi dX2_put_6 ?_
  refine lv_iconst (v := 1) hx hb dX2_put_7 (by decide) ?_
  refine lv_iload_n hx hb dX2_put_8 rfl (lv_at hl 2 rfl) ?_
  refine lv_ishl hx hb dX2_put_9 ?_
  refine lv_ior hx hb dX2_put_10 ?_
  obtain ⟨hi, hf⟩ := ck_some hf
  obtain ⟨pairs_11, e_pairs_11, hf⟩ := lt_some hf
  refine x_iast (I' := [[(h, .inr (2, [.ref a_pairs, .ref a_below]))], [(a_below, .inl (G 0, 8, .inl below))], [(a_pairs, .inl (G 0, 8, .inl pairs_11))]]) hx hb hE hP hN hS 2 rfl hi e_pairs_11 rfl dX2_put_11 (fun H locs hP hS => ?_)
  refine lv_aload_n hx hb dX2_put_12 rfl (lv_at hl 0 rfl) ?_
  obtain ⟨r_13, hr_13, hf⟩ := bd_some hf
  refine x_gov (ps := [0, 1, 2]) (qs := []) (n := 3) (I' := [[(h, .inr (2, [.ref a_pairs, .ref a_below]))], [(a_below, .inl (G 0, 8, .inl r_13))], [(a_pairs, .inl (G 0, 8, .inl pairs_11))]]) (x_runV (As := []) (rest := []) (ps := [0, 1, 2]) ⟨hx, hb, hml, hown, hts⟩ (k_X2_close l D G fu h a_pairs a_below below pairs_11 r_13 hr_13) (cwV 0 hts gX2_put_X2_close rfl rfl rfl (by decide +kernel) ⟨Nat.le_of_ble_eq_true rfl, Nat.le_of_ble_eq_true rfl⟩) hE hP hN rfl (by decide) 0 rfl rfl rfl hl.1 (Nat.le_of_ble_eq_true rfl) dX2_put_13 ⟨Nat.zero_le _, Nat.zero_le _⟩) hP hN hS rfl rfl rfl rfl rfl (by decide) (fun H locs hP hS => ?_)
  have hf := Option.some.inj hf
  rewrite [← hQ, ← hf]
  exact x_vret hx hb hr hlocks hP hS dX2_put_16
