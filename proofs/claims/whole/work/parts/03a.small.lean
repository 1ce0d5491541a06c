def f_J6_bitCount_0f7a4 (v0 : Int32) : Option (Int32) :=
  lt (v0 - (((v0.toUInt32 >>> (Int32.toUInt32 1 &&& Int32.toUInt32 31)).toInt32) &&& 1431655765)) (fun v0_9 => lt ((v0_9 &&& 858993459) + (((v0_9.toUInt32 >>> (Int32.toUInt32 2 &&& Int32.toUInt32 31)).toInt32) &&& 858993459)) (fun v0_23 => lt ((v0_23 + ((v0_23.toUInt32 >>> (Int32.toUInt32 4 &&& Int32.toUInt32 31)).toInt32)) &&& 252645135) (fun v0_33 => lt (v0_33 + ((v0_33.toUInt32 >>> (Int32.toUInt32 8 &&& Int32.toUInt32 31)).toInt32)) (fun v0_40 => lt (v0_40 + ((v0_40.toUInt32 >>> (Int32.toUInt32 16 &&& Int32.toUInt32 31)).toInt32)) (fun v0_47 => some (v0_47 &&& 63))))))
set_option maxHeartbeats 4000000 in
set_option maxRecDepth 100000 in
theorem k_J6_bitCount_0f7a4 (l : Launch) (D : va_G) (G : Nat → ClassId)    (v0 : Int32) (out : Int32) (hf : f_J6_bitCount_0f7a4 v0 = some out) : xMet l yJ6_bitCount_0f7a4 wsJ6_bitCount_0f7a4 (rM 0 0) D G [.int v0] [] (xQi D [] out) := by
  refine x_ent (cc := cJ6_bitCount_0f7a4) (maxL := 1) (by decide) rfl (Nat.le_of_ble_eq_true rfl) ?_
  intro p e s m below meth c aa ls args Q hQ hx hb hr hml hown hts hlocks hE hN hP hl hS
  have hown : s.vm.findClass RJ6 = some m.cls := hown
  have hl : lv_has ls 1 [(0, .int v0)] := hl
  rw [f_J6_bitCount_0f7a4] at hf
  obtain ⟨H, hH⟩ : ∃ H : Heap, H = s.heap := ⟨_, rfl⟩
  obtain ⟨locs, hlocs⟩ : ∃ locs : List Loc, locs = [] := ⟨_, rfl⟩
  have hP : xW D aa [] H := by rw [hH]; exact hP
  have hS : va_S (xA aa) s.heap H locs := by rw [hH, hlocs]; exact hS
  suffices GO : W p l e (rM 0 0) s m args below meth c H locs 0 0 Q (F0 m 0 ls []) by
    rw [hH, hlocs] at GO
    exact GO
  clear hH hlocs
  refine lv_iload_n hx hb dJ6_bitCount_0f7a4_0 rfl (lv_at hl 0 rfl) ?_
  refine lv_iload_n hx hb dJ6_bitCount_0f7a4_1 rfl (lv_at hl 0 rfl) ?_
  refine lv_iconst (v := 1) hx hb dJ6_bitCount_0f7a4_2 (by decide) ?_
  refine lv_iushr hx hb dJ6_bitCount_0f7a4_3 rfl ?_
  refine lv_ldcw (v := 1431655765) hx hb hown (hts (.constant RJ6 265 (1431655765)) (List.mem_of_getElem? (i := 1) rfl)) dJ6_bitCount_0f7a4_4 ?_
  refine lv_iand hx hb dJ6_bitCount_0f7a4_7 ?_
  refine lv_isub hx hb dJ6_bitCount_0f7a4_8 ?_
  obtain ⟨v0_9, e_v0_9, hf⟩ := lt_some hf
  refine x_istore_n (v := v0_9) (lv' := [(0, .int v0_9)]) hx hb dJ6_bitCount_0f7a4_9 e_v0_9 rfl hl (by decide) rfl (fun ls hl => ?_)
  refine lv_iload_n hx hb dJ6_bitCount_0f7a4_10 rfl (lv_at hl 0 rfl) ?_
  refine lv_ldcw (v := 858993459) hx hb hown (hts (.constant RJ6 266 (858993459)) (List.mem_of_getElem? (i := 2) rfl)) dJ6_bitCount_0f7a4_11 ?_
  refine lv_iand hx hb dJ6_bitCount_0f7a4_14 ?_
  refine lv_iload_n hx hb dJ6_bitCount_0f7a4_15 rfl (lv_at hl 0 rfl) ?_
  refine lv_iconst (v := 2) hx hb dJ6_bitCount_0f7a4_16 (by decide) ?_
  refine lv_iushr hx hb dJ6_bitCount_0f7a4_17 rfl ?_
  refine lv_ldcw (v := 858993459) hx hb hown (hts (.constant RJ6 266 (858993459)) (List.mem_of_getElem? (i := 2) rfl)) dJ6_bitCount_0f7a4_18 ?_
  refine lv_iand hx hb dJ6_bitCount_0f7a4_21 ?_
  refine lv_iadd hx hb dJ6_bitCount_0f7a4_22 ?_
  obtain ⟨v0_23, e_v0_23, hf⟩ := lt_some hf
  refine x_istore_n (v := v0_23) (lv' := [(0, .int v0_23)]) hx hb dJ6_bitCount_0f7a4_23 e_v0_23 rfl hl (by decide) rfl (fun ls hl => ?_)
  refine lv_iload_n hx hb dJ6_bitCount_0f7a4_24 rfl (lv_at hl 0 rfl) ?_
  refine lv_iload_n hx hb dJ6_bitCount_0f7a4_25 rfl (lv_at hl 0 rfl) ?_
  refine lv_iconst (v := 4) hx hb dJ6_bitCount_0f7a4_26 (by decide) ?_
  refine lv_iushr hx hb dJ6_bitCount_0f7a4_27 rfl ?_
  refine lv_iadd hx hb dJ6_bitCount_0f7a4_28 ?_
  refine lv_ldcw (v := 252645135) hx hb hown (hts (.constant RJ6 267 (252645135)) (List.mem_of_getElem? (i := 3) rfl)) dJ6_bitCount_0f7a4_29 ?_
  refine lv_iand hx hb dJ6_bitCount_0f7a4_32 ?_
  obtain ⟨v0_33, e_v0_33, hf⟩ := lt_some hf
  refine x_istore_n (v := v0_33) (lv' := [(0, .int v0_33)]) hx hb dJ6_bitCount_0f7a4_33 e_v0_33 rfl hl (by decide) rfl (fun ls hl => ?_)
  refine lv_iload_n hx hb dJ6_bitCount_0f7a4_34 rfl (lv_at hl 0 rfl) ?_
  refine lv_iload_n hx hb dJ6_bitCount_0f7a4_35 rfl (lv_at hl 0 rfl) ?_
  refine lv_bipush (v := 8) hx hb dJ6_bitCount_0f7a4_36 (by decide) ?_
  refine lv_iushr hx hb dJ6_bitCount_0f7a4_38 rfl ?_
  refine lv_iadd hx hb dJ6_bitCount_0f7a4_39 ?_
  obtain ⟨v0_40, e_v0_40, hf⟩ := lt_some hf
  refine x_istore_n (v := v0_40) (lv' := [(0, .int v0_40)]) hx hb dJ6_bitCount_0f7a4_40 e_v0_40 rfl hl (by decide) rfl (fun ls hl => ?_)
  refine lv_iload_n hx hb dJ6_bitCount_0f7a4_41 rfl (lv_at hl 0 rfl) ?_
  refine lv_iload_n hx hb dJ6_bitCount_0f7a4_42 rfl (lv_at hl 0 rfl) ?_
  refine lv_bipush (v := 16) hx hb dJ6_bitCount_0f7a4_43 (by decide) ?_
  refine lv_iushr hx hb dJ6_bitCount_0f7a4_45 rfl ?_
  refine lv_iadd hx hb dJ6_bitCount_0f7a4_46 ?_
  obtain ⟨v0_47, e_v0_47, hf⟩ := lt_some hf
  refine x_istore_n (v := v0_47) (lv' := [(0, .int v0_47)]) hx hb dJ6_bitCount_0f7a4_47 e_v0_47 rfl hl (by decide) rfl (fun ls hl => ?_)
  refine lv_iload_n hx hb dJ6_bitCount_0f7a4_48 rfl (lv_at hl 0 rfl) ?_
  refine lv_bipush (v := 63) hx hb dJ6_bitCount_0f7a4_49 (by decide) ?_
  refine lv_iand hx hb dJ6_bitCount_0f7a4_51 ?_
  have hf := Option.some.inj hf
  subst hf
  subst hQ
  exact x_iret hx hb hr hlocks hP hS dJ6_bitCount_0f7a4_52

def f_J7_fill_53178_L5 (n_p0 : Nat) (v1 : Int32) (v3 : Int32) (rec_5 : Int32 → (Nat → Int32) → Option ((Nat → Int32))) (v2 : Int32) (p0 : (Nat → Int32)) : Option ((Nat → Int32)) :=
  if v3 ≤ v2 then (some p0) else (ck v2 n_p0 (lt (upd p0 v2.toNatClampNeg v1) (fun p0_13 => lt (v2 + 1) (fun v2_14 => rec_5 v2_14 p0_13))))
def f_J7_fill_53178 (p0 : (Nat → Int32)) (n_p0 : Nat) (v1 : Int32) : Option ((Nat → Int32)) :=
  lt 0 (fun v2_1 => lt (Int32.ofNat n_p0) (fun v3_4 => lp (τ := Int32 → (Nat → Int32) → Option ((Nat → Int32))) (fun _ _ => none) (f_J7_fill_53178_L5 n_p0 v1 v3_4) fuel v2_1 p0))
set_option maxHeartbeats 4000000 in
set_option maxRecDepth 100000 in
theorem k_J7_fill_53178 (l : Launch) (D : va_G) (G : Nat → ClassId) (a_p0 : Nat) (p0 : (Nat → Int32)) (n_p0 : Nat) (v1 : Int32) (out : (Nat → Int32)) (hf : f_J7_fill_53178 p0 n_p0 v1 = some out) : xMet l yJ7_fill_53178 wsJ7_fill_53178 (rM 0 0) D G [.ref a_p0, .int v1] [[(a_p0, .inl (G 0, n_p0, .inl p0))]] (xQv D [[(a_p0, .inl (G 0, n_p0, .inl out))]]) := by
  refine x_ent (cc := cJ7_fill_53178) (maxL := 4) (by decide) rfl (Nat.le_of_ble_eq_true rfl) ?_
  intro p e s m below meth c aa ls args Q hQ hx hb hr hml hown hts hlocks hE hN hP hl hS
  have hown : s.vm.findClass RJ7 = some m.cls := hown
  have hl : lv_has ls 4 [(0, .ref a_p0), (1, .int v1)] := hl
  have L5 : ∀ (v3 : Int32), ∀ (n_5 : Nat) (v2 : Int32) (p0 : (Nat → Int32)) (H : Heap) (locs : List Loc) (ls : Array Slot), xW D aa [[(a_p0, .inl (G 0, n_p0, .inl p0))]] H → va_S (xA aa) s.heap H locs → lv_has ls 4 [(0, .ref a_p0), (1, .int v1), (2, .int v2), (3, .int v3)] → lp (τ := Int32 → (Nat → Int32) → Option ((Nat → Int32))) (fun _ _ => none) (f_J7_fill_53178_L5 n_p0 v1 v3) n_5 v2 p0 = some out → W p l e (rM 0 0) s m args below meth c H locs 0 0 Q (F0 m 5 ls []) := by
    intro v3   n_5
    induction n_5 with
    | zero =>
      intro v2 p0 H locs ls hP hS hl hf
      exact no_some hf
    | succ n_5 ih_5 =>
      intro v2 p0 H locs ls hP hS hl hf
      have hf : f_J7_fill_53178_L5 n_p0 v1 v3 (lp (τ := Int32 → (Nat → Int32) → Option ((Nat → Int32))) (fun _ _ => none) (f_J7_fill_53178_L5 n_p0 v1 v3) n_5) v2 p0 = some out := hf
      rw [f_J7_fill_53178_L5] at hf
      refine lv_iload_n hx hb dJ7_fill_53178_5 rfl (lv_at hl 2 rfl) ?_
      refine lv_iload_n hx hb dJ7_fill_53178_6 rfl (lv_at hl 3 rfl) ?_
      refine lv_icmp_ge (tgt := 20) hx hb dJ7_fill_53178_7 (by decide) (fun c_7 => ?_) (fun c_7 => ?_)
      · have hf := it_pos c_7 hf
        have hf := Option.some.inj hf
        subst hf
        subst hQ
        exact x_vret hx hb hr hlocks hP hS dJ7_fill_53178_20
      · have hf := it_neg c_7 hf
        refine lv_aload_n hx hb dJ7_fill_53178_10 rfl (lv_at hl 0 rfl) ?_
        refine lv_iload_n hx hb dJ7_fill_53178_11 rfl (lv_at hl 2 rfl) ?_
        refine lv_iload_n hx hb dJ7_fill_53178_12 rfl (lv_at hl 1 rfl) ?_
        obtain ⟨hi, hf⟩ := ck_some hf
        obtain ⟨p0_13, e_p0_13, hf⟩ := lt_some hf
        refine x_iast (I' := [[(a_p0, .inl (G 0, n_p0, .inl p0_13))]]) hx hb hE hP hN hS 0 rfl hi e_p0_13 rfl dJ7_fill_53178_13 (fun H locs hP hS => ?_)
        obtain ⟨v2_14, e_v2_14, hf⟩ := lt_some hf
        refine lv_iinc (v := v2_14) (lv' := [(2, .int v2_14), (0, .ref a_p0), (1, .int v1), (3, .int v3)]) hx hb dJ7_fill_53178_14 hl (k := 2) rfl (by rw [e_v2_14]; rfl) (by decide) rfl (fun ls hl => ?_)
        refine lv_goto (tgt := 5) hx hb dJ7_fill_53178_17 (by decide) ?_
        exact ih_5 v2_14 p0_13 H locs ls hP hS (lv_sub hl [1, 2, 0, 3] rfl) hf
  rw [f_J7_fill_53178] at hf
  obtain ⟨H, hH⟩ : ∃ H : Heap, H = s.heap := ⟨_, rfl⟩
  obtain ⟨locs, hlocs⟩ : ∃ locs : List Loc, locs = [] := ⟨_, rfl⟩
  have hP : xW D aa [[(a_p0, .inl (G 0, n_p0, .inl p0))]] H := by rw [hH]; exact hP
  have hS : va_S (xA aa) s.heap H locs := by rw [hH, hlocs]; exact hS
  suffices GO : W p l e (rM 0 0) s m args below meth c H locs 0 0 Q (F0 m 0 ls []) by
    rw [hH, hlocs] at GO
    exact GO
  clear hH hlocs
  refine lv_iconst (v := 0) hx hb dJ7_fill_53178_0 (by decide) ?_
  obtain ⟨v2_1, e_v2_1, hf⟩ := lt_some hf
  refine x_istore_n (v := v2_1) (lv' := [(2, .int v2_1), (0, .ref a_p0), (1, .int v1)]) hx hb dJ7_fill_53178_1 e_v2_1 rfl hl (by decide) rfl (fun ls hl => ?_)
  refine lv_aload_n hx hb dJ7_fill_53178_2 rfl (lv_at hl 1 rfl) ?_
  refine x_alen (v := Int32.ofNat n_p0) hx hb hE hP 0 0 rfl rfl rfl dJ7_fill_53178_3 ?_
  obtain ⟨v3_4, e_v3_4, hf⟩ := lt_some hf
  refine x_istore_n (v := v3_4) (lv' := [(3, .int v3_4), (2, .int v2_1), (0, .ref a_p0), (1, .int v1)]) hx hb dJ7_fill_53178_4 e_v3_4 rfl hl (by decide) rfl (fun ls hl => ?_)
  exact L5 v3_4   fuel v2_1 p0 H locs ls hP hS (lv_sub hl [2, 3, 1, 0] rfl) hf

def f_J7_fill_d0a16_L6 (n_p0 : Nat) (v1 : Int64) (v4 : Int32) (rec_6 : Int32 → (Nat → Int64) → Option ((Nat → Int64))) (v3 : Int32) (p0 : (Nat → Int64)) : Option ((Nat → Int64)) :=
  if v4 ≤ v3 then (some p0) else (ck v3 n_p0 (lt (vp_updL p0 v3.toNatClampNeg v1) (fun p0_15 => lt (v3 + 1) (fun v3_16 => rec_6 v3_16 p0_15))))
def f_J7_fill_d0a16 (p0 : (Nat → Int64)) (n_p0 : Nat) (v1 : Int64) : Option ((Nat → Int64)) :=
  lt 0 (fun v3_1 => lt (Int32.ofNat n_p0) (fun v4_4 => lp (τ := Int32 → (Nat → Int64) → Option ((Nat → Int64))) (fun _ _ => none) (f_J7_fill_d0a16_L6 n_p0 v1 v4_4) fuel v3_1 p0))
set_option maxHeartbeats 4000000 in
set_option maxRecDepth 100000 in
theorem k_J7_fill_d0a16 (l : Launch) (D : va_G) (G : Nat → ClassId) (a_p0 : Nat) (p0 : (Nat → Int64)) (n_p0 : Nat) (v1 : Int64) (out : (Nat → Int64)) (hf : f_J7_fill_d0a16 p0 n_p0 v1 = some out) : xMet l yJ7_fill_d0a16 wsJ7_fill_d0a16 (rM 0 0) D G [.ref a_p0, .long v1] [[(a_p0, .inl (G 1, n_p0, .inr (.inl p0)))]] (xQv D [[(a_p0, .inl (G 1, n_p0, .inr (.inl out)))]]) := by
  refine x_ent (cc := cJ7_fill_d0a16) (maxL := 5) (by decide) rfl (Nat.le_of_ble_eq_true rfl) ?_
  intro p e s m below meth c aa ls args Q hQ hx hb hr hml hown hts hlocks hE hN hP hl hS
  have hown : s.vm.findClass RJ7 = some m.cls := hown
  have hl : lv_has ls 5 [(0, .ref a_p0), (1, .long v1)] := hl
  have L6 : ∀ (v4 : Int32), ∀ (n_6 : Nat) (v3 : Int32) (p0 : (Nat → Int64)) (H : Heap) (locs : List Loc) (ls : Array Slot), xW D aa [[(a_p0, .inl (G 1, n_p0, .inr (.inl p0)))]] H → va_S (xA aa) s.heap H locs → lv_has ls 5 [(0, .ref a_p0), (1, .long v1), (3, .int v3), (4, .int v4)] → lp (τ := Int32 → (Nat → Int64) → Option ((Nat → Int64))) (fun _ _ => none) (f_J7_fill_d0a16_L6 n_p0 v1 v4) n_6 v3 p0 = some out → W p l e (rM 0 0) s m args below meth c H locs 0 0 Q (F0 m 6 ls []) := by
    intro v4   n_6
    induction n_6 with
    | zero =>
      intro v3 p0 H locs ls hP hS hl hf
      exact no_some hf
    | succ n_6 ih_6 =>
      intro v3 p0 H locs ls hP hS hl hf
      have hf : f_J7_fill_d0a16_L6 n_p0 v1 v4 (lp (τ := Int32 → (Nat → Int64) → Option ((Nat → Int64))) (fun _ _ => none) (f_J7_fill_d0a16_L6 n_p0 v1 v4) n_6) v3 p0 = some out := hf
      rw [f_J7_fill_d0a16_L6] at hf
      refine lv_iload_n hx hb dJ7_fill_d0a16_6 rfl (lv_at hl 2 rfl) ?_
      refine lv_iload hx hb dJ7_fill_d0a16_7 (lv_at hl 3 rfl) ?_
      refine lv_icmp_ge (tgt := 22) hx hb dJ7_fill_d0a16_9 (by decide) (fun c_9 => ?_) (fun c_9 => ?_)
      · have hf := it_pos c_9 hf
        have hf := Option.some.inj hf
        subst hf
        subst hQ
        exact x_vret hx hb hr hlocks hP hS dJ7_fill_d0a16_22
      · have hf := it_neg c_9 hf
        refine lv_aload_n hx hb dJ7_fill_d0a16_12 rfl (lv_at hl 0 rfl) ?_
        refine lv_iload_n hx hb dJ7_fill_d0a16_13 rfl (lv_at hl 2 rfl) ?_
        refine lv_lload_n hx hb dJ7_fill_d0a16_14 rfl (lv_at hl 1 rfl) ?_
        obtain ⟨hi, hf⟩ := ck_some hf
        obtain ⟨p0_15, e_p0_15, hf⟩ := lt_some hf
        refine x_last (I' := [[(a_p0, .inl (G 1, n_p0, .inr (.inl p0_15)))]]) hx hb hE hP hN hS 0 rfl hi e_p0_15 rfl dJ7_fill_d0a16_15 (fun H locs hP hS => ?_)
        obtain ⟨v3_16, e_v3_16, hf⟩ := lt_some hf
        refine lv_iinc (v := v3_16) (lv' := [(3, .int v3_16), (0, .ref a_p0), (1, .long v1), (4, .int v4)]) hx hb dJ7_fill_d0a16_16 hl (k := 2) rfl (by rw [e_v3_16]; rfl) (by decide) rfl (fun ls hl => ?_)
        refine lv_goto (tgt := 6) hx hb dJ7_fill_d0a16_19 (by decide) ?_
        exact ih_6 v3_16 p0_15 H locs ls hP hS (lv_sub hl [1, 2, 0, 3] rfl) hf
  rw [f_J7_fill_d0a16] at hf
  obtain ⟨H, hH⟩ : ∃ H : Heap, H = s.heap := ⟨_, rfl⟩
  obtain ⟨locs, hlocs⟩ : ∃ locs : List Loc, locs = [] := ⟨_, rfl⟩
  have hP : xW D aa [[(a_p0, .inl (G 1, n_p0, .inr (.inl p0)))]] H := by rw [hH]; exact hP
  have hS : va_S (xA aa) s.heap H locs := by rw [hH, hlocs]; exact hS
  suffices GO : W p l e (rM 0 0) s m args below meth c H locs 0 0 Q (F0 m 0 ls []) by
    rw [hH, hlocs] at GO
    exact GO
  clear hH hlocs
  refine lv_iconst (v := 0) hx hb dJ7_fill_d0a16_0 (by decide) ?_
  obtain ⟨v3_1, e_v3_1, hf⟩ := lt_some hf
  refine x_istore_n (v := v3_1) (lv' := [(3, .int v3_1), (0, .ref a_p0), (1, .long v1)]) hx hb dJ7_fill_d0a16_1 e_v3_1 rfl hl (by decide) rfl (fun ls hl => ?_)
  refine lv_aload_n hx hb dJ7_fill_d0a16_2 rfl (lv_at hl 1 rfl) ?_
  refine x_alen (v := Int32.ofNat n_p0) hx hb hE hP 0 1 rfl rfl rfl dJ7_fill_d0a16_3 ?_
  obtain ⟨v4_4, e_v4_4, hf⟩ := lt_some hf
  refine x_istore (v := v4_4) (lv' := [(4, .int v4_4), (3, .int v3_1), (0, .ref a_p0), (1, .long v1)]) hx hb dJ7_fill_d0a16_4 e_v4_4 hl (by decide) rfl (fun ls hl => ?_)
  exact L6 v4_4   fuel v3_1 p0 H locs ls hP hS (lv_sub hl [2, 3, 1, 0] rfl) hf

def f_X10_lengthOf_L2 (v0 : Int32) (rec_2 : Int32 → Option (Int32)) (v1 : Int32) : Option (Int32) :=
  if 15 ≤ v1 then (some v1) else (if (v0 >>> ((2 * v1) &&& 31)) = 0 then (some v1) else (lt (v1 + 1) (fun v1_16 => rec_2 v1_16)))
def f_X10_lengthOf (v0 : Int32) : Option (Int32) :=
  lt 0 (fun v1_1 => lp (τ := Int32 → Option (Int32)) (fun _ => none) (f_X10_lengthOf_L2 v0) fuel v1_1)
set_option maxHeartbeats 4000000 in
set_option maxRecDepth 100000 in
theorem k_X10_lengthOf (l : Launch) (D : va_G) (G : Nat → ClassId)    (v0 : Int32) (out : Int32) (hf : f_X10_lengthOf v0 = some out) : xMet l yX10_lengthOf wsX10_lengthOf (rM 0 0) D G [.int v0] [] (xQi D [] out) := by
  refine x_ent (cc := cX10_lengthOf) (maxL := 2) (by decide) rfl (Nat.le_of_ble_eq_true rfl) ?_
  intro p e s m below meth c aa ls args Q hQ hx hb hr hml hown hts hlocks hE hN hP hl hS
  have hown : s.vm.findClass RX10 = some m.cls := hown
  have hl : lv_has ls 2 [(0, .int v0)] := hl
  have L2 : ∀ (n_2 : Nat) (v1 : Int32) (H : Heap) (locs : List Loc) (ls : Array Slot), xW D aa [] H → va_S (xA aa) s.heap H locs → lv_has ls 2 [(0, .int v0), (1, .int v1)] → lp (τ := Int32 → Option (Int32)) (fun _ => none) (f_X10_lengthOf_L2 v0) n_2 v1 = some out → W p l e (rM 0 0) s m args below meth c H locs 0 0 Q (F0 m 2 ls []) := by
    intro    n_2
    induction n_2 with
    | zero =>
      intro v1 H locs ls hP hS hl hf
      exact no_some hf
    | succ n_2 ih_2 =>
      intro v1 H locs ls hP hS hl hf
      have hf : f_X10_lengthOf_L2 v0 (lp (τ := Int32 → Option (Int32)) (fun _ => none) (f_X10_lengthOf_L2 v0) n_2) v1 = some out := hf
      rw [f_X10_lengthOf_L2] at hf
      refine lv_iload_n hx hb dX10_lengthOf_2 rfl (lv_at hl 1 rfl) ?_
      refine lv_bipush (v := 15) hx hb dX10_lengthOf_3 (by decide) ?_
      refine lv_icmp_ge (tgt := 22) hx hb dX10_lengthOf_5 (by decide) (fun c_5 => ?_) (fun c_5 => ?_)
      · have hf := it_pos c_5 hf
        refine lv_iload_n hx hb dX10_lengthOf_22 rfl (lv_at hl 1 rfl) ?_
        have hf := Option.some.inj hf
        subst hf
        subst hQ
        exact x_iret hx hb hr hlocks hP hS dX10_lengthOf_23
      · have hf := it_neg c_5 hf
        refine lv_iload_n hx hb dX10_lengthOf_8 rfl (lv_at hl 0 rfl) ?_
        refine lv_iconst (v := 2) hx hb dX10_lengthOf_9 (by decide) ?_
        refine lv_iload_n hx hb dX10_lengthOf_10 rfl (lv_at hl 1 rfl) ?_
        refine lv_imul hx hb dX10_lengthOf_11 ?_
        refine lv_ishr hx hb dX10_lengthOf_12 ?_
        refine lv_if_eq (tgt := 22) hx hb dX10_lengthOf_13 (by decide) (fun c_13 => ?_) (fun c_13 => ?_)
        · have hf := it_pos c_13 hf
          refine lv_iload_n hx hb dX10_lengthOf_22 rfl (lv_at hl 1 rfl) ?_
          have hf := Option.some.inj hf
          subst hf
          subst hQ
          exact x_iret hx hb hr hlocks hP hS dX10_lengthOf_23
        · have hf := it_neg c_13 hf
          obtain ⟨v1_16, e_v1_16, hf⟩ := lt_some hf
          refine lv_iinc (v := v1_16) (lv' := [(1, .int v1_16), (0, .int v0)]) hx hb dX10_lengthOf_16 hl (k := 1) rfl (by rw [e_v1_16]; rfl) (by decide) rfl (fun ls hl => ?_)
          refine lv_goto (tgt := 2) hx hb dX10_lengthOf_19 (by decide) ?_
          exact ih_2 v1_16 H locs ls hP hS (lv_sub hl [1, 0] rfl) hf
  rw [f_X10_lengthOf] at hf
  obtain ⟨H, hH⟩ : ∃ H : Heap, H = s.heap := ⟨_, rfl⟩
  obtain ⟨locs, hlocs⟩ : ∃ locs : List Loc, locs = [] := ⟨_, rfl⟩
  have hP : xW D aa [] H := by rw [hH]; exact hP
  have hS : va_S (xA aa) s.heap H locs := by rw [hH, hlocs]; exact hS
  suffices GO : W p l e (rM 0 0) s m args below meth c H locs 0 0 Q (F0 m 0 ls []) by
    rw [hH, hlocs] at GO
    exact GO
  clear hH hlocs
  refine lv_iconst (v := 0) hx hb dX10_lengthOf_0 (by decide) ?_
  obtain ⟨v1_1, e_v1_1, hf⟩ := lt_some hf
  refine x_istore_n (v := v1_1) (lv' := [(1, .int v1_1), (0, .int v0)]) hx hb dX10_lengthOf_1 e_v1_1 rfl hl (by decide) rfl (fun ls hl => ?_)
  exact L2    fuel v1_1 H locs ls hP hS (lv_sub hl [1, 0] rfl) hf

def f_X10_headOf (v0 : Int32) (v1 : Int32) : Option (Int32) :=
  some (v0 &&& ((1 <<< ((2 * v1) &&& 31)) - 1))
set_option maxHeartbeats 4000000 in
set_option maxRecDepth 100000 in
theorem k_X10_headOf (l : Launch) (D : va_G) (G : Nat → ClassId)    (v0 : Int32) (v1 : Int32) (out : Int32) (hf : f_X10_headOf v0 v1 = some out) : xMet l yX10_headOf wsX10_headOf (rM 0 0) D G [.int v0, .int v1] [] (xQi D [] out) := by
  refine x_ent (cc := cX10_headOf) (maxL := 2) (by decide) rfl (Nat.le_of_ble_eq_true rfl) ?_
  intro p e s m below meth c aa ls args Q hQ hx hb hr hml hown hts hlocks hE hN hP hl hS
  have hown : s.vm.findClass RX10 = some m.cls := hown
  have hl : lv_has ls 2 [(0, .int v0), (1, .int v1)] := hl
  rw [f_X10_headOf] at hf
  obtain ⟨H, hH⟩ : ∃ H : Heap, H = s.heap := ⟨_, rfl⟩
  obtain ⟨locs, hlocs⟩ : ∃ locs : List Loc, locs = [] := ⟨_, rfl⟩
  have hP : xW D aa [] H := by rw [hH]; exact hP
  have hS : va_S (xA aa) s.heap H locs := by rw [hH, hlocs]; exact hS
  suffices GO : W p l e (rM 0 0) s m args below meth c H locs 0 0 Q (F0 m 0 ls []) by
    rw [hH, hlocs] at GO
    exact GO
  clear hH hlocs
  refine lv_iload_n hx hb dX10_headOf_0 rfl (lv_at hl 0 rfl) ?_
  refine lv_iconst (v := 1) hx hb dX10_headOf_1 (by decide) ?_
  refine lv_iconst (v := 2) hx hb dX10_headOf_2 (by decide) ?_
  refine lv_iload_n hx hb dX10_headOf_3 rfl (lv_at hl 1 rfl) ?_
  refine lv_imul hx hb dX10_headOf_4 ?_
  refine lv_ishl hx hb dX10_headOf_5 ?_
  refine lv_iconst (v := 1) hx hb dX10_headOf_6 (by decide) ?_
  refine lv_isub hx hb dX10_headOf_7 ?_
  refine lv_iand hx hb dX10_headOf_8 ?_
  have hf := Option.some.inj hf
  subst hf
  subst hQ
  exact x_iret hx hb hr hlocks hP hS dX10_headOf_9

def f_X10_occurs (v0 : Int32) (v1 : Int32) (v2 : Int32) : Option (Int32) :=
  (f_X10_lengthOf v0).bind (fun r_6 => (f_X10_headOf (v1 >>> ((2 * v2) &&& 31)) r_6).bind (fun r_9 => if ¬ r_9 = v0 then (some 0) else (some 1)))
set_option maxHeartbeats 4000000 in
set_option maxRecDepth 100000 in
theorem k_X10_occurs (l : Launch) (D : va_G) (G : Nat → ClassId)    (v0 : Int32) (v1 : Int32) (v2 : Int32) (out : Int32) (hf : f_X10_occurs v0 v1 v2 = some out) : xMet l yX10_occurs wsX10_occurs (rM 1 21) D G [.int v0, .int v1, .int v2] [] (xQi D [] out) := by
  refine x_ent (cc := cX10_occurs) (maxL := 3) (by decide) rfl (Nat.le_of_ble_eq_true rfl) ?_
  intro p e s m below meth c aa ls args Q hQ hx hb hr hml hown hts hlocks hE hN hP hl hS
  have hown : s.vm.findClass RX10 = some m.cls := hown
  have hl : lv_has ls 3 [(0, .int v0), (1, .int v1), (2, .int v2)] := hl
  rw [f_X10_occurs] at hf
  obtain ⟨H, hH⟩ : ∃ H : Heap, H = s.heap := ⟨_, rfl⟩
  obtain ⟨locs, hlocs⟩ : ∃ locs : List Loc, locs = [] := ⟨_, rfl⟩
  have hP : xW D aa [] H := by rw [hH]; exact hP
  have hS : va_S (xA aa) s.heap H locs := by rw [hH, hlocs]; exact hS
  suffices GO : W p l e (rM 1 21) s m args below meth c H locs 0 0 Q (F0 m 0 ls []) by
    rw [hH, hlocs] at GO
    exact GO
  clear hH hlocs
  refine lv_iload_n hx hb dX10_occurs_0 rfl (lv_at hl 1 rfl) ?_
  refine lv_iconst (v := 2) hx hb dX10_occurs_1 (by decide) ?_
  refine lv_iload_n hx hb dX10_occurs_2 rfl (lv_at hl 2 rfl) ?_
  refine lv_imul hx hb dX10_occurs_3 ?_
  refine lv_ishr hx hb dX10_occurs_4 ?_
  refine lv_iload_n hx hb dX10_occurs_5 rfl (lv_at hl 0 rfl) ?_
  obtain ⟨r_6, hr_6, hf⟩ := bd_some hf
  refine x_goi (ps := []) (I' := []) (x_runS (As := [.int v0]) (rest := [.int (v1 >>> ((2 * v2) &&& 31))]) (ps := []) ⟨hx, hb, hml, hown, hts⟩ (k_X10_lengthOf l D G v0 r_6 hr_6) (va_cwS 1 hts gX10_occurs_X10_lengthOf rfl rfl rfl (by decide +kernel) ⟨Nat.le_of_ble_eq_true rfl, Nat.le_of_ble_eq_true rfl⟩) hE hP hN rfl (by decide) rfl hl.1 (Nat.le_of_ble_eq_true rfl) dX10_occurs_6 ⟨Nat.zero_le _, Nat.zero_le _⟩) hP hN hS rfl rfl (fun H locs hP hS => ?_)
  obtain ⟨r_9, hr_9, hf⟩ := bd_some hf
  refine x_goi (ps := []) (I' := []) (x_runS (As := [.int (v1 >>> ((2 * v2) &&& 31)), .int r_6]) (rest := []) (ps := []) ⟨hx, hb, hml, hown, hts⟩ (k_X10_headOf l D G (v1 >>> ((2 * v2) &&& 31)) r_6 r_9 hr_9) (va_cwS 2 hts gX10_occurs_X10_headOf rfl rfl rfl (by decide +kernel) ⟨Nat.le_of_ble_eq_true rfl, Nat.le_of_ble_eq_true rfl⟩) hE hP hN rfl (by decide) rfl hl.1 (Nat.le_of_ble_eq_true rfl) dX10_occurs_9 ⟨Nat.zero_le _, Nat.zero_le _⟩) hP hN hS rfl rfl (fun H locs hP hS => ?_)
  refine lv_iload_n hx hb dX10_occurs_12 rfl (lv_at hl 0 rfl) ?_
  refine lv_icmp_ne (tgt := 20) hx hb dX10_occurs_13 (by decide) (fun c_13 => ?_) (fun c_13 => ?_)
  · have hf := it_pos c_13 hf
    refine lv_iconst (v := 0) hx hb dX10_occurs_20 (by decide) ?_
    have hf := Option.some.inj hf
    subst hf
    subst hQ
    exact x_zret hx hb hr hlocks rfl hP hS dX10_occurs_21
  · have hf := it_neg (fun h => h c_13) hf
    refine lv_iconst (v := 1) hx hb dX10_occurs_16 (by decide) ?_
    refine lv_goto (tgt := 21) hx hb dX10_occurs_17 (by decide) ?_
    have hf := Option.some.inj hf
    subst hf
    subst hQ
    exact x_zret hx hb hr hlocks rfl hP hS dX10_occurs_21

def f_X10_replace (v0 : Int32) (v1 : Int32) (v2 : Int32) (v3 : Int32) : Option (Int32) :=
  (f_X10_lengthOf v2).bind (fun r_4 => lt (v0 >>> ((2 * (v1 + r_4)) &&& 31)) (fun v4_10 => (f_X10_headOf v0 v1).bind (fun r_14 => (f_X10_lengthOf v3).bind (fun r_28 => some ((r_14 ||| (v3 <<< ((2 * v1) &&& 31))) ||| (v4_10 <<< ((2 * (v1 + r_28)) &&& 31)))))))
set_option maxHeartbeats 4000000 in
set_option maxRecDepth 100000 in
theorem k_X10_replace (l : Launch) (D : va_G) (G : Nat → ClassId)    (v0 : Int32) (v1 : Int32) (v2 : Int32) (v3 : Int32) (out : Int32) (hf : f_X10_replace v0 v1 v2 v3 = some out) : xMet l yX10_replace wsX10_replace (rM 1 21) D G [.int v0, .int v1, .int v2, .int v3] [] (xQi D [] out) := by
  refine x_ent (cc := cX10_replace) (maxL := 5) (by decide) rfl (Nat.le_of_ble_eq_true rfl) ?_
  intro p e s m below meth c aa ls args Q hQ hx hb hr hml hown hts hlocks hE hN hP hl hS
  have hown : s.vm.findClass RX10 = some m.cls := hown
  have hl : lv_has ls 5 [(0, .int v0), (1, .int v1), (2, .int v2), (3, .int v3)] := hl
  rw [f_X10_replace] at hf
  obtain ⟨H, hH⟩ : ∃ H : Heap, H = s.heap := ⟨_, rfl⟩
  obtain ⟨locs, hlocs⟩ : ∃ locs : List Loc, locs = [] := ⟨_, rfl⟩
  have hP : xW D aa [] H := by rw [hH]; exact hP
  have hS : va_S (xA aa) s.heap H locs := by rw [hH, hlocs]; exact hS
  suffices GO : W p l e (rM 1 21) s m args below meth c H locs 0 0 Q (F0 m 0 ls []) by
    rw [hH, hlocs] at GO
    exact GO
  clear hH hlocs
  refine lv_iload_n hx hb dX10_replace_0 rfl (lv_at hl 0 rfl) ?_
  refine lv_iconst (v := 2) hx hb dX10_replace_1 (by decide) ?_
  refine lv_iload_n hx hb dX10_replace_2 rfl (lv_at hl 1 rfl) ?_
  refine lv_iload_n hx hb dX10_replace_3 rfl (lv_at hl 2 rfl) ?_
  obtain ⟨r_4, hr_4, hf⟩ := bd_some hf
  refine x_goi (ps := []) (I' := []) (x_runS (As := [.int v2]) (rest := [.int v1, .int 2, .int v0]) (ps := []) ⟨hx, hb, hml, hown, hts⟩ (k_X10_lengthOf l D G v2 r_4 hr_4) (va_cwS 1 hts gX10_replace_X10_lengthOf rfl rfl rfl (by decide +kernel) ⟨Nat.le_of_ble_eq_true rfl, Nat.le_of_ble_eq_true rfl⟩) hE hP hN rfl (by decide) rfl hl.1 (Nat.le_of_ble_eq_true rfl) dX10_replace_4 ⟨Nat.zero_le _, Nat.zero_le _⟩) hP hN hS rfl rfl (fun H locs hP hS => ?_)
  refine lv_iadd hx hb dX10_replace_7 ?_
  refine lv_imul hx hb dX10_replace_8 ?_
  refine lv_ishr hx hb dX10_replace_9 ?_
  obtain ⟨v4_10, e_v4_10, hf⟩ := lt_some hf
  refine x_istore (v := v4_10) (lv' := [(4, .int v4_10), (0, .int v0), (1, .int v1), (2, .int v2), (3, .int v3)]) hx hb dX10_replace_10 e_v4_10 hl (by decide) rfl (fun ls hl => ?_)
  refine lv_iload_n hx hb dX10_replace_12 rfl (lv_at hl 1 rfl) ?_
  refine lv_iload_n hx hb dX10_replace_13 rfl (lv_at hl 2 rfl) ?_
  obtain ⟨r_14, hr_14, hf⟩ := bd_some hf
  refine x_goi (ps := []) (I' := []) (x_runS (As := [.int v0, .int v1]) (rest := []) (ps := []) ⟨hx, hb, hml, hown, hts⟩ (k_X10_headOf l D G v0 v1 r_14 hr_14) (va_cwS 2 hts gX10_replace_X10_headOf rfl rfl rfl (by decide +kernel) ⟨Nat.le_of_ble_eq_true rfl, Nat.le_of_ble_eq_true rfl⟩) hE hP hN rfl (by decide) rfl hl.1 (Nat.le_of_ble_eq_true rfl) dX10_replace_14 ⟨Nat.zero_le _, Nat.zero_le _⟩) hP hN hS rfl rfl (fun H locs hP hS => ?_)
  refine lv_iload_n hx hb dX10_replace_17 rfl (lv_at hl 4 rfl) ?_
  refine lv_iconst (v := 2) hx hb dX10_replace_18 (by decide) ?_
  refine lv_iload_n hx hb dX10_replace_19 rfl (lv_at hl 2 rfl) ?_
  refine lv_imul hx hb dX10_replace_20 ?_
  refine lv_ishl hx hb dX10_replace_21 ?_
  refine lv_ior hx hb dX10_replace_22 ?_
  refine lv_iload hx hb dX10_replace_23 (lv_at hl 0 rfl) ?_
  refine lv_iconst (v := 2) hx hb dX10_replace_25 (by decide) ?_
  refine lv_iload_n hx hb dX10_replace_26 rfl (lv_at hl 2 rfl) ?_
  refine lv_iload_n hx hb dX10_replace_27 rfl (lv_at hl 4 rfl) ?_
  obtain ⟨r_28, hr_28, hf⟩ := bd_some hf
  refine x_goi (ps := []) (I' := []) (x_runS (As := [.int v3]) (rest := [.int v1, .int 2, .int v4_10, .int (r_14 ||| (v3 <<< ((2 * v1) &&& 31)))]) (ps := []) ⟨hx, hb, hml, hown, hts⟩ (k_X10_lengthOf l D G v3 r_28 hr_28) (va_cwS 1 hts gX10_replace_X10_lengthOf rfl rfl rfl (by decide +kernel) ⟨Nat.le_of_ble_eq_true rfl, Nat.le_of_ble_eq_true rfl⟩) hE hP hN rfl (by decide) rfl hl.1 (Nat.le_of_ble_eq_true rfl) dX10_replace_28 ⟨Nat.zero_le _, Nat.zero_le _⟩) hP hN hS rfl rfl (fun H locs hP hS => ?_)
  refine lv_iadd hx hb dX10_replace_31 ?_
  refine lv_imul hx hb dX10_replace_32 ?_
  refine lv_ishl hx hb dX10_replace_33 ?_
  refine lv_ior hx hb dX10_replace_34 ?_
  have hf := Option.some.inj hf
  subst hf
  subst hQ
  exact x_iret hx hb hr hlocks hP hS dX10_replace_35

def f_X10_append (v0 : Int32) (v1 : Int32) (v2 : Int32) : Option (Int32) :=
  some (v0 ||| (((v2 - 97) + 1) <<< ((2 * v1) &&& 31)))
set_option maxHeartbeats 4000000 in
set_option maxRecDepth 100000 in
theorem k_X10_append (l : Launch) (D : va_G) (G : Nat → ClassId)    (v0 : Int32) (v1 : Int32) (v2 : Int32) (out : Int32) (hf : f_X10_append v0 v1 v2 = some out) : xMet l yX10_append wsX10_append (rM 0 0) D G [.int v0, .int v1, .int v2] [] (xQi D [] out) := by
  refine x_ent (cc := cX10_append) (maxL := 3) (by decide) rfl (Nat.le_of_ble_eq_true rfl) ?_
  intro p e s m below meth c aa ls args Q hQ hx hb hr hml hown hts hlocks hE hN hP hl hS
  have hown : s.vm.findClass RX10 = some m.cls := hown
  have hl : lv_has ls 3 [(0, .int v0), (1, .int v1), (2, .int v2)] := hl
  rw [f_X10_append] at hf
  obtain ⟨H, hH⟩ : ∃ H : Heap, H = s.heap := ⟨_, rfl⟩
  obtain ⟨locs, hlocs⟩ : ∃ locs : List Loc, locs = [] := ⟨_, rfl⟩
  have hP : xW D aa [] H := by rw [hH]; exact hP
  have hS : va_S (xA aa) s.heap H locs := by rw [hH, hlocs]; exact hS
  suffices GO : W p l e (rM 0 0) s m args below meth c H locs 0 0 Q (F0 m 0 ls []) by
    rw [hH, hlocs] at GO
    exact GO
  clear hH hlocs
  refine lv_iload_n hx hb dX10_append_0 rfl (lv_at hl 0 rfl) ?_
  refine lv_iload_n hx hb dX10_append_1 rfl (lv_at hl 2 rfl) ?_
  refine lv_bipush (v := 97) hx hb dX10_append_2 (by decide) ?_
  refine lv_isub hx hb dX10_append_4 ?_
  refine lv_iconst (v := 1) hx hb dX10_append_5 (by decide) ?_
  refine lv_iadd hx hb dX10_append_6 ?_
  refine lv_iconst (v := 2) hx hb dX10_append_7 (by decide) ?_
  refine lv_iload_n hx hb dX10_append_8 rfl (lv_at hl 1 rfl) ?_
  refine lv_imul hx hb dX10_append_9 ?_
  refine lv_ishl hx hb dX10_append_10 ?_
  refine lv_ior hx hb dX10_append_11 ?_
  have hf := Option.some.inj hf
  subst hf
  subst hQ
  exact x_iret hx hb hr hlocks hP hS dX10_append_12

def f_X10_letterOf (v0 : Int32) (v1 : Int32) : Option (Int32) :=
  some (96 + ((v0 >>> ((2 * v1) &&& 31)) &&& 3))
set_option maxHeartbeats 4000000 in
set_option maxRecDepth 100000 in
theorem k_X10_letterOf (l : Launch) (D : va_G) (G : Nat → ClassId)    (v0 : Int32) (v1 : Int32) (out : Int32) (hf : f_X10_letterOf v0 v1 = some out) : xMet l yX10_letterOf wsX10_letterOf (rM 0 0) D G [.int v0, .int v1] [] (xQi D [] out) := by
  refine x_ent (cc := cX10_letterOf) (maxL := 2) (by decide) rfl (Nat.le_of_ble_eq_true rfl) ?_
  intro p e s m below meth c aa ls args Q hQ hx hb hr hml hown hts hlocks hE hN hP hl hS
  have hown : s.vm.findClass RX10 = some m.cls := hown
  have hl : lv_has ls 2 [(0, .int v0), (1, .int v1)] := hl
  rw [f_X10_letterOf] at hf
  obtain ⟨H, hH⟩ : ∃ H : Heap, H = s.heap := ⟨_, rfl⟩
  obtain ⟨locs, hlocs⟩ : ∃ locs : List Loc, locs = [] := ⟨_, rfl⟩
  have hP : xW D aa [] H := by rw [hH]; exact hP
  have hS : va_S (xA aa) s.heap H locs := by rw [hH, hlocs]; exact hS
  suffices GO : W p l e (rM 0 0) s m args below meth c H locs 0 0 Q (F0 m 0 ls []) by
    rw [hH, hlocs] at GO
    exact GO
  clear hH hlocs
  refine lv_bipush (v := 96) hx hb dX10_letterOf_0 (by decide) ?_
  refine lv_iload_n hx hb dX10_letterOf_2 rfl (lv_at hl 0 rfl) ?_
  refine lv_iconst (v := 2) hx hb dX10_letterOf_3 (by decide) ?_
  refine lv_iload_n hx hb dX10_letterOf_4 rfl (lv_at hl 1 rfl) ?_
  refine lv_imul hx hb dX10_letterOf_5 ?_
  refine lv_ishr hx hb dX10_letterOf_6 ?_
  refine lv_iconst (v := 3) hx hb dX10_letterOf_7 (by decide) ?_
  refine lv_iand hx hb dX10_letterOf_8 ?_
  refine lv_iadd hx hb dX10_letterOf_9 ?_
  have hf := Option.some.inj hf
  subst hf
  subst hQ
  exact x_iret hx hb hr hlocks hP hS dX10_letterOf_10

set_option maxRecDepth 20000 in
theorem u_X2_isAbove_X2 : ∀ w ∈ wsX20, w ∈ wsX2_isAbove := xx_pl _ [5, 6] (by decide +kernel)
def f_X2_isAbove (below : (Nat → Int32)) (v1 : Int32) (v2 : Int32) : Option (Int32) :=
  ck v1 8 ((f_X11_isIn (below v1.toNatClampNeg) v2).bind (fun r_7 => ckb r_7 (some r_7)))
set_option maxHeartbeats 4000000 in
set_option maxRecDepth 100000 in
theorem k_X2_isAbove (l : Launch) (D : va_G) (G : Nat → ClassId) (h : Nat) (a_pairs : Nat) (a_below : Nat) (below : (Nat → Int32))  (v1 : Int32) (v2 : Int32) (out : Int32) (hf : f_X2_isAbove below v1 v2 = some out) : xMet l yX2_isAbove wsX2_isAbove (rM 1 21) D G [.ref h, .int v1, .int v2] [[(h, .inr (2, [.ref a_pairs, .ref a_below]))], [(a_below, .inl (G 0, 8, .inl below))]] (xQi D [[(h, .inr (2, [.ref a_pairs, .ref a_below]))], [(a_below, .inl (G 0, 8, .inl below))]] out) := by
  refine x_ent (cc := cX2_isAbove) (maxL := 3) (by decide) rfl (Nat.le_of_ble_eq_true rfl) ?_
  intro p e s m below meth c aa ls args Q hQ hx hb hr hml hown hts hlocks hE hN hP hl hS
  have hown : s.vm.findClass RX2 = some m.cls := hown
  have hl : lv_has ls 3 [(0, .ref h), (1, .int v1), (2, .int v2)] := hl
  rw [f_X2_isAbove] at hf
  obtain ⟨H, hH⟩ : ∃ H : Heap, H = s.heap := ⟨_, rfl⟩
  obtain ⟨locs, hlocs⟩ : ∃ locs : List Loc, locs = [] := ⟨_, rfl⟩
  have hP : xW D aa [[(h, .inr (2, [.ref a_pairs, .ref a_below]))], [(a_below, .inl (G 0, 8, .inl below))]] H := by rw [hH]; exact hP
  have hS : va_S (xA aa) s.heap H locs := by rw [hH, hlocs]; exact hS
  suffices GO : W p l e (rM 1 21) s m args below meth c H locs 0 0 Q (F0 m 0 ls []) by
    rw [hH, hlocs] at GO
    exact GO
  clear hH hlocs
  refine lv_aload_n hx hb dX2_isAbove_0 rfl (lv_at hl 0 rfl) ?_
  refine x_get hx hb hts u_X2_isAbove_X2 hown hE hP 0 rfl rfl 1 (by decide) (hts (.fieldLink RX2 15 "DecreasingDiagrams$LabelOrder" "below" "[I") (List.mem_of_getElem? (i := 1) rfl)) rfl dX2_isAbove_1 ?_
  refine lv_iload_n hx hb dX2_isAbove_4 rfl (lv_at hl 1 rfl) ?_
  obtain ⟨hi, hf⟩ := ck_some hf
  refine x_iald hx hb hE hP 1 rfl hi dX2_isAbove_5 ?_
  refine lv_iload_n hx hb dX2_isAbove_6 rfl (lv_at hl 2 rfl) ?_
  obtain ⟨r_7, hr_7, hf⟩ := bd_some hf
  refine x_goi (ps := []) (I' := [[(h, .inr (2, [.ref a_pairs, .ref a_below]))], [(a_below, .inl (G 0, 8, .inl below))]]) (x_runSN (As := [.int (below v1.toNatClampNeg), .int v2]) (rest := []) (ps := []) ⟨hx, hb, hml, hown, hts⟩ (k_X11_isIn l D G (below v1.toNatClampNeg) v2 r_7 hr_7) ⟨va_cnB 2 hts gX2_isAbove_X11_isIn_n18 rfl rfl rfl (hE.2 (.methodLinkNest RX2 18 yX11_isIn RX11) (List.mem_of_getElem? (i := 54) rfl)) (hts (.initialized RX11) (List.mem_of_getElem? (i := 3) rfl)) (by decide +kernel) ⟨Nat.le_of_ble_eq_true rfl, Nat.le_of_ble_eq_true rfl⟩, (hts (.static yX11_isIn) (List.mem_of_getElem? (i := 2) rfl)), trivial⟩ hE hP hN rfl (by decide) rfl hl.1 (Nat.le_of_ble_eq_true rfl) dX2_isAbove_7 ⟨Nat.zero_le _, Nat.zero_le _⟩) hP hN hS rfl rfl (fun H locs hP hS => ?_)
  obtain ⟨hz, hf⟩ := ckb_some hf
  have hf := Option.some.inj hf
  subst hf
  subst hQ
  exact x_zret hx hb hr hlocks hz hP hS dX2_isAbove_10

set_option maxRecDepth 20000 in
theorem u_X2_hasPair_X2 : ∀ w ∈ wsX20, w ∈ wsX2_hasPair := xx_pl _ [5, 6] (by decide +kernel)
def f_X2_hasPair (pairs : (Nat → Int32)) (v1 : Int32) (v2 : Int32) : Option (Int32) :=
  ck v1 8 ((f_X11_isIn (pairs v1.toNatClampNeg) v2).bind (fun r_7 => ckb r_7 (some r_7)))
set_option maxHeartbeats 4000000 in
set_option maxRecDepth 100000 in
theorem k_X2_hasPair (l : Launch) (D : va_G) (G : Nat → ClassId) (h : Nat) (a_pairs : Nat) (a_below : Nat) (pairs : (Nat → Int32))  (v1 : Int32) (v2 : Int32) (out : Int32) (hf : f_X2_hasPair pairs v1 v2 = some out) : xMet l yX2_hasPair wsX2_hasPair (rM 1 21) D G [.ref h, .int v1, .int v2] [[(h, .inr (2, [.ref a_pairs, .ref a_below]))], [(a_pairs, .inl (G 0, 8, .inl pairs))]] (xQi D [[(h, .inr (2, [.ref a_pairs, .ref a_below]))], [(a_pairs, .inl (G 0, 8, .inl pairs))]] out) := by
  refine x_ent (cc := cX2_hasPair) (maxL := 3) (by decide) rfl (Nat.le_of_ble_eq_true rfl) ?_
  intro p e s m below meth c aa ls args Q hQ hx hb hr hml hown hts hlocks hE hN hP hl hS
  have hown : s.vm.findClass RX2 = some m.cls := hown
  have hl : lv_has ls 3 [(0, .ref h), (1, .int v1), (2, .int v2)] := hl
  rw [f_X2_hasPair] at hf
  obtain ⟨H, hH⟩ : ∃ H : Heap, H = s.heap := ⟨_, rfl⟩
  obtain ⟨locs, hlocs⟩ : ∃ locs : List Loc, locs = [] := ⟨_, rfl⟩
  have hP : xW D aa [[(h, .inr (2, [.ref a_pairs, .ref a_below]))], [(a_pairs, .inl (G 0, 8, .inl pairs))]] H := by rw [hH]; exact hP
  have hS : va_S (xA aa) s.heap H locs := by rw [hH, hlocs]; exact hS
  suffices GO : W p l e (rM 1 21) s m args below meth c H locs 0 0 Q (F0 m 0 ls []) by
    rw [hH, hlocs] at GO
    exact GO
  clear hH hlocs
  refine lv_aload_n hx hb dX2_hasPair_0 rfl (lv_at hl 0 rfl) ?_
  refine x_get hx hb hts u_X2_hasPair_X2 hown hE hP 0 rfl rfl 0 (by decide) (hts (.fieldLink RX2 9 "DecreasingDiagrams$LabelOrder" "pairs" "[I") (List.mem_of_getElem? (i := 1) rfl)) rfl dX2_hasPair_1 ?_
  refine lv_iload_n hx hb dX2_hasPair_4 rfl (lv_at hl 1 rfl) ?_
  obtain ⟨hi, hf⟩ := ck_some hf
  refine x_iald hx hb hE hP 1 rfl hi dX2_hasPair_5 ?_
  refine lv_iload_n hx hb dX2_hasPair_6 rfl (lv_at hl 2 rfl) ?_
  obtain ⟨r_7, hr_7, hf⟩ := bd_some hf
  refine x_goi (ps := []) (I' := [[(h, .inr (2, [.ref a_pairs, .ref a_below]))], [(a_pairs, .inl (G 0, 8, .inl pairs))]]) (x_runSN (As := [.int (pairs v1.toNatClampNeg), .int v2]) (rest := []) (ps := []) ⟨hx, hb, hml, hown, hts⟩ (k_X11_isIn l D G (pairs v1.toNatClampNeg) v2 r_7 hr_7) ⟨va_cnB 2 hts gX2_hasPair_X11_isIn_n18 rfl rfl rfl (hE.2 (.methodLinkNest RX2 18 yX11_isIn RX11) (List.mem_of_getElem? (i := 54) rfl)) (hts (.initialized RX11) (List.mem_of_getElem? (i := 3) rfl)) (by decide +kernel) ⟨Nat.le_of_ble_eq_true rfl, Nat.le_of_ble_eq_true rfl⟩, (hts (.static yX11_isIn) (List.mem_of_getElem? (i := 2) rfl)), trivial⟩ hE hP hN rfl (by decide) rfl hl.1 (Nat.le_of_ble_eq_true rfl) dX2_hasPair_7 ⟨Nat.zero_le _, Nat.zero_le _⟩) hP hN hS rfl rfl (fun H locs hP hS => ?_)
  obtain ⟨hz, hf⟩ := ckb_some hf
  have hf := Option.some.inj hf
  subst hf
  subst hQ
  exact x_zret hx hb hr hlocks hz hP hS dX2_hasPair_10

set_option maxRecDepth 20000 in
theorem u_X2_close_X2 : ∀ w ∈ wsX20, w ∈ wsX2_close := xx_pl _ [10, 11] (by decide +kernel)
def f_X2_close_J65 (rec_17 : (Int32 → (Nat → Int32) → Option ((Nat → Int32)))) (v1 : Int32) (below : (Nat → Int32)) : Option ((Nat → Int32)) :=
  lt (v1 + 1) (fun v1_65 => rec_17 v1_65 below)
def f_X2_close_J59 (rec_25 : (Int32 → (Nat → Int32) → Option ((Nat → Int32)))) (v2 : Int32) (below : (Nat → Int32)) : Option ((Nat → Int32)) :=
  lt (v2 + 1) (fun v2_59 => rec_25 v2_59 below)
def f_X2_close_L25 (v1 : Int32) (rec_17 : (Int32 → (Nat → Int32) → Option ((Nat → Int32)))) (rec_25 : Int32 → (Nat → Int32) → Option ((Nat → Int32))) (v2 : Int32) (below : (Nat → Int32)) : Option ((Nat → Int32)) :=
  if 8 ≤ v2 then (f_X2_close_J65 rec_17 v1 below) else (ck v2 8 ((f_X11_isIn (below v2.toNatClampNeg) v1).bind (fun r_38 => if r_38 = 0 then (f_X2_close_J59 rec_25 v2 below) else (ck v2 8 (ck v1 8 (ck v2 8 (lt (upd below v2.toNatClampNeg ((below v2.toNatClampNeg) ||| (below v1.toNatClampNeg))) (fun below_58 => f_X2_close_J59 rec_25 v2 below_58))))))))
def f_X2_close_L17  (rec_17 : Int32 → (Nat → Int32) → Option ((Nat → Int32))) (v1 : Int32) (below : (Nat → Int32)) : Option ((Nat → Int32)) :=
  if 8 ≤ v1 then (some below) else (lt 0 (fun v2_24 => lp (τ := Int32 → (Nat → Int32) → Option ((Nat → Int32))) (fun _ _ => none) (f_X2_close_L25 v1 rec_17) fuel v2_24 below))
def f_X2_close (below : (Nat → Int32)) (pairs : (Nat → Int32)) : Option ((Nat → Int32)) :=
  lt (va_cpy pairs below 0 0 8) (fun below_12 => lt 0 (fun v1_16 => lp (τ := Int32 → (Nat → Int32) → Option ((Nat → Int32))) (fun _ _ => none) (f_X2_close_L17) fuel v1_16 below_12))
set_option maxHeartbeats 4000000 in
set_option maxRecDepth 100000 in
theorem k_X2_close (l : Launch) (D : va_G) (G : Nat → ClassId) (h : Nat) (a_pairs : Nat) (a_below : Nat) (below : (Nat → Int32)) (pairs : (Nat → Int32))   (out : (Nat → Int32)) (hf : f_X2_close below pairs = some out) : xMet l yX2_close wsX2_close (rM 1 26) D G [.ref h] [[(h, .inr (2, [.ref a_pairs, .ref a_below]))], [(a_below, .inl (G 0, 8, .inl below))], [(a_pairs, .inl (G 0, 8, .inl pairs))]] (xQv D [[(h, .inr (2, [.ref a_pairs, .ref a_below]))], [(a_below, .inl (G 0, 8, .inl out))], [(a_pairs, .inl (G 0, 8, .inl pairs))]]) := by
  refine x_ent (cc := cX2_close) (maxL := 3) (by decide) rfl (Nat.le_of_ble_eq_true rfl) ?_
  intro p e s m below meth c aa ls args Q hQ hx hb hr hml hown hts hlocks hE hN hP hl hS
  have hown : s.vm.findClass RX2 = some m.cls := hown
  have hl : lv_has ls 3 [(0, .ref h)] := hl
  have L17 : ∀ (n_17 : Nat) (v1 : Int32) (below : (Nat → Int32)) (H : Heap) (locs : List Loc) (ls : Array Slot), xW D aa [[(h, .inr (2, [.ref a_pairs, .ref a_below]))], [(a_below, .inl (G 0, 8, .inl below))], [(a_pairs, .inl (G 0, 8, .inl pairs))]] H → va_S (xA aa) s.heap H locs → lv_has ls 3 [(0, .ref h), (1, .int v1)] → lp (τ := Int32 → (Nat → Int32) → Option ((Nat → Int32))) (fun _ _ => none) (f_X2_close_L17) n_17 v1 below = some out → W p l e (rM 1 26) s m args below meth c H locs 0 0 Q (F0 m 17 ls []) := by
    intro    n_17
    induction n_17 with
    | zero =>
      intro v1 below H locs ls hP hS hl hf
      exact no_some hf
    | succ n_17 ih_17 =>
      intro v1 below H locs ls hP hS hl hf
      have hf : f_X2_close_L17  (lp (τ := Int32 → (Nat → Int32) → Option ((Nat → Int32))) (fun _ _ => none) (f_X2_close_L17) n_17) v1 below = some out := hf
      rw [f_X2_close_L17] at hf
      have J65 : ∀ (v1 : Int32) (below : (Nat → Int32)) (H : Heap) (locs : List Loc) (ls : Array Slot), xW D aa [[(h, .inr (2, [.ref a_pairs, .ref a_below]))], [(a_below, .inl (G 0, 8, .inl below))], [(a_pairs, .inl (G 0, 8, .inl pairs))]] H → va_S (xA aa) s.heap H locs → lv_has ls 3 [(0, .ref h), (1, .int v1)] → f_X2_close_J65 (lp (τ := Int32 → (Nat → Int32) → Option ((Nat → Int32))) (fun _ _ => none) (f_X2_close_L17) n_17) v1 below = some out → W p l e (rM 1 26) s m args below meth c H locs 0 0 Q (F0 m 65 ls []) := by
        intro v1 below  H locs ls  hP hS hl hf
        rw [f_X2_close_J65] at hf
        obtain ⟨v1_65, e_v1_65, hf⟩ := lt_some hf
        refine lv_iinc (v := v1_65) (lv' := [(1, .int v1_65), (0, .ref h)]) hx hb dX2_close_65 hl (k := 1) rfl (by rw [e_v1_65]; rfl) (by decide) rfl (fun ls hl => ?_)
        refine lv_goto (tgt := 17) hx hb dX2_close_68 (by decide) ?_
        exact ih_17 v1_65 below H locs ls hP hS (lv_sub hl [1, 0] rfl) hf
      have L25 : ∀ (v1 : Int32), ∀ (n_25 : Nat) (v2 : Int32) (below : (Nat → Int32)) (H : Heap) (locs : List Loc) (ls : Array Slot), xW D aa [[(h, .inr (2, [.ref a_pairs, .ref a_below]))], [(a_below, .inl (G 0, 8, .inl below))], [(a_pairs, .inl (G 0, 8, .inl pairs))]] H → va_S (xA aa) s.heap H locs → lv_has ls 3 [(0, .ref h), (1, .int v1), (2, .int v2)] → lp (τ := Int32 → (Nat → Int32) → Option ((Nat → Int32))) (fun _ _ => none) (f_X2_close_L25 v1 (lp (τ := Int32 → (Nat → Int32) → Option ((Nat → Int32))) (fun _ _ => none) (f_X2_close_L17) n_17)) n_25 v2 below = some out → W p l e (rM 1 26) s m args below meth c H locs 0 0 Q (F0 m 25 ls []) := by
        intro v1   n_25
        induction n_25 with
        | zero =>
          intro v2 below H locs ls hP hS hl hf
          exact no_some hf
        | succ n_25 ih_25 =>
          intro v2 below H locs ls hP hS hl hf
          have hf : f_X2_close_L25 v1 (lp (τ := Int32 → (Nat → Int32) → Option ((Nat → Int32))) (fun _ _ => none) (f_X2_close_L17) n_17) (lp (τ := Int32 → (Nat → Int32) → Option ((Nat → Int32))) (fun _ _ => none) (f_X2_close_L25 v1 (lp (τ := Int32 → (Nat → Int32) → Option ((Nat → Int32))) (fun _ _ => none) (f_X2_close_L17) n_17)) n_25) v2 below = some out := hf
          rw [f_X2_close_L25] at hf
          have J59 : ∀ (v2 : Int32) (below : (Nat → Int32)) (H : Heap) (locs : List Loc) (ls : Array Slot), xW D aa [[(h, .inr (2, [.ref a_pairs, .ref a_below]))], [(a_below, .inl (G 0, 8, .inl below))], [(a_pairs, .inl (G 0, 8, .inl pairs))]] H → va_S (xA aa) s.heap H locs → lv_has ls 3 [(0, .ref h), (1, .int v1), (2, .int v2)] → f_X2_close_J59 (lp (τ := Int32 → (Nat → Int32) → Option ((Nat → Int32))) (fun _ _ => none) (f_X2_close_L25 v1 (lp (τ := Int32 → (Nat → Int32) → Option ((Nat → Int32))) (fun _ _ => none) (f_X2_close_L17) n_17)) n_25) v2 below = some out → W p l e (rM 1 26) s m args below meth c H locs 0 0 Q (F0 m 59 ls []) := by
            intro v2 below  H locs ls  hP hS hl hf
            rw [f_X2_close_J59] at hf
            obtain ⟨v2_59, e_v2_59, hf⟩ := lt_some hf
            refine lv_iinc (v := v2_59) (lv' := [(2, .int v2_59), (0, .ref h), (1, .int v1)]) hx hb dX2_close_59 hl (k := 2) rfl (by rw [e_v2_59]; rfl) (by decide) rfl (fun ls hl => ?_)
            refine lv_goto (tgt := 25) hx hb dX2_close_62 (by decide) ?_
            exact ih_25 v2_59 below H locs ls hP hS (lv_sub hl [1, 2, 0] rfl) hf
          refine lv_iload_n hx hb dX2_close_25 rfl (lv_at hl 2 rfl) ?_
          refine lv_bipush (v := 8) hx hb dX2_close_26 (by decide) ?_
          refine lv_icmp_ge (tgt := 65) hx hb dX2_close_28 (by decide) (fun c_28 => ?_) (fun c_28 => ?_)
          · have hf := it_pos c_28 hf
            exact J65 v1 below  H locs ls  hP hS (lv_sub hl [0, 1] rfl) hf
          · have hf := it_neg c_28 hf
            refine lv_aload_n hx hb dX2_close_31 rfl (lv_at hl 0 rfl) ?_
            refine x_get hx hb hts u_X2_close_X2 hown hE hP 0 rfl rfl 1 (by decide) (hts (.fieldLink RX2 15 "DecreasingDiagrams$LabelOrder" "below" "[I") (List.mem_of_getElem? (i := 2) rfl)) rfl dX2_close_32 ?_
            refine lv_iload_n hx hb dX2_close_35 rfl (lv_at hl 2 rfl) ?_
            obtain ⟨hi, hf⟩ := ck_some hf
            refine x_iald hx hb hE hP 1 rfl hi dX2_close_36 ?_
            refine lv_iload_n hx hb dX2_close_37 rfl (lv_at hl 1 rfl) ?_
            obtain ⟨r_38, hr_38, hf⟩ := bd_some hf
            refine x_goi (ps := []) (I' := [[(h, .inr (2, [.ref a_pairs, .ref a_below]))], [(a_below, .inl (G 0, 8, .inl below))], [(a_pairs, .inl (G 0, 8, .inl pairs))]]) (x_runSN (As := [.int (below v2.toNatClampNeg), .int v1]) (rest := []) (ps := []) ⟨hx, hb, hml, hown, hts⟩ (k_X11_isIn l D G (below v2.toNatClampNeg) v1 r_38 hr_38) ⟨va_cnB 2 hts gX2_close_X11_isIn_n18 rfl rfl rfl (hE.2 (.methodLinkNest RX2 18 yX11_isIn RX11) (List.mem_of_getElem? (i := 54) rfl)) (hts (.initialized RX11) (List.mem_of_getElem? (i := 8) rfl)) (by decide +kernel) ⟨Nat.le_of_ble_eq_true rfl, Nat.le_of_ble_eq_true rfl⟩, (hts (.static yX11_isIn) (List.mem_of_getElem? (i := 7) rfl)), trivial⟩ hE hP hN rfl (by decide) rfl hl.1 (Nat.le_of_ble_eq_true rfl) dX2_close_38 ⟨Nat.zero_le _, Nat.zero_le _⟩) hP hN hS rfl rfl (fun H locs hP hS => ?_)
            refine lv_if_eq (tgt := 59) hx hb dX2_close_41 (by decide) (fun c_41 => ?_) (fun c_41 => ?_)
            · have hf := it_pos c_41 hf
              exact J59 v2 below  H locs ls  hP hS (lv_sub hl [0, 1, 2] rfl) hf
            · have hf := it_neg c_41 hf
              refine lv_aload_n hx hb dX2_close_44 rfl (lv_at hl 0 rfl) ?_
              refine x_get hx hb hts u_X2_close_X2 hown hE hP 0 rfl rfl 1 (by decide) (hts (.fieldLink RX2 15 "DecreasingDiagrams$LabelOrder" "below" "[I") (List.mem_of_getElem? (i := 2) rfl)) rfl dX2_close_45 ?_
              refine lv_iload_n hx hb dX2_close_48 rfl (lv_at hl 2 rfl) ?_
              refine lv_dup2_11 hx hb dX2_close_49 rfl rfl ?_
              obtain ⟨hi, hf⟩ := ck_some hf
              refine x_iald hx hb hE hP 1 rfl hi dX2_close_50 ?_
              refine lv_aload_n hx hb dX2_close_51 rfl (lv_at hl 0 rfl) ?_
              refine x_get hx hb hts u_X2_close_X2 hown hE hP 0 rfl rfl 1 (by decide) (hts (.fieldLink RX2 15 "DecreasingDiagrams$LabelOrder" "below" "[I") (List.mem_of_getElem? (i := 2) rfl)) rfl dX2_close_52 ?_
              refine lv_iload_n hx hb dX2_close_55 rfl (lv_at hl 1 rfl) ?_
              obtain ⟨hi, hf⟩ := ck_some hf
              refine x_iald hx hb hE hP 1 rfl hi dX2_close_56 ?_
              refine lv_ior hx hb dX2_close_57 ?_
              obtain ⟨hi, hf⟩ := ck_some hf
              obtain ⟨below_58, e_below_58, hf⟩ := lt_some hf
              refine x_iast (I' := [[(h, .inr (2, [.ref a_pairs, .ref a_below]))], [(a_below, .inl (G 0, 8, .inl below_58))], [(a_pairs, .inl (G 0, 8, .inl pairs))]]) hx hb hE hP hN hS 1 rfl hi e_below_58 rfl dX2_close_58 (fun H locs hP hS => ?_)
              exact J59 v2 below_58  H locs ls  hP hS (lv_sub hl [0, 1, 2] rfl) hf
      refine lv_iload_n hx hb dX2_close_17 rfl (lv_at hl 1 rfl) ?_
      refine lv_bipush (v := 8) hx hb dX2_close_18 (by decide) ?_
      refine lv_icmp_ge (tgt := 71) hx hb dX2_close_20 (by decide) (fun c_20 => ?_) (fun c_20 => ?_)
      · have hf := it_pos c_20 hf
        have hf := Option.some.inj hf
        subst hf
        subst hQ
        exact x_vret hx hb hr hlocks hP hS dX2_close_71
      · have hf := it_neg c_20 hf
        refine lv_iconst (v := 0) hx hb dX2_close_23 (by decide) ?_
        obtain ⟨v2_24, e_v2_24, hf⟩ := lt_some hf
        refine x_istore_n (v := v2_24) (lv' := [(2, .int v2_24), (0, .ref h), (1, .int v1)]) hx hb dX2_close_24 e_v2_24 rfl hl (by decide) rfl (fun ls hl => ?_)
        exact L25 v1   fuel v2_24 below H locs ls hP hS (lv_sub hl [1, 2, 0] rfl) hf
  rw [f_X2_close] at hf
  obtain ⟨H, hH⟩ : ∃ H : Heap, H = s.heap := ⟨_, rfl⟩
  obtain ⟨locs, hlocs⟩ : ∃ locs : List Loc, locs = [] := ⟨_, rfl⟩
  have hP : xW D aa [[(h, .inr (2, [.ref a_pairs, .ref a_below]))], [(a_below, .inl (G 0, 8, .inl below))], [(a_pairs, .inl (G 0, 8, .inl pairs))]] H := by rw [hH]; exact hP
  have hS : va_S (xA aa) s.heap H locs := by rw [hH, hlocs]; exact hS
  suffices GO : W p l e (rM 1 26) s m args below meth c H locs 0 0 Q (F0 m 0 ls []) by
    rw [hH, hlocs] at GO
    exact GO
  clear hH hlocs
  refine lv_aload_n hx hb dX2_close_0 rfl (lv_at hl 0 rfl) ?_
  refine x_get hx hb hts u_X2_close_X2 hown hE hP 0 rfl rfl 0 (by decide) (hts (.fieldLink RX2 9 "DecreasingDiagrams$LabelOrder" "pairs" "[I") (List.mem_of_getElem? (i := 1) rfl)) rfl dX2_close_1 ?_
  refine lv_iconst (v := 0) hx hb dX2_close_4 (by decide) ?_
  refine lv_aload_n hx hb dX2_close_5 rfl (lv_at hl 0 rfl) ?_
  refine x_get hx hb hts u_X2_close_X2 hown hE hP 0 rfl rfl 1 (by decide) (hts (.fieldLink RX2 15 "DecreasingDiagrams$LabelOrder" "below" "[I") (List.mem_of_getElem? (i := 2) rfl)) rfl dX2_close_6 ?_
  refine lv_iconst (v := 0) hx hb dX2_close_9 (by decide) ?_
  refine lv_bipush (v := 8) hx hb dX2_close_10 (by decide) ?_
  obtain ⟨below_12, e_below_12, hf⟩ := lt_some hf
  refine x_copyi (I' := [[(h, .inr (2, [.ref a_pairs, .ref a_below]))], [(a_below, .inl (G 0, 8, .inl below_12))], [(a_pairs, .inl (G 0, 8, .inl pairs))]]) hx hb (hml.trans hl.1.symm) hown (hts (.methodLink RX2 31 arraycopyName) (List.mem_of_getElem? (i := 3) rfl)) (hts (.native arraycopyName) (List.mem_of_getElem? (i := 4) rfl)) (hts (.static arraycopyName) (List.mem_of_getElem? (i := 5) rfl)) (hts (.initialized RJ10) (List.mem_of_getElem? (i := 6) rfl)) hE hP hN hS 2 1 rfl rfl (by decide) (by decide) (by decide) (by decide) (by decide) (by decide) (by decide) (by rw [e_below_12]; rfl) rfl dX2_close_12 (fun H locs hP hS => ?_)
  refine lv_iconst (v := 0) hx hb dX2_close_15 (by decide) ?_
  obtain ⟨v1_16, e_v1_16, hf⟩ := lt_some hf
  refine x_istore_n (v := v1_16) (lv' := [(1, .int v1_16), (0, .ref h)]) hx hb dX2_close_16 e_v1_16 rfl hl (by decide) rfl (fun ls hl => ?_)
  exact L17    fuel v1_16 below_12 H locs ls hP hS (lv_sub hl [1, 0] rfl) hf

set_option maxRecDepth 20000 in
theorem u_X2_put_X2 : ∀ w ∈ wsX20, w ∈ wsX2_put := xx_pl _ [15, 16] (by decide +kernel)
def f_X2_put (below : (Nat → Int32)) (pairs : (Nat → Int32)) (v1 : Int32) (v2 : Int32) : Option ((Nat → Int32) × (Nat → Int32)) :=
  ck v1 8 (ck v1 8 (lt (upd pairs v1.toNatClampNeg ((pairs v1.toNatClampNeg) ||| (1 <<< (v2 &&& 31)))) (fun pairs_11 => (f_X2_close below pairs_11).bind (fun r_13 => some (r_13, pairs_11)))))
set_option maxHeartbeats 4000000 in
set_option maxRecDepth 100000 in
theorem k_X2_put (l : Launch) (D : va_G) (G : Nat → ClassId) (h : Nat) (a_pairs : Nat) (a_below : Nat) (below : (Nat → Int32)) (pairs : (Nat → Int32))  (v1 : Int32) (v2 : Int32) (out : (Nat → Int32) × (Nat → Int32)) (hf : f_X2_put below pairs v1 v2 = some out) : xMet l yX2_put wsX2_put (rM 2 48) D G [.ref h, .int v1, .int v2] [[(h, .inr (2, [.ref a_pairs, .ref a_below]))], [(a_below, .inl (G 0, 8, .inl below))], [(a_pairs, .inl (G 0, 8, .inl pairs))]] (xQv D [[(h, .inr (2, [.ref a_pairs, .ref a_below]))], [(a_below, .inl (G 0, 8, .inl out.1))], [(a_pairs, .inl (G 0, 8, .inl out.2))]]) := by
  refine x_ent (cc := cX2_put) (maxL := 3) (by decide) rfl (Nat.le_of_ble_eq_true rfl) ?_
  intro p e s m below meth c aa ls args Q hQ hx hb hr hml hown hts hlocks hE hN hP hl hS
  have hown : s.vm.findClass RX2 = some m.cls := hown
  have hl : lv_has ls 3 [(0, .ref h), (1, .int v1), (2, .int v2)] := hl
  rw [f_X2_put] at hf
  obtain ⟨H, hH⟩ : ∃ H : Heap, H = s.heap := ⟨_, rfl⟩
  obtain ⟨locs, hlocs⟩ : ∃ locs : List Loc, locs = [] := ⟨_, rfl⟩
  have hP : xW D aa [[(h, .inr (2, [.ref a_pairs, .ref a_below]))], [(a_below, .inl (G 0, 8, .inl below))], [(a_pairs, .inl (G 0, 8, .inl pairs))]] H := by rw [hH]; exact hP
  have hS : va_S (xA aa) s.heap H locs := by rw [hH, hlocs]; exact hS
  suffices GO : W p l e (rM 2 48) s m args below meth c H locs 0 0 Q (F0 m 0 ls []) by
    rw [hH, hlocs] at GO
    exact GO
  clear hH hlocs
  refine lv_aload_n hx hb dX2_put_0 rfl (lv_at hl 0 rfl) ?_
  refine x_get hx hb hts u_X2_put_X2 hown hE hP 0 rfl rfl 0 (by decide) (hts (.fieldLink RX2 9 "DecreasingDiagrams$LabelOrder" "pairs" "[I") (List.mem_of_getElem? (i := 1) rfl)) rfl dX2_put_1 ?_
  refine lv_iload_n hx hb dX2_put_4 rfl (lv_at hl 1 rfl) ?_
  refine lv_dup2_11 hx hb dX2_put_5 rfl rfl ?_
  obtain ⟨hi, hf⟩ := ck_some hf
  refine x_iald hx hb hE hP 2 rfl hi dX2_put_6 ?_
  refine lv_iconst (v := 1) hx hb dX2_put_7 (by decide) ?_
  refine lv_iload_n hx hb dX2_put_8 rfl (lv_at hl 2 rfl) ?_
  refine lv_ishl hx hb dX2_put_9 ?_
  refine lv_ior hx hb dX2_put_10 ?_
  obtain ⟨hi, hf⟩ := ck_some hf
  obtain ⟨pairs_11, e_pairs_11, hf⟩ := lt_some hf
  refine x_iast (I' := [[(h, .inr (2, [.ref a_pairs, .ref a_below]))], [(a_below, .inl (G 0, 8, .inl below))], [(a_pairs, .inl (G 0, 8, .inl pairs_11))]]) hx hb hE hP hN hS 2 rfl hi e_pairs_11 rfl dX2_put_11 (fun H locs hP hS => ?_)
  refine lv_aload_n hx hb dX2_put_12 rfl (lv_at hl 0 rfl) ?_
  obtain ⟨r_13, hr_13, hf⟩ := bd_some hf
  refine x_gov (ps := [0, 1, 2]) (I' := [[(h, .inr (2, [.ref a_pairs, .ref a_below]))], [(a_below, .inl (G 0, 8, .inl r_13))], [(a_pairs, .inl (G 0, 8, .inl pairs_11))]]) (x_runV (As := []) (rest := []) (ps := [0, 1, 2]) ⟨hx, hb, hml, hown, hts⟩ (k_X2_close l D G h a_pairs a_below below pairs_11 r_13 hr_13) (cwV 0 hts gX2_put_X2_close rfl rfl rfl (by decide +kernel) ⟨Nat.le_of_ble_eq_true rfl, Nat.le_of_ble_eq_true rfl⟩) hE hP hN rfl (by decide) 0 rfl rfl rfl hl.1 (Nat.le_of_ble_eq_true rfl) dX2_put_13 ⟨Nat.zero_le _, Nat.zero_le _⟩) hP hN hS rfl rfl (fun H locs hP hS => ?_)
  have hf := Option.some.inj hf
  subst hf
  subst hQ
  exact x_vret hx hb hr hlocks hP hS dX2_put_16

set_option maxRecDepth 20000 in
theorem u_X1_byteAt_X1 : ∀ w ∈ wsX10, w ∈ wsX1_byteAt := xx_pl _ [3, 4] (by decide +kernel)
def f_X1_byteAt (length : Int32) (bytes : (Nat → Int32)) (v1 : Int32) : Option (Int32) :=
  if v1 < 0 then (some 0) else (if length ≤ v1 then (some 0) else (ck v1 20 (some (bytes v1.toNatClampNeg))))
set_option maxHeartbeats 4000000 in
set_option maxRecDepth 100000 in
theorem k_X1_byteAt (l : Launch) (D : va_G) (G : Nat → ClassId) (h : Nat) (a_bytes : Nat) (length : Int32) (bytes : (Nat → Int32))  (v1 : Int32) (out : Int32) (hf : f_X1_byteAt length bytes v1 = some out) : xMet l yX1_byteAt wsX1_byteAt (rM 0 0) D G [.ref h, .int v1] [[(h, .inr (1, [.int length, .ref a_bytes]))], [(a_bytes, .inl (G 0, 20, .inl bytes))]] (xQi D [[(h, .inr (1, [.int length, .ref a_bytes]))], [(a_bytes, .inl (G 0, 20, .inl bytes))]] out) := by
  refine x_ent (cc := cX1_byteAt) (maxL := 2) (by decide) rfl (Nat.le_of_ble_eq_true rfl) ?_
  intro p e s m below meth c aa ls args Q hQ hx hb hr hml hown hts hlocks hE hN hP hl hS
  have hown : s.vm.findClass RX1 = some m.cls := hown
  have hl : lv_has ls 2 [(0, .ref h), (1, .int v1)] := hl
  rw [f_X1_byteAt] at hf
  obtain ⟨H, hH⟩ : ∃ H : Heap, H = s.heap := ⟨_, rfl⟩
  obtain ⟨locs, hlocs⟩ : ∃ locs : List Loc, locs = [] := ⟨_, rfl⟩
  have hP : xW D aa [[(h, .inr (1, [.int length, .ref a_bytes]))], [(a_bytes, .inl (G 0, 20, .inl bytes))]] H := by rw [hH]; exact hP
  have hS : va_S (xA aa) s.heap H locs := by rw [hH, hlocs]; exact hS
  suffices GO : W p l e (rM 0 0) s m args below meth c H locs 0 0 Q (F0 m 0 ls []) by
    rw [hH, hlocs] at GO
    exact GO
  clear hH hlocs
  refine lv_iload_n hx hb dX1_byteAt_0 rfl (lv_at hl 1 rfl) ?_
  refine lv_if_lt (tgt := 21) hx hb dX1_byteAt_1 (by decide) (fun c_1 => ?_) (fun c_1 => ?_)
  · have hf := it_pos c_1 hf
    refine lv_iconst (v := 0) hx hb dX1_byteAt_21 (by decide) ?_
    have hf := Option.some.inj hf
    subst hf
    subst hQ
    exact x_iret hx hb hr hlocks hP hS dX1_byteAt_22
  · have hf := it_neg c_1 hf
    refine lv_iload_n hx hb dX1_byteAt_4 rfl (lv_at hl 1 rfl) ?_
    refine lv_aload_n hx hb dX1_byteAt_5 rfl (lv_at hl 0 rfl) ?_
    refine x_get hx hb hts u_X1_byteAt_X1 hown hE hP 0 rfl rfl 0 (by decide) (hts (.fieldLink RX1 9 "DecreasingDiagrams$InputLine" "length" "I") (List.mem_of_getElem? (i := 1) rfl)) rfl dX1_byteAt_6 ?_
    refine lv_icmp_ge (tgt := 21) hx hb dX1_byteAt_9 (by decide) (fun c_9 => ?_) (fun c_9 => ?_)
    · have hf := it_pos c_9 hf
      refine lv_iconst (v := 0) hx hb dX1_byteAt_21 (by decide) ?_
      have hf := Option.some.inj hf
      subst hf
      subst hQ
      exact x_iret hx hb hr hlocks hP hS dX1_byteAt_22
    · have hf := it_neg c_9 hf
      refine lv_aload_n hx hb dX1_byteAt_12 rfl (lv_at hl 0 rfl) ?_
      refine x_get hx hb hts u_X1_byteAt_X1 hown hE hP 0 rfl rfl 1 (by decide) (hts (.fieldLink RX1 15 "DecreasingDiagrams$InputLine" "bytes" "[I") (List.mem_of_getElem? (i := 2) rfl)) rfl dX1_byteAt_13 ?_
      refine lv_iload_n hx hb dX1_byteAt_16 rfl (lv_at hl 1 rfl) ?_
      obtain ⟨hi, hf⟩ := ck_some hf
      refine x_iald hx hb hE hP 1 rfl hi dX1_byteAt_17 ?_
      refine lv_goto (tgt := 22) hx hb dX1_byteAt_18 (by decide) ?_
      have hf := Option.some.inj hf
      subst hf
      subst hQ
      exact x_iret hx hb hr hlocks hP hS dX1_byteAt_22

def f_X1_wordAt_L5 (length : Int32) (bytes : (Nat → Int32)) (v1 : Int32) (v2 : Int32) (rec_5 : Int32 → Int32 → Option (Int32)) (v3 : Int32) (v4 : Int32) : Option (Int32) :=
  if v2 ≤ v4 then (some v3) else ((f_X1_byteAt length bytes (v1 + v4)).bind (fun r_16 => lt r_16 (fun v5_19 => if v5_19 < 97 then (some v3) else (if v5_19 ≤ 99 then ((f_X10_append v3 v4 v5_19).bind (fun r_42 => lt r_42 (fun v3_45 => lt (v4 + 1) (fun v4_46 => rec_5 v3_45 v4_46)))) else (some v3)))))
def f_X1_wordAt (length : Int32) (bytes : (Nat → Int32)) (v1 : Int32) (v2 : Int32) : Option (Int32) :=
  lt 0 (fun v3_1 => lt 0 (fun v4_3 => lp (τ := Int32 → Int32 → Option (Int32)) (fun _ _ => none) (f_X1_wordAt_L5 length bytes v1 v2) fuel v3_1 v4_3))
set_option maxHeartbeats 4000000 in
set_option maxRecDepth 100000 in
theorem k_X1_wordAt (l : Launch) (D : va_G) (G : Nat → ClassId) (h : Nat) (a_bytes : Nat) (length : Int32) (bytes : (Nat → Int32))  (v1 : Int32) (v2 : Int32) (out : Int32) (hf : f_X1_wordAt length bytes v1 v2 = some out) : xMet l yX1_wordAt wsX1_wordAt (rM 1 22) D G [.ref h, .int v1, .int v2] [[(h, .inr (1, [.int length, .ref a_bytes]))], [(a_bytes, .inl (G 0, 20, .inl bytes))]] (xQi D [[(h, .inr (1, [.int length, .ref a_bytes]))], [(a_bytes, .inl (G 0, 20, .inl bytes))]] out) := by
  refine x_ent (cc := cX1_wordAt) (maxL := 6) (by decide) rfl (Nat.le_of_ble_eq_true rfl) ?_
  intro p e s m below meth c aa ls args Q hQ hx hb hr hml hown hts hlocks hE hN hP hl hS
  have hown : s.vm.findClass RX1 = some m.cls := hown
  have hl : lv_has ls 6 [(0, .ref h), (1, .int v1), (2, .int v2)] := hl
  have L5 : ∀ (n_5 : Nat) (v3 : Int32) (v4 : Int32) (H : Heap) (locs : List Loc) (ls : Array Slot), xW D aa [[(h, .inr (1, [.int length, .ref a_bytes]))], [(a_bytes, .inl (G 0, 20, .inl bytes))]] H → va_S (xA aa) s.heap H locs → lv_has ls 6 [(0, .ref h), (1, .int v1), (2, .int v2), (3, .int v3), (4, .int v4)] → lp (τ := Int32 → Int32 → Option (Int32)) (fun _ _ => none) (f_X1_wordAt_L5 length bytes v1 v2) n_5 v3 v4 = some out → W p l e (rM 1 22) s m args below meth c H locs 0 0 Q (F0 m 5 ls []) := by
    intro    n_5
    induction n_5 with
    | zero =>
      intro v3 v4 H locs ls hP hS hl hf
      exact no_some hf
    | succ n_5 ih_5 =>
      intro v3 v4 H locs ls hP hS hl hf
      have hf : f_X1_wordAt_L5 length bytes v1 v2 (lp (τ := Int32 → Int32 → Option (Int32)) (fun _ _ => none) (f_X1_wordAt_L5 length bytes v1 v2) n_5) v3 v4 = some out := hf
      rw [f_X1_wordAt_L5] at hf
      refine lv_iload hx hb dX1_wordAt_5 (lv_at hl 4 rfl) ?_
      refine lv_iload_n hx hb dX1_wordAt_7 rfl (lv_at hl 2 rfl) ?_
      refine lv_icmp_ge (tgt := 52) hx hb dX1_wordAt_8 (by decide) (fun c_8 => ?_) (fun c_8 => ?_)
      · have hf := it_pos c_8 hf
        refine lv_iload_n hx hb dX1_wordAt_52 rfl (lv_at hl 3 rfl) ?_
        have hf := Option.some.inj hf
        subst hf
        subst hQ
        exact x_iret hx hb hr hlocks hP hS dX1_wordAt_53
      · have hf := it_neg c_8 hf
        refine lv_aload_n hx hb dX1_wordAt_11 rfl (lv_at hl 0 rfl) ?_
        refine lv_iload_n hx hb dX1_wordAt_12 rfl (lv_at hl 1 rfl) ?_
        refine lv_iload hx hb dX1_wordAt_13 (lv_at hl 4 rfl) ?_
        refine lv_iadd hx hb dX1_wordAt_15 ?_
        obtain ⟨r_16, hr_16, hf⟩ := bd_some hf
        refine x_goi (ps := [0, 1]) (I' := [[(h, .inr (1, [.int length, .ref a_bytes]))], [(a_bytes, .inl (G 0, 20, .inl bytes))]]) (x_runV (As := [.int (v1 + v4)]) (rest := []) (ps := [0, 1]) ⟨hx, hb, hml, hown, hts⟩ (k_X1_byteAt l D G h a_bytes length bytes (v1 + v4) r_16 hr_16) (cwV 1 hts gX1_wordAt_X1_byteAt rfl rfl rfl (by decide +kernel) ⟨Nat.le_of_ble_eq_true rfl, Nat.le_of_ble_eq_true rfl⟩) hE hP hN rfl (by decide) 0 rfl rfl rfl hl.1 (Nat.le_of_ble_eq_true rfl) dX1_wordAt_16 ⟨Nat.zero_le _, Nat.zero_le _⟩) hP hN hS rfl rfl (fun H locs hP hS => ?_)
        obtain ⟨v5_19, e_v5_19, hf⟩ := lt_some hf
        refine x_istore (v := v5_19) (lv' := [(5, .int v5_19), (0, .ref h), (1, .int v1), (2, .int v2), (3, .int v3), (4, .int v4)]) hx hb dX1_wordAt_19 e_v5_19 hl (by decide) rfl (fun ls hl => ?_)
        refine lv_iload hx hb dX1_wordAt_21 (lv_at hl 0 rfl) ?_
        refine lv_bipush (v := 97) hx hb dX1_wordAt_23 (by decide) ?_
        refine lv_icmp_lt (tgt := 35) hx hb dX1_wordAt_25 (by decide) (fun c_25 => ?_) (fun c_25 => ?_)
        · have hf := it_pos c_25 hf
          refine lv_iload_n hx hb dX1_wordAt_35 rfl (lv_at hl 4 rfl) ?_
          have hf := Option.some.inj hf
          subst hf
          subst hQ
          exact x_iret hx hb hr hlocks hP hS dX1_wordAt_36
        · have hf := it_neg c_25 hf
          refine lv_iload hx hb dX1_wordAt_28 (lv_at hl 0 rfl) ?_
          refine lv_bipush (v := 99) hx hb dX1_wordAt_30 (by decide) ?_
          refine lv_icmp_le (tgt := 37) hx hb dX1_wordAt_32 (by decide) (fun c_32 => ?_) (fun c_32 => ?_)
          · have hf := it_pos c_32 hf
            refine lv_iload_n hx hb dX1_wordAt_37 rfl (lv_at hl 4 rfl) ?_
            refine lv_iload hx hb dX1_wordAt_38 (lv_at hl 5 rfl) ?_
            refine lv_iload hx hb dX1_wordAt_40 (lv_at hl 0 rfl) ?_
            obtain ⟨r_42, hr_42, hf⟩ := bd_some hf
            refine x_goi (ps := []) (I' := [[(h, .inr (1, [.int length, .ref a_bytes]))], [(a_bytes, .inl (G 0, 20, .inl bytes))]]) (x_runSN (As := [.int v3, .int v4, .int v5_19]) (rest := []) (ps := []) ⟨hx, hb, hml, hown, hts⟩ (k_X10_append l D G v3 v4 v5_19 r_42 hr_42) ⟨va_cnB 3 hts gX1_wordAt_X10_append_n23 rfl rfl rfl (hE.2 (.methodLinkNest RX1 23 yX10_append RX11) (List.mem_of_getElem? (i := 94) rfl)) (hts (.initialized RX10) (List.mem_of_getElem? (i := 9) rfl)) (by decide +kernel) ⟨Nat.le_of_ble_eq_true rfl, Nat.le_of_ble_eq_true rfl⟩, (hts (.static yX10_append) (List.mem_of_getElem? (i := 8) rfl)), trivial⟩ hE hP hN rfl (by decide) rfl hl.1 (Nat.le_of_ble_eq_true rfl) dX1_wordAt_42 ⟨Nat.zero_le _, Nat.zero_le _⟩) hP hN hS rfl rfl (fun H locs hP hS => ?_)
            obtain ⟨v3_45, e_v3_45, hf⟩ := lt_some hf
            refine x_istore_n (v := v3_45) (lv' := [(3, .int v3_45), (5, .int v5_19), (0, .ref h), (1, .int v1), (2, .int v2), (4, .int v4)]) hx hb dX1_wordAt_45 e_v3_45 rfl hl (by decide) rfl (fun ls hl => ?_)
            obtain ⟨v4_46, e_v4_46, hf⟩ := lt_some hf
            refine lv_iinc (v := v4_46) (lv' := [(4, .int v4_46), (3, .int v3_45), (5, .int v5_19), (0, .ref h), (1, .int v1), (2, .int v2)]) hx hb dX1_wordAt_46 hl (k := 5) rfl (by rw [e_v4_46]; rfl) (by decide) rfl (fun ls hl => ?_)
            refine lv_goto (tgt := 5) hx hb dX1_wordAt_49 (by decide) ?_
            exact ih_5 v3_45 v4_46 H locs ls hP hS (lv_sub hl [3, 4, 5, 1, 0] rfl) hf
          · have hf := it_neg c_32 hf
            refine lv_iload_n hx hb dX1_wordAt_35 rfl (lv_at hl 4 rfl) ?_
            have hf := Option.some.inj hf
            subst hf
            subst hQ
            exact x_iret hx hb hr hlocks hP hS dX1_wordAt_36
  rw [f_X1_wordAt] at hf
  obtain ⟨H, hH⟩ : ∃ H : Heap, H = s.heap := ⟨_, rfl⟩
  obtain ⟨locs, hlocs⟩ : ∃ locs : List Loc, locs = [] := ⟨_, rfl⟩
  have hP : xW D aa [[(h, .inr (1, [.int length, .ref a_bytes]))], [(a_bytes, .inl (G 0, 20, .inl bytes))]] H := by rw [hH]; exact hP
  have hS : va_S (xA aa) s.heap H locs := by rw [hH, hlocs]; exact hS
  suffices GO : W p l e (rM 1 22) s m args below meth c H locs 0 0 Q (F0 m 0 ls []) by
    rw [hH, hlocs] at GO
    exact GO
  clear hH hlocs
  refine lv_iconst (v := 0) hx hb dX1_wordAt_0 (by decide) ?_
  obtain ⟨v3_1, e_v3_1, hf⟩ := lt_some hf
  refine x_istore_n (v := v3_1) (lv' := [(3, .int v3_1), (0, .ref h), (1, .int v1), (2, .int v2)]) hx hb dX1_wordAt_1 e_v3_1 rfl hl (by decide) rfl (fun ls hl => ?_)
  refine lv_iconst (v := 0) hx hb dX1_wordAt_2 (by decide) ?_
  obtain ⟨v4_3, e_v4_3, hf⟩ := lt_some hf
  refine x_istore (v := v4_3) (lv' := [(4, .int v4_3), (3, .int v3_1), (0, .ref h), (1, .int v1), (2, .int v2)]) hx hb dX1_wordAt_3 e_v4_3 hl (by decide) rfl (fun ls hl => ?_)
  exact L5    fuel v3_1 v4_3 H locs ls hP hS (lv_sub hl [2, 3, 4, 1, 0] rfl) hf

set_option maxRecDepth 20000 in
theorem u_X1_clear_X1 : ∀ w ∈ wsX10, w ∈ wsX1_clear := xx_pl _ [2, 3] (by decide +kernel)
def f_X1_clear  : Option (Int32) :=
  lt 0 (fun length_2 => some length_2)
set_option maxHeartbeats 4000000 in
set_option maxRecDepth 100000 in
theorem k_X1_clear (l : Launch) (D : va_G) (G : Nat → ClassId) (h : Nat) (a_bytes : Nat) (length : Int32)   (out : Int32) (hf : f_X1_clear  = some out) : xMet l yX1_clear wsX1_clear (rM 0 0) D G [.ref h] [[(h, .inr (1, [.int length, .ref a_bytes]))]] (xQv D [[(h, .inr (1, [.int out, .ref a_bytes]))]]) := by
  refine x_ent (cc := cX1_clear) (maxL := 1) (by decide) rfl (Nat.le_of_ble_eq_true rfl) ?_
  intro p e s m below meth c aa ls args Q hQ hx hb hr hml hown hts hlocks hE hN hP hl hS
  have hown : s.vm.findClass RX1 = some m.cls := hown
  have hl : lv_has ls 1 [(0, .ref h)] := hl
  rw [f_X1_clear] at hf
  obtain ⟨H, hH⟩ : ∃ H : Heap, H = s.heap := ⟨_, rfl⟩
  obtain ⟨locs, hlocs⟩ : ∃ locs : List Loc, locs = [] := ⟨_, rfl⟩
  have hP : xW D aa [[(h, .inr (1, [.int length, .ref a_bytes]))]] H := by rw [hH]; exact hP
  have hS : va_S (xA aa) s.heap H locs := by rw [hH, hlocs]; exact hS
  suffices GO : W p l e (rM 0 0) s m args below meth c H locs 0 0 Q (F0 m 0 ls []) by
    rw [hH, hlocs] at GO
    exact GO
  clear hH hlocs
  refine lv_aload_n hx hb dX1_clear_0 rfl (lv_at hl 0 rfl) ?_
  refine lv_iconst (v := 0) hx hb dX1_clear_1 (by decide) ?_
  obtain ⟨length_2, e_length_2, hf⟩ := lt_some hf
  refine x_put (w := .int length_2) (ty := .int) (I' := [[(h, .inr (1, [.int length_2, .ref a_bytes]))]]) hx hb hts u_X1_clear_X1 tyX1 tyX1_ok nmX1 hown hE hP hN hS 0 rfl rfl 0 (by decide) (hts (.fieldLink RX1 9 "DecreasingDiagrams$InputLine" "length" "I") (List.mem_of_getElem? (i := 1) rfl)) rfl (congrArg Value.int e_length_2) (by decide +kernel) rfl rfl (Nat.le_of_ble_eq_true rfl) rfl dX1_clear_2 (fun H locs hP hS => ?_)
  have hf := Option.some.inj hf
  subst hf
  subst hQ
  exact x_vret hx hb hr hlocks hP hS dX1_clear_5

set_option maxRecDepth 20000 in
theorem u_X8_append_X8 : ∀ w ∈ wsX80, w ∈ wsX8_append := xx_pl _ [4, 5, 6] (by decide +kernel)
def f_X8_append (count : Int32) (lefts : (Nat → Int32)) (rights : (Nat → Int32)) (v1 : Int32) (v2 : Int32) : Option (Int32 × Int32 × (Nat → Int32) × (Nat → Int32)) :=
  if count < 6 then (ck count 6 (lt (upd lefts count.toNatClampNeg v1) (fun lefts_21 => ck count 6 (lt (upd rights count.toNatClampNeg v2) (fun rights_31 => lt (count + 1) (fun count_39 => some (count_39 - 1, count_39, lefts_21, rights_31))))))) else (some ((-3), count, lefts, rights))
set_option maxHeartbeats 4000000 in
set_option maxRecDepth 100000 in
theorem k_X8_append (l : Launch) (D : va_G) (G : Nat → ClassId) (h : Nat) (a_lefts : Nat) (a_rights : Nat) (count : Int32) (lefts : (Nat → Int32)) (rights : (Nat → Int32))  (v1 : Int32) (v2 : Int32) (out : Int32 × Int32 × (Nat → Int32) × (Nat → Int32)) (hf : f_X8_append count lefts rights v1 v2 = some out) : xMet l yX8_append wsX8_append (rM 0 0) D G [.ref h, .int v1, .int v2] [[(h, .inr (8, [.int count, .ref a_lefts, .ref a_rights]))], [(a_lefts, .inl (G 0, 6, .inl lefts))], [(a_rights, .inl (G 0, 6, .inl rights))]] (xQi D [[(h, .inr (8, [.int out.2.1, .ref a_lefts, .ref a_rights]))], [(a_lefts, .inl (G 0, 6, .inl out.2.2.1))], [(a_rights, .inl (G 0, 6, .inl out.2.2.2))]] out.1) := by
  refine x_ent (cc := cX8_append) (maxL := 3) (by decide) rfl (Nat.le_of_ble_eq_true rfl) ?_
  intro p e s m below meth c aa ls args Q hQ hx hb hr hml hown hts hlocks hE hN hP hl hS
  have hown : s.vm.findClass RX8 = some m.cls := hown
  have hl : lv_has ls 3 [(0, .ref h), (1, .int v1), (2, .int v2)] := hl
  rw [f_X8_append] at hf
  obtain ⟨H, hH⟩ : ∃ H : Heap, H = s.heap := ⟨_, rfl⟩
  obtain ⟨locs, hlocs⟩ : ∃ locs : List Loc, locs = [] := ⟨_, rfl⟩
  have hP : xW D aa [[(h, .inr (8, [.int count, .ref a_lefts, .ref a_rights]))], [(a_lefts, .inl (G 0, 6, .inl lefts))], [(a_rights, .inl (G 0, 6, .inl rights))]] H := by rw [hH]; exact hP
  have hS : va_S (xA aa) s.heap H locs := by rw [hH, hlocs]; exact hS
  suffices GO : W p l e (rM 0 0) s m args below meth c H locs 0 0 Q (F0 m 0 ls []) by
    rw [hH, hlocs] at GO
    exact GO
  clear hH hlocs
  refine lv_aload_n hx hb dX8_append_0 rfl (lv_at hl 0 rfl) ?_
  refine x_get hx hb hts u_X8_append_X8 hown hE hP 0 rfl rfl 0 (by decide) (hts (.fieldLink RX8 9 "DecreasingDiagrams$RuleSet" "count" "I") (List.mem_of_getElem? (i := 1) rfl)) rfl dX8_append_1 ?_
  refine lv_bipush (v := 6) hx hb dX8_append_4 (by decide) ?_
  refine lv_icmp_lt (tgt := 12) hx hb dX8_append_6 (by decide) (fun c_6 => ?_) (fun c_6 => ?_)
  · have hf := it_pos c_6 hf
    refine lv_aload_n hx hb dX8_append_12 rfl (lv_at hl 0 rfl) ?_
    refine x_get hx hb hts u_X8_append_X8 hown hE hP 0 rfl rfl 1 (by decide) (hts (.fieldLink RX8 15 "DecreasingDiagrams$RuleSet" "lefts" "[I") (List.mem_of_getElem? (i := 2) rfl)) rfl dX8_append_13 ?_
    refine lv_aload_n hx hb dX8_append_16 rfl (lv_at hl 0 rfl) ?_
    refine x_get hx hb hts u_X8_append_X8 hown hE hP 0 rfl rfl 0 (by decide) (hts (.fieldLink RX8 9 "DecreasingDiagrams$RuleSet" "count" "I") (List.mem_of_getElem? (i := 1) rfl)) rfl dX8_append_17 ?_
    refine lv_iload_n hx hb dX8_append_20 rfl (lv_at hl 1 rfl) ?_
    obtain ⟨hi, hf⟩ := ck_some hf
    obtain ⟨lefts_21, e_lefts_21, hf⟩ := lt_some hf
    refine x_iast (I' := [[(h, .inr (8, [.int count, .ref a_lefts, .ref a_rights]))], [(a_lefts, .inl (G 0, 6, .inl lefts_21))], [(a_rights, .inl (G 0, 6, .inl rights))]]) hx hb hE hP hN hS 1 rfl hi e_lefts_21 rfl dX8_append_21 (fun H locs hP hS => ?_)
    refine lv_aload_n hx hb dX8_append_22 rfl (lv_at hl 0 rfl) ?_
    refine x_get hx hb hts u_X8_append_X8 hown hE hP 0 rfl rfl 2 (by decide) (hts (.fieldLink RX8 19 "DecreasingDiagrams$RuleSet" "rights" "[I") (List.mem_of_getElem? (i := 3) rfl)) rfl dX8_append_23 ?_
    refine lv_aload_n hx hb dX8_append_26 rfl (lv_at hl 0 rfl) ?_
    refine x_get hx hb hts u_X8_append_X8 hown hE hP 0 rfl rfl 0 (by decide) (hts (.fieldLink RX8 9 "DecreasingDiagrams$RuleSet" "count" "I") (List.mem_of_getElem? (i := 1) rfl)) rfl dX8_append_27 ?_
    refine lv_iload_n hx hb dX8_append_30 rfl (lv_at hl 2 rfl) ?_
    obtain ⟨hi, hf⟩ := ck_some hf
    obtain ⟨rights_31, e_rights_31, hf⟩ := lt_some hf
    refine x_iast (I' := [[(h, .inr (8, [.int count, .ref a_lefts, .ref a_rights]))], [(a_lefts, .inl (G 0, 6, .inl lefts_21))], [(a_rights, .inl (G 0, 6, .inl rights_31))]]) hx hb hE hP hN hS 2 rfl hi e_rights_31 rfl dX8_append_31 (fun H locs hP hS => ?_)
    refine lv_aload_n hx hb dX8_append_32 rfl (lv_at hl 0 rfl) ?_
    refine lv_dup hx hb dX8_append_33 rfl ?_
    refine x_get hx hb hts u_X8_append_X8 hown hE hP 0 rfl rfl 0 (by decide) (hts (.fieldLink RX8 9 "DecreasingDiagrams$RuleSet" "count" "I") (List.mem_of_getElem? (i := 1) rfl)) rfl dX8_append_34 ?_
    refine lv_iconst (v := 1) hx hb dX8_append_37 (by decide) ?_
    refine lv_iadd hx hb dX8_append_38 ?_
    obtain ⟨count_39, e_count_39, hf⟩ := lt_some hf
    refine x_put (w := .int count_39) (ty := .int) (I' := [[(h, .inr (8, [.int count_39, .ref a_lefts, .ref a_rights]))], [(a_lefts, .inl (G 0, 6, .inl lefts_21))], [(a_rights, .inl (G 0, 6, .inl rights_31))]]) hx hb hts u_X8_append_X8 tyX8 tyX8_ok nmX8 hown hE hP hN hS 0 rfl rfl 0 (by decide) (hts (.fieldLink RX8 9 "DecreasingDiagrams$RuleSet" "count" "I") (List.mem_of_getElem? (i := 1) rfl)) rfl (congrArg Value.int e_count_39) (by decide +kernel) rfl rfl (Nat.le_of_ble_eq_true rfl) rfl dX8_append_39 (fun H locs hP hS => ?_)
    refine lv_aload_n hx hb dX8_append_42 rfl (lv_at hl 0 rfl) ?_
    refine x_get hx hb hts u_X8_append_X8 hown hE hP 0 rfl rfl 0 (by decide) (hts (.fieldLink RX8 9 "DecreasingDiagrams$RuleSet" "count" "I") (List.mem_of_getElem? (i := 1) rfl)) rfl dX8_append_43 ?_
    refine lv_iconst (v := 1) hx hb dX8_append_46 (by decide) ?_
    refine lv_isub hx hb dX8_append_47 ?_
    have hf := Option.some.inj hf
    subst hf
    subst hQ
    exact x_iret hx hb hr hlocks hP hS dX8_append_48
  · have hf := it_neg c_6 hf
    refine lv_bipush (v := -3) hx hb dX8_append_9 (by decide) ?_
    have hf := Option.some.inj hf
    subst hf
    subst hQ
    exact x_iret hx hb hr hlocks hP hS dX8_append_11

set_option maxRecDepth 20000 in
theorem u_X2_makeNatural_X2 : ∀ w ∈ wsX20, w ∈ wsX2_makeNatural := xx_pl _ [3, 4] (by decide +kernel)
def f_X2_makeNatural_L2  (rec_2 : Int32 → (Nat → Int32) → (Nat → Int32) → Option ((Nat → Int32) × (Nat → Int32))) (v1 : Int32) (below : (Nat → Int32)) (pairs : (Nat → Int32)) : Option ((Nat → Int32) × (Nat → Int32)) :=
  if 8 ≤ v1 then (some (below, pairs)) else (ck v1 8 (lt (upd pairs v1.toNatClampNeg ((1 <<< (v1 &&& 31)) - 1)) (fun pairs_18 => ck v1 8 (ck v1 8 (lt (upd below v1.toNatClampNeg (pairs_18 v1.toNatClampNeg)) (fun below_30 => lt (v1 + 1) (fun v1_31 => rec_2 v1_31 below_30 pairs_18)))))))
def f_X2_makeNatural (below : (Nat → Int32)) (pairs : (Nat → Int32)) : Option ((Nat → Int32) × (Nat → Int32)) :=
  lt 0 (fun v1_1 => lp (τ := Int32 → (Nat → Int32) → (Nat → Int32) → Option ((Nat → Int32) × (Nat → Int32))) (fun _ _ _ => none) (f_X2_makeNatural_L2) fuel v1_1 below pairs)
set_option maxHeartbeats 4000000 in
set_option maxRecDepth 100000 in
theorem k_X2_makeNatural (l : Launch) (D : va_G) (G : Nat → ClassId) (h : Nat) (a_pairs : Nat) (a_below : Nat) (below : (Nat → Int32)) (pairs : (Nat → Int32))   (out : (Nat → Int32) × (Nat → Int32)) (hf : f_X2_makeNatural below pairs = some out) : xMet l yX2_makeNatural wsX2_makeNatural (rM 0 0) D G [.ref h] [[(h, .inr (2, [.ref a_pairs, .ref a_below]))], [(a_below, .inl (G 0, 8, .inl below))], [(a_pairs, .inl (G 0, 8, .inl pairs))]] (xQv D [[(h, .inr (2, [.ref a_pairs, .ref a_below]))], [(a_below, .inl (G 0, 8, .inl out.1))], [(a_pairs, .inl (G 0, 8, .inl out.2))]]) := by
  refine x_ent (cc := cX2_makeNatural) (maxL := 2) (by decide) rfl (Nat.le_of_ble_eq_true rfl) ?_
  intro p e s m below meth c aa ls args Q hQ hx hb hr hml hown hts hlocks hE hN hP hl hS
  have hown : s.vm.findClass RX2 = some m.cls := hown
  have hl : lv_has ls 2 [(0, .ref h)] := hl
  have L2 : ∀ (n_2 : Nat) (v1 : Int32) (below : (Nat → Int32)) (pairs : (Nat → Int32)) (H : Heap) (locs : List Loc) (ls : Array Slot), xW D aa [[(h, .inr (2, [.ref a_pairs, .ref a_below]))], [(a_below, .inl (G 0, 8, .inl below))], [(a_pairs, .inl (G 0, 8, .inl pairs))]] H → va_S (xA aa) s.heap H locs → lv_has ls 2 [(0, .ref h), (1, .int v1)] → lp (τ := Int32 → (Nat → Int32) → (Nat → Int32) → Option ((Nat → Int32) × (Nat → Int32))) (fun _ _ _ => none) (f_X2_makeNatural_L2) n_2 v1 below pairs = some out → W p l e (rM 0 0) s m args below meth c H locs 0 0 Q (F0 m 2 ls []) := by
    intro    n_2
    induction n_2 with
    | zero =>
      intro v1 below pairs H locs ls hP hS hl hf
      exact no_some hf
    | succ n_2 ih_2 =>
      intro v1 below pairs H locs ls hP hS hl hf
      have hf : f_X2_makeNatural_L2  (lp (τ := Int32 → (Nat → Int32) → (Nat → Int32) → Option ((Nat → Int32) × (Nat → Int32))) (fun _ _ _ => none) (f_X2_makeNatural_L2) n_2) v1 below pairs = some out := hf
      rw [f_X2_makeNatural_L2] at hf
      refine lv_iload_n hx hb dX2_makeNatural_2 rfl (lv_at hl 1 rfl) ?_
      refine lv_bipush (v := 8) hx hb dX2_makeNatural_3 (by decide) ?_
      refine lv_icmp_ge (tgt := 37) hx hb dX2_makeNatural_5 (by decide) (fun c_5 => ?_) (fun c_5 => ?_)
      · have hf := it_pos c_5 hf
        have hf := Option.some.inj hf
        subst hf
        subst hQ
        exact x_vret hx hb hr hlocks hP hS dX2_makeNatural_37
      · have hf := it_neg c_5 hf
        refine lv_aload_n hx hb dX2_makeNatural_8 rfl (lv_at hl 0 rfl) ?_
        refine x_get hx hb hts u_X2_makeNatural_X2 hown hE hP 0 rfl rfl 0 (by decide) (hts (.fieldLink RX2 9 "DecreasingDiagrams$LabelOrder" "pairs" "[I") (List.mem_of_getElem? (i := 1) rfl)) rfl dX2_makeNatural_9 ?_
        refine lv_iload_n hx hb dX2_makeNatural_12 rfl (lv_at hl 1 rfl) ?_
        refine lv_iconst (v := 1) hx hb dX2_makeNatural_13 (by decide) ?_
        refine lv_iload_n hx hb dX2_makeNatural_14 rfl (lv_at hl 1 rfl) ?_
        refine lv_ishl hx hb dX2_makeNatural_15 ?_
        refine lv_iconst (v := 1) hx hb dX2_makeNatural_16 (by decide) ?_
        refine lv_isub hx hb dX2_makeNatural_17 ?_
        obtain ⟨hi, hf⟩ := ck_some hf
        obtain ⟨pairs_18, e_pairs_18, hf⟩ := lt_some hf
        refine x_iast (I' := [[(h, .inr (2, [.ref a_pairs, .ref a_below]))], [(a_below, .inl (G 0, 8, .inl below))], [(a_pairs, .inl (G 0, 8, .inl pairs_18))]]) hx hb hE hP hN hS 2 rfl hi e_pairs_18 rfl dX2_makeNatural_18 (fun H locs hP hS => ?_)
        refine lv_aload_n hx hb dX2_makeNatural_19 rfl (lv_at hl 0 rfl) ?_
        refine x_get hx hb hts u_X2_makeNatural_X2 hown hE hP 0 rfl rfl 1 (by decide) (hts (.fieldLink RX2 15 "DecreasingDiagrams$LabelOrder" "below" "[I") (List.mem_of_getElem? (i := 2) rfl)) rfl dX2_makeNatural_20 ?_
        refine lv_iload_n hx hb dX2_makeNatural_23 rfl (lv_at hl 1 rfl) ?_
        refine lv_aload_n hx hb dX2_makeNatural_24 rfl (lv_at hl 0 rfl) ?_
        refine x_get hx hb hts u_X2_makeNatural_X2 hown hE hP 0 rfl rfl 0 (by decide) (hts (.fieldLink RX2 9 "DecreasingDiagrams$LabelOrder" "pairs" "[I") (List.mem_of_getElem? (i := 1) rfl)) rfl dX2_makeNatural_25 ?_
        refine lv_iload_n hx hb dX2_makeNatural_28 rfl (lv_at hl 1 rfl) ?_
        obtain ⟨hi, hf⟩ := ck_some hf
        refine x_iald hx hb hE hP 2 rfl hi dX2_makeNatural_29 ?_
        obtain ⟨hi, hf⟩ := ck_some hf
        obtain ⟨below_30, e_below_30, hf⟩ := lt_some hf
        refine x_iast (I' := [[(h, .inr (2, [.ref a_pairs, .ref a_below]))], [(a_below, .inl (G 0, 8, .inl below_30))], [(a_pairs, .inl (G 0, 8, .inl pairs_18))]]) hx hb hE hP hN hS 1 rfl hi e_below_30 rfl dX2_makeNatural_30 (fun H locs hP hS => ?_)
        obtain ⟨v1_31, e_v1_31, hf⟩ := lt_some hf
        refine lv_iinc (v := v1_31) (lv' := [(1, .int v1_31), (0, .ref h)]) hx hb dX2_makeNatural_31 hl (k := 1) rfl (by rw [e_v1_31]; rfl) (by decide) rfl (fun ls hl => ?_)
        refine lv_goto (tgt := 2) hx hb dX2_makeNatural_34 (by decide) ?_
        exact ih_2 v1_31 below_30 pairs_18 H locs ls hP hS (lv_sub hl [1, 0] rfl) hf
  rw [f_X2_makeNatural] at hf
  obtain ⟨H, hH⟩ : ∃ H : Heap, H = s.heap := ⟨_, rfl⟩
  obtain ⟨locs, hlocs⟩ : ∃ locs : List Loc, locs = [] := ⟨_, rfl⟩
  have hP : xW D aa [[(h, .inr (2, [.ref a_pairs, .ref a_below]))], [(a_below, .inl (G 0, 8, .inl below))], [(a_pairs, .inl (G 0, 8, .inl pairs))]] H := by rw [hH]; exact hP
  have hS : va_S (xA aa) s.heap H locs := by rw [hH, hlocs]; exact hS
  suffices GO : W p l e (rM 0 0) s m args below meth c H locs 0 0 Q (F0 m 0 ls []) by
    rw [hH, hlocs] at GO
    exact GO
  clear hH hlocs
  refine lv_iconst (v := 0) hx hb dX2_makeNatural_0 (by decide) ?_
  obtain ⟨v1_1, e_v1_1, hf⟩ := lt_some hf
  refine x_istore_n (v := v1_1) (lv' := [(1, .int v1_1), (0, .ref h)]) hx hb dX2_makeNatural_1 e_v1_1 rfl hl (by decide) rfl (fun ls hl => ?_)
  exact L2    fuel v1_1 below pairs H locs ls hP hS (lv_sub hl [1, 0] rfl) hf

set_option maxRecDepth 20000 in
theorem u_X5_isMissing_X5 : ∀ w ∈ wsX50, w ∈ wsX5_isMissing := xx_pl _ [2, 3] (by decide +kernel)
def f_X5_isMissing (sizes : (Nat → Int32)) (v1 : Int32) : Option (Int32) :=
  ck v1 3 (if ¬ (sizes v1.toNatClampNeg) = (-1) then (some 0) else (some 1))
set_option maxHeartbeats 4000000 in
set_option maxRecDepth 100000 in
theorem k_X5_isMissing (l : Launch) (D : va_G) (G : Nat → ClassId) (h : Nat) (a_sizes : Nat) (a_values : Nat) (sizes : (Nat → Int32))  (v1 : Int32) (out : Int32) (hf : f_X5_isMissing sizes v1 = some out) : xMet l yX5_isMissing wsX5_isMissing (rM 0 0) D G [.ref h, .int v1] [[(h, .inr (5, [.ref a_sizes, .ref a_values]))], [(a_sizes, .inl (G 0, 3, .inl sizes))]] (xQi D [[(h, .inr (5, [.ref a_sizes, .ref a_values]))], [(a_sizes, .inl (G 0, 3, .inl sizes))]] out) := by
  refine x_ent (cc := cX5_isMissing) (maxL := 2) (by decide) rfl (Nat.le_of_ble_eq_true rfl) ?_
  intro p e s m below meth c aa ls args Q hQ hx hb hr hml hown hts hlocks hE hN hP hl hS
  have hown : s.vm.findClass RX5 = some m.cls := hown
  have hl : lv_has ls 2 [(0, .ref h), (1, .int v1)] := hl
  rw [f_X5_isMissing] at hf
  obtain ⟨H, hH⟩ : ∃ H : Heap, H = s.heap := ⟨_, rfl⟩
  obtain ⟨locs, hlocs⟩ : ∃ locs : List Loc, locs = [] := ⟨_, rfl⟩
  have hP : xW D aa [[(h, .inr (5, [.ref a_sizes, .ref a_values]))], [(a_sizes, .inl (G 0, 3, .inl sizes))]] H := by rw [hH]; exact hP
  have hS : va_S (xA aa) s.heap H locs := by rw [hH, hlocs]; exact hS
  suffices GO : W p l e (rM 0 0) s m args below meth c H locs 0 0 Q (F0 m 0 ls []) by
    rw [hH, hlocs] at GO
    exact GO
  clear hH hlocs
  refine lv_aload_n hx hb dX5_isMissing_0 rfl (lv_at hl 0 rfl) ?_
  refine x_get hx hb hts u_X5_isMissing_X5 hown hE hP 0 rfl rfl 0 (by decide) (hts (.fieldLink RX5 9 "DecreasingDiagrams$LongArrays" "sizes" "[I") (List.mem_of_getElem? (i := 1) rfl)) rfl dX5_isMissing_1 ?_
  refine lv_iload_n hx hb dX5_isMissing_4 rfl (lv_at hl 1 rfl) ?_
  obtain ⟨hi, hf⟩ := ck_some hf
  refine x_iald hx hb hE hP 1 rfl hi dX5_isMissing_5 ?_
  refine lv_iconst (v := -1) hx hb dX5_isMissing_6 (by decide) ?_
  refine lv_icmp_ne (tgt := 14) hx hb dX5_isMissing_7 (by decide) (fun c_7 => ?_) (fun c_7 => ?_)
  · have hf := it_pos c_7 hf
    refine lv_iconst (v := 0) hx hb dX5_isMissing_14 (by decide) ?_
    have hf := Option.some.inj hf
    subst hf
    subst hQ
    exact x_zret hx hb hr hlocks rfl hP hS dX5_isMissing_15
  · have hf := it_neg (fun h => h c_7) hf
    refine lv_iconst (v := 1) hx hb dX5_isMissing_10 (by decide) ?_
    refine lv_goto (tgt := 15) hx hb dX5_isMissing_11 (by decide) ?_
    have hf := Option.some.inj hf
    subst hf
    subst hQ
    exact x_zret hx hb hr hlocks rfl hP hS dX5_isMissing_15

set_option maxRecDepth 20000 in
theorem u_X6_clear_X6 : ∀ w ∈ wsX60, w ∈ wsX6_clear := xx_pl _ [2, 3] (by decide +kernel)
def f_X6_clear  : Option (Int32) :=
  lt 0 (fun length_2 => some length_2)
set_option maxHeartbeats 4000000 in
set_option maxRecDepth 100000 in
theorem k_X6_clear (l : Launch) (D : va_G) (G : Nat → ClassId) (h : Nat) (a_signs : Nat) (length : Int32)   (out : Int32) (hf : f_X6_clear  = some out) : xMet l yX6_clear wsX6_clear (rM 0 0) D G [.ref h] [[(h, .inr (6, [.int length, .ref a_signs]))]] (xQv D [[(h, .inr (6, [.int out, .ref a_signs]))]]) := by
  refine x_ent (cc := cX6_clear) (maxL := 1) (by decide) rfl (Nat.le_of_ble_eq_true rfl) ?_
  intro p e s m below meth c aa ls args Q hQ hx hb hr hml hown hts hlocks hE hN hP hl hS
  have hown : s.vm.findClass RX6 = some m.cls := hown
  have hl : lv_has ls 1 [(0, .ref h)] := hl
  rw [f_X6_clear] at hf
  obtain ⟨H, hH⟩ : ∃ H : Heap, H = s.heap := ⟨_, rfl⟩
  obtain ⟨locs, hlocs⟩ : ∃ locs : List Loc, locs = [] := ⟨_, rfl⟩
  have hP : xW D aa [[(h, .inr (6, [.int length, .ref a_signs]))]] H := by rw [hH]; exact hP
  have hS : va_S (xA aa) s.heap H locs := by rw [hH, hlocs]; exact hS
  suffices GO : W p l e (rM 0 0) s m args below meth c H locs 0 0 Q (F0 m 0 ls []) by
    rw [hH, hlocs] at GO
    exact GO
  clear hH hlocs
  refine lv_aload_n hx hb dX6_clear_0 rfl (lv_at hl 0 rfl) ?_
  refine lv_iconst (v := 0) hx hb dX6_clear_1 (by decide) ?_
  obtain ⟨length_2, e_length_2, hf⟩ := lt_some hf
  refine x_put (w := .int length_2) (ty := .int) (I' := [[(h, .inr (6, [.int length_2, .ref a_signs]))]]) hx hb hts u_X6_clear_X6 tyX6 tyX6_ok nmX6 hown hE hP hN hS 0 rfl rfl 0 (by decide) (hts (.fieldLink RX6 7 "DecreasingDiagrams$OutputText" "length" "I") (List.mem_of_getElem? (i := 1) rfl)) rfl (congrArg Value.int e_length_2) (by decide +kernel) rfl rfl (Nat.le_of_ble_eq_true rfl) rfl dX6_clear_2 (fun H locs hP hS => ?_)
  have hf := Option.some.inj hf
  subst hf
  subst hQ
  exact x_vret hx hb hr hlocks hP hS dX6_clear_5

set_option maxRecDepth 20000 in
theorem u_X6_putSign_X6 : ∀ w ∈ wsX60, w ∈ wsX6_putSign := xx_pl _ [3, 4] (by decide +kernel)
def f_X6_putSign (length : Int32) (signs : (Nat → Int32)) (v1 : Int32) : Option (Int32 × (Nat → Int32)) :=
  if 202 ≤ length then (some (length, signs)) else (ck length 202 (lt (upd signs length.toNatClampNeg (vp_nar .char v1)) (fun signs_19 => lt (length + 1) (fun length_27 => some (length_27, signs_19)))))
set_option maxHeartbeats 4000000 in
set_option maxRecDepth 100000 in
theorem k_X6_putSign (l : Launch) (D : va_G) (G : Nat → ClassId) (h : Nat) (a_signs : Nat) (length : Int32) (signs : (Nat → Int32))  (v1 : Int32) (out : Int32 × (Nat → Int32)) (hf : f_X6_putSign length signs v1 = some out) : xMet l yX6_putSign wsX6_putSign (rM 0 0) D G [.ref h, .int v1] [[(h, .inr (6, [.int length, .ref a_signs]))], [(a_signs, .inl (G 3, 202, .inl signs))]] (xQv D [[(h, .inr (6, [.int out.1, .ref a_signs]))], [(a_signs, .inl (G 3, 202, .inl out.2))]]) := by
  refine x_ent (cc := cX6_putSign) (maxL := 2) (by decide) rfl (Nat.le_of_ble_eq_true rfl) ?_
  intro p e s m below meth c aa ls args Q hQ hx hb hr hml hown hts hlocks hE hN hP hl hS
  have hown : s.vm.findClass RX6 = some m.cls := hown
  have hl : lv_has ls 2 [(0, .ref h), (1, .int v1)] := hl
  rw [f_X6_putSign] at hf
  obtain ⟨H, hH⟩ : ∃ H : Heap, H = s.heap := ⟨_, rfl⟩
  obtain ⟨locs, hlocs⟩ : ∃ locs : List Loc, locs = [] := ⟨_, rfl⟩
  have hP : xW D aa [[(h, .inr (6, [.int length, .ref a_signs]))], [(a_signs, .inl (G 3, 202, .inl signs))]] H := by rw [hH]; exact hP
  have hS : va_S (xA aa) s.heap H locs := by rw [hH, hlocs]; exact hS
  suffices GO : W p l e (rM 0 0) s m args below meth c H locs 0 0 Q (F0 m 0 ls []) by
    rw [hH, hlocs] at GO
    exact GO
  clear hH hlocs
  refine lv_aload_n hx hb dX6_putSign_0 rfl (lv_at hl 0 rfl) ?_
  refine x_get hx hb hts u_X6_putSign_X6 hown hE hP 0 rfl rfl 0 (by decide) (hts (.fieldLink RX6 7 "DecreasingDiagrams$OutputText" "length" "I") (List.mem_of_getElem? (i := 1) rfl)) rfl dX6_putSign_1 ?_
  refine lv_sipush (v := 202) hx hb dX6_putSign_4 (by decide) ?_
  refine lv_icmp_ge (tgt := 30) hx hb dX6_putSign_7 (by decide) (fun c_7 => ?_) (fun c_7 => ?_)
  · have hf := it_pos c_7 hf
    have hf := Option.some.inj hf
    subst hf
    subst hQ
    exact x_vret hx hb hr hlocks hP hS dX6_putSign_30
  · have hf := it_neg c_7 hf
    refine lv_aload_n hx hb dX6_putSign_10 rfl (lv_at hl 0 rfl) ?_
    refine x_get hx hb hts u_X6_putSign_X6 hown hE hP 0 rfl rfl 1 (by decide) (hts (.fieldLink RX6 13 "DecreasingDiagrams$OutputText" "signs" "[C") (List.mem_of_getElem? (i := 2) rfl)) rfl dX6_putSign_11 ?_
    refine lv_aload_n hx hb dX6_putSign_14 rfl (lv_at hl 0 rfl) ?_
    refine x_get hx hb hts u_X6_putSign_X6 hown hE hP 0 rfl rfl 0 (by decide) (hts (.fieldLink RX6 7 "DecreasingDiagrams$OutputText" "length" "I") (List.mem_of_getElem? (i := 1) rfl)) rfl dX6_putSign_15 ?_
    refine lv_iload_n hx hb dX6_putSign_18 rfl (lv_at hl 1 rfl) ?_
    obtain ⟨hi, hf⟩ := ck_some hf
    obtain ⟨signs_19, e_signs_19, hf⟩ := lt_some hf
    refine x_cast (I' := [[(h, .inr (6, [.int length, .ref a_signs]))], [(a_signs, .inl (G 3, 202, .inl signs_19))]]) hx hb hE hP hN hS 1 rfl hi e_signs_19 rfl dX6_putSign_19 (fun H locs hP hS => ?_)
    refine lv_aload_n hx hb dX6_putSign_20 rfl (lv_at hl 0 rfl) ?_
    refine lv_dup hx hb dX6_putSign_21 rfl ?_
    refine x_get hx hb hts u_X6_putSign_X6 hown hE hP 0 rfl rfl 0 (by decide) (hts (.fieldLink RX6 7 "DecreasingDiagrams$OutputText" "length" "I") (List.mem_of_getElem? (i := 1) rfl)) rfl dX6_putSign_22 ?_
    refine lv_iconst (v := 1) hx hb dX6_putSign_25 (by decide) ?_
    refine lv_iadd hx hb dX6_putSign_26 ?_
    obtain ⟨length_27, e_length_27, hf⟩ := lt_some hf
    refine x_put (w := .int length_27) (ty := .int) (I' := [[(h, .inr (6, [.int length_27, .ref a_signs]))], [(a_signs, .inl (G 3, 202, .inl signs_19))]]) hx hb hts u_X6_putSign_X6 tyX6 tyX6_ok nmX6 hown hE hP hN hS 0 rfl rfl 0 (by decide) (hts (.fieldLink RX6 7 "DecreasingDiagrams$OutputText" "length" "I") (List.mem_of_getElem? (i := 1) rfl)) rfl (congrArg Value.int e_length_27) (by decide +kernel) rfl rfl (Nat.le_of_ble_eq_true rfl) rfl dX6_putSign_27 (fun H locs hP hS => ?_)
    have hf := Option.some.inj hf
    subst hf
    subst hQ
    exact x_vret hx hb hr hlocks hP hS dX6_putSign_30

def f_X6_putNumber_J18 (v1 : Int32) (length : Int32) (signs : (Nat → Int32)) : Option (Int32 × (Nat → Int32)) :=
  (f_X6_putSign length signs (((48 + (v1 - v1 / 10 * 10)).toUInt32 % 65536).toInt32)).bind (fun r_27 => some (r_27.1, r_27.2))
def f_X6_putNumber (length : Int32) (signs : (Nat → Int32)) (v1 : Int32) : Option (Int32 × (Nat → Int32)) :=
  if v1 < 10 then (f_X6_putNumber_J18 v1 length signs) else ((f_X6_putSign length signs (((48 + (v1 / 10)).toUInt32 % 65536).toInt32)).bind (fun r_15 => f_X6_putNumber_J18 v1 r_15.1 r_15.2))
set_option maxHeartbeats 4000000 in
set_option maxRecDepth 100000 in
theorem k_X6_putNumber (l : Launch) (D : va_G) (G : Nat → ClassId) (h : Nat) (a_signs : Nat) (length : Int32) (signs : (Nat → Int32))  (v1 : Int32) (out : Int32 × (Nat → Int32)) (hf : f_X6_putNumber length signs v1 = some out) : xMet l yX6_putNumber wsX6_putNumber (rM 1 21) D G [.ref h, .int v1] [[(h, .inr (6, [.int length, .ref a_signs]))], [(a_signs, .inl (G 3, 202, .inl signs))]] (xQv D [[(h, .inr (6, [.int out.1, .ref a_signs]))], [(a_signs, .inl (G 3, 202, .inl out.2))]]) := by
  refine x_ent (cc := cX6_putNumber) (maxL := 2) (by decide) rfl (Nat.le_of_ble_eq_true rfl) ?_
  intro p e s m below meth c aa ls args Q hQ hx hb hr hml hown hts hlocks hE hN hP hl hS
  have hown : s.vm.findClass RX6 = some m.cls := hown
  have hl : lv_has ls 2 [(0, .ref h), (1, .int v1)] := hl
  have J18 : ∀ (length : Int32) (signs : (Nat → Int32)) (H : Heap) (locs : List Loc) (ls : Array Slot), xW D aa [[(h, .inr (6, [.int length, .ref a_signs]))], [(a_signs, .inl (G 3, 202, .inl signs))]] H → va_S (xA aa) s.heap H locs → lv_has ls 2 [(0, .ref h), (1, .int v1)] → f_X6_putNumber_J18 v1 length signs = some out → W p l e (rM 1 21) s m args below meth c H locs 0 0 Q (F0 m 18 ls []) := by
    intro length signs  H locs ls  hP hS hl hf
    rw [f_X6_putNumber_J18] at hf
    refine lv_aload_n hx hb dX6_putNumber_18 rfl (lv_at hl 0 rfl) ?_
    refine lv_bipush (v := 48) hx hb dX6_putNumber_19 (by decide) ?_
    refine lv_iload_n hx hb dX6_putNumber_21 rfl (lv_at hl 1 rfl) ?_
    refine lv_bipush (v := 10) hx hb dX6_putNumber_22 (by decide) ?_
    refine lv_irem hx hb dX6_putNumber_24 (by decide) ?_
    refine lv_iadd hx hb dX6_putNumber_25 ?_
    refine lv_i2c hx hb dX6_putNumber_26 rfl ?_
    obtain ⟨r_27, hr_27, hf⟩ := bd_some hf
    refine x_gov (ps := [0, 1]) (I' := [[(h, .inr (6, [.int r_27.1, .ref a_signs]))], [(a_signs, .inl (G 3, 202, .inl r_27.2))]]) (x_runV (As := [.int (((48 + (v1 - v1 / 10 * 10)).toUInt32 % 65536).toInt32)]) (rest := []) (ps := [0, 1]) ⟨hx, hb, hml, hown, hts⟩ (k_X6_putSign l D G h a_signs length signs (((48 + (v1 - v1 / 10 * 10)).toUInt32 % 65536).toInt32) r_27 hr_27) (cwV 1 hts gX6_putNumber_X6_putSign rfl rfl rfl (by decide +kernel) ⟨Nat.le_of_ble_eq_true rfl, Nat.le_of_ble_eq_true rfl⟩) hE hP hN rfl (by decide) 0 rfl rfl rfl hl.1 (Nat.le_of_ble_eq_true rfl) dX6_putNumber_27 ⟨Nat.zero_le _, Nat.zero_le _⟩) hP hN hS rfl rfl (fun H locs hP hS => ?_)
    have hf := Option.some.inj hf
    subst hf
    subst hQ
    exact x_vret hx hb hr hlocks hP hS dX6_putNumber_30
  rw [f_X6_putNumber] at hf
  obtain ⟨H, hH⟩ : ∃ H : Heap, H = s.heap := ⟨_, rfl⟩
  obtain ⟨locs, hlocs⟩ : ∃ locs : List Loc, locs = [] := ⟨_, rfl⟩
  have hP : xW D aa [[(h, .inr (6, [.int length, .ref a_signs]))], [(a_signs, .inl (G 3, 202, .inl signs))]] H := by rw [hH]; exact hP
  have hS : va_S (xA aa) s.heap H locs := by rw [hH, hlocs]; exact hS
  suffices GO : W p l e (rM 1 21) s m args below meth c H locs 0 0 Q (F0 m 0 ls []) by
    rw [hH, hlocs] at GO
    exact GO
  clear hH hlocs
  refine lv_iload_n hx hb dX6_putNumber_0 rfl (lv_at hl 1 rfl) ?_
  refine lv_bipush (v := 10) hx hb dX6_putNumber_1 (by decide) ?_
  refine lv_icmp_lt (tgt := 18) hx hb dX6_putNumber_3 (by decide) (fun c_3 => ?_) (fun c_3 => ?_)
  · have hf := it_pos c_3 hf
    exact J18 length signs  H locs ls  hP hS (lv_sub hl [0, 1] rfl) hf
  · have hf := it_neg c_3 hf
    refine lv_aload_n hx hb dX6_putNumber_6 rfl (lv_at hl 0 rfl) ?_
    refine lv_bipush (v := 48) hx hb dX6_putNumber_7 (by decide) ?_
    refine lv_iload_n hx hb dX6_putNumber_9 rfl (lv_at hl 1 rfl) ?_
    refine lv_bipush (v := 10) hx hb dX6_putNumber_10 (by decide) ?_
    refine lv_idiv hx hb dX6_putNumber_12 (by decide) ?_
    refine lv_iadd hx hb dX6_putNumber_13 ?_
    refine lv_i2c hx hb dX6_putNumber_14 rfl ?_
    obtain ⟨r_15, hr_15, hf⟩ := bd_some hf
    refine x_gov (ps := [0, 1]) (I' := [[(h, .inr (6, [.int r_15.1, .ref a_signs]))], [(a_signs, .inl (G 3, 202, .inl r_15.2))]]) (x_runV (As := [.int (((48 + (v1 / 10)).toUInt32 % 65536).toInt32)]) (rest := []) (ps := [0, 1]) ⟨hx, hb, hml, hown, hts⟩ (k_X6_putSign l D G h a_signs length signs (((48 + (v1 / 10)).toUInt32 % 65536).toInt32) r_15 hr_15) (cwV 1 hts gX6_putNumber_X6_putSign rfl rfl rfl (by decide +kernel) ⟨Nat.le_of_ble_eq_true rfl, Nat.le_of_ble_eq_true rfl⟩) hE hP hN rfl (by decide) 0 rfl rfl rfl hl.1 (Nat.le_of_ble_eq_true rfl) dX6_putNumber_15 ⟨Nat.zero_le _, Nat.zero_le _⟩) hP hN hS rfl rfl (fun H locs hP hS => ?_)
    exact J18 r_15.1 r_15.2  H locs ls  hP hS (lv_sub hl [0, 1] rfl) hf

set_option maxRecDepth 20000 in
theorem u_X5_hasElement_X5 : ∀ w ∈ wsX50, w ∈ wsX5_hasElement := xx_pl _ [2, 3] (by decide +kernel)
def f_X5_hasElement (sizes : (Nat → Int32)) (v1 : Int32) (v2 : Int32) : Option (Int32) :=
  if v2 < 0 then (some 0) else (ck v1 3 (if (sizes v1.toNatClampNeg) ≤ v2 then (some 0) else (some 1)))
set_option maxHeartbeats 4000000 in
set_option maxRecDepth 100000 in
theorem k_X5_hasElement (l : Launch) (D : va_G) (G : Nat → ClassId) (h : Nat) (a_sizes : Nat) (a_values : Nat) (sizes : (Nat → Int32))  (v1 : Int32) (v2 : Int32) (out : Int32) (hf : f_X5_hasElement sizes v1 v2 = some out) : xMet l yX5_hasElement wsX5_hasElement (rM 0 0) D G [.ref h, .int v1, .int v2] [[(h, .inr (5, [.ref a_sizes, .ref a_values]))], [(a_sizes, .inl (G 0, 3, .inl sizes))]] (xQi D [[(h, .inr (5, [.ref a_sizes, .ref a_values]))], [(a_sizes, .inl (G 0, 3, .inl sizes))]] out) := by
  refine x_ent (cc := cX5_hasElement) (maxL := 3) (by decide) rfl (Nat.le_of_ble_eq_true rfl) ?_
  intro p e s m below meth c aa ls args Q hQ hx hb hr hml hown hts hlocks hE hN hP hl hS
  have hown : s.vm.findClass RX5 = some m.cls := hown
  have hl : lv_has ls 3 [(0, .ref h), (1, .int v1), (2, .int v2)] := hl
  rw [f_X5_hasElement] at hf
  obtain ⟨H, hH⟩ : ∃ H : Heap, H = s.heap := ⟨_, rfl⟩
  obtain ⟨locs, hlocs⟩ : ∃ locs : List Loc, locs = [] := ⟨_, rfl⟩
  have hP : xW D aa [[(h, .inr (5, [.ref a_sizes, .ref a_values]))], [(a_sizes, .inl (G 0, 3, .inl sizes))]] H := by rw [hH]; exact hP
  have hS : va_S (xA aa) s.heap H locs := by rw [hH, hlocs]; exact hS
  suffices GO : W p l e (rM 0 0) s m args below meth c H locs 0 0 Q (F0 m 0 ls []) by
    rw [hH, hlocs] at GO
    exact GO
  clear hH hlocs
  refine lv_iload_n hx hb dX5_hasElement_0 rfl (lv_at hl 2 rfl) ?_
  refine lv_if_lt (tgt := 18) hx hb dX5_hasElement_1 (by decide) (fun c_1 => ?_) (fun c_1 => ?_)
  · have hf := it_pos c_1 hf
    refine lv_iconst (v := 0) hx hb dX5_hasElement_18 (by decide) ?_
    have hf := Option.some.inj hf
    subst hf
    subst hQ
    exact x_zret hx hb hr hlocks rfl hP hS dX5_hasElement_19
  · have hf := it_neg c_1 hf
    refine lv_iload_n hx hb dX5_hasElement_4 rfl (lv_at hl 2 rfl) ?_
    refine lv_aload_n hx hb dX5_hasElement_5 rfl (lv_at hl 0 rfl) ?_
    refine x_get hx hb hts u_X5_hasElement_X5 hown hE hP 0 rfl rfl 0 (by decide) (hts (.fieldLink RX5 9 "DecreasingDiagrams$LongArrays" "sizes" "[I") (List.mem_of_getElem? (i := 1) rfl)) rfl dX5_hasElement_6 ?_
    refine lv_iload_n hx hb dX5_hasElement_9 rfl (lv_at hl 1 rfl) ?_
    obtain ⟨hi, hf⟩ := ck_some hf
    refine x_iald hx hb hE hP 1 rfl hi dX5_hasElement_10 ?_
    refine lv_icmp_ge (tgt := 18) hx hb dX5_hasElement_11 (by decide) (fun c_11 => ?_) (fun c_11 => ?_)
    · have hf := it_pos c_11 hf
      refine lv_iconst (v := 0) hx hb dX5_hasElement_18 (by decide) ?_
      have hf := Option.some.inj hf
      subst hf
      subst hQ
      exact x_zret hx hb hr hlocks rfl hP hS dX5_hasElement_19
    · have hf := it_neg c_11 hf
      refine lv_iconst (v := 1) hx hb dX5_hasElement_14 (by decide) ?_
      refine lv_goto (tgt := 19) hx hb dX5_hasElement_15 (by decide) ?_
      have hf := Option.some.inj hf
      subst hf
      subst hQ
      exact x_zret hx hb hr hlocks rfl hP hS dX5_hasElement_19

set_option maxRecDepth 20000 in
theorem u_X1_append_X1 : ∀ w ∈ wsX10, w ∈ wsX1_append := xx_pl _ [3, 4] (by decide +kernel)
def f_X1_append (length : Int32) (bytes : (Nat → Int32)) (v1 : Int32) : Option ((Nat → Int32) × Int32) :=
  if 20 ≤ length then (some (bytes, length)) else (ck length 20 (lt (upd bytes length.toNatClampNeg v1) (fun bytes_18 => lt (length + 1) (fun length_26 => some (bytes_18, length_26)))))
set_option maxHeartbeats 4000000 in
set_option maxRecDepth 100000 in
theorem k_X1_append (l : Launch) (D : va_G) (G : Nat → ClassId) (h : Nat) (a_bytes : Nat) (length : Int32) (bytes : (Nat → Int32))  (v1 : Int32) (out : (Nat → Int32) × Int32) (hf : f_X1_append length bytes v1 = some out) : xMet l yX1_append wsX1_append (rM 0 0) D G [.ref h, .int v1] [[(h, .inr (1, [.int length, .ref a_bytes]))], [(a_bytes, .inl (G 0, 20, .inl bytes))]] (xQv D [[(h, .inr (1, [.int out.2, .ref a_bytes]))], [(a_bytes, .inl (G 0, 20, .inl out.1))]]) := by
  refine x_ent (cc := cX1_append) (maxL := 2) (by decide) rfl (Nat.le_of_ble_eq_true rfl) ?_
  intro p e s m below meth c aa ls args Q hQ hx hb hr hml hown hts hlocks hE hN hP hl hS
  have hown : s.vm.findClass RX1 = some m.cls := hown
  have hl : lv_has ls 2 [(0, .ref h), (1, .int v1)] := hl
  rw [f_X1_append] at hf
  obtain ⟨H, hH⟩ : ∃ H : Heap, H = s.heap := ⟨_, rfl⟩
  obtain ⟨locs, hlocs⟩ : ∃ locs : List Loc, locs = [] := ⟨_, rfl⟩
  have hP : xW D aa [[(h, .inr (1, [.int length, .ref a_bytes]))], [(a_bytes, .inl (G 0, 20, .inl bytes))]] H := by rw [hH]; exact hP
  have hS : va_S (xA aa) s.heap H locs := by rw [hH, hlocs]; exact hS
  suffices GO : W p l e (rM 0 0) s m args below meth c H locs 0 0 Q (F0 m 0 ls []) by
    rw [hH, hlocs] at GO
    exact GO
  clear hH hlocs
  refine lv_aload_n hx hb dX1_append_0 rfl (lv_at hl 0 rfl) ?_
  refine x_get hx hb hts u_X1_append_X1 hown hE hP 0 rfl rfl 0 (by decide) (hts (.fieldLink RX1 9 "DecreasingDiagrams$InputLine" "length" "I") (List.mem_of_getElem? (i := 1) rfl)) rfl dX1_append_1 ?_
  refine lv_bipush (v := 20) hx hb dX1_append_4 (by decide) ?_
  refine lv_icmp_ge (tgt := 29) hx hb dX1_append_6 (by decide) (fun c_6 => ?_) (fun c_6 => ?_)
  · have hf := it_pos c_6 hf
    have hf := Option.some.inj hf
    subst hf
    subst hQ
    exact x_vret hx hb hr hlocks hP hS dX1_append_29
  · have hf := it_neg c_6 hf
    refine lv_aload_n hx hb dX1_append_9 rfl (lv_at hl 0 rfl) ?_
    refine x_get hx hb hts u_X1_append_X1 hown hE hP 0 rfl rfl 1 (by decide) (hts (.fieldLink RX1 15 "DecreasingDiagrams$InputLine" "bytes" "[I") (List.mem_of_getElem? (i := 2) rfl)) rfl dX1_append_10 ?_
    refine lv_aload_n hx hb dX1_append_13 rfl (lv_at hl 0 rfl) ?_
    refine x_get hx hb hts u_X1_append_X1 hown hE hP 0 rfl rfl 0 (by decide) (hts (.fieldLink RX1 9 "DecreasingDiagrams$InputLine" "length" "I") (List.mem_of_getElem? (i := 1) rfl)) rfl dX1_append_14 ?_
    refine lv_iload_n hx hb dX1_append_17 rfl (lv_at hl 1 rfl) ?_
    obtain ⟨hi, hf⟩ := ck_some hf
    obtain ⟨bytes_18, e_bytes_18, hf⟩ := lt_some hf
    refine x_iast (I' := [[(h, .inr (1, [.int length, .ref a_bytes]))], [(a_bytes, .inl (G 0, 20, .inl bytes_18))]]) hx hb hE hP hN hS 1 rfl hi e_bytes_18 rfl dX1_append_18 (fun H locs hP hS => ?_)
    refine lv_aload_n hx hb dX1_append_19 rfl (lv_at hl 0 rfl) ?_
    refine lv_dup hx hb dX1_append_20 rfl ?_
    refine x_get hx hb hts u_X1_append_X1 hown hE hP 0 rfl rfl 0 (by decide) (hts (.fieldLink RX1 9 "DecreasingDiagrams$InputLine" "length" "I") (List.mem_of_getElem? (i := 1) rfl)) rfl dX1_append_21 ?_
    refine lv_iconst (v := 1) hx hb dX1_append_24 (by decide) ?_
    refine lv_iadd hx hb dX1_append_25 ?_
    obtain ⟨length_26, e_length_26, hf⟩ := lt_some hf
    refine x_put (w := .int length_26) (ty := .int) (I' := [[(h, .inr (1, [.int length_26, .ref a_bytes]))], [(a_bytes, .inl (G 0, 20, .inl bytes_18))]]) hx hb hts u_X1_append_X1 tyX1 tyX1_ok nmX1 hown hE hP hN hS 0 rfl rfl 0 (by decide) (hts (.fieldLink RX1 9 "DecreasingDiagrams$InputLine" "length" "I") (List.mem_of_getElem? (i := 1) rfl)) rfl (congrArg Value.int e_length_26) (by decide +kernel) rfl rfl (Nat.le_of_ble_eq_true rfl) rfl dX1_append_26 (fun H locs hP hS => ?_)
    have hf := Option.some.inj hf
    subst hf
    subst hQ
    exact x_vret hx hb hr hlocks hP hS dX1_append_29

set_option maxRecDepth 20000 in
theorem u_X5_renew_X5 : ∀ w ∈ wsX50, w ∈ wsX5_renew := xx_pl _ [7, 8] (by decide +kernel)
def f_X5_renew (sizes : (Nat → Int32)) (values : (Nat → Nat → Int64)) (v1 : Int32) (v2 : Int32) : Option ((Nat → Int32) × (Nat → Nat → Int64)) :=
  ck v1 3 (lt (upd sizes v1.toNatClampNeg v2) (fun sizes_6 => ck v1 3 ((f_J7_fill_d0a16 (values v1.toNatClampNeg) 16 0).bind (fun r_14 => some (sizes_6, va_up values v1.toNatClampNeg r_14)))))
set_option maxHeartbeats 4000000 in
set_option maxRecDepth 100000 in
theorem k_X5_renew (l : Launch) (D : va_G) (G : Nat → ClassId) (h : Nat) (a_sizes : Nat) (a_values : Nat) (r_values : Nat → Nat) (sizes : (Nat → Int32)) (values : (Nat → Nat → Int64))  (v1 : Int32) (v2 : Int32) (out : (Nat → Int32) × (Nat → Nat → Int64)) (hf : f_X5_renew sizes values v1 v2 = some out) : xMet l yX5_renew wsX5_renew (rM 1 24) D G [.ref h, .int v1, .int v2] [[(h, .inr (5, [.ref a_sizes, .ref a_values]))], [(a_sizes, .inl (G 0, 3, .inl sizes))], [gO (G 5) a_values r_values 3], gJ (G 1) r_values 3 16 values] (xQv D [[(h, .inr (5, [.ref a_sizes, .ref a_values]))], [(a_sizes, .inl (G 0, 3, .inl out.1))], [gO (G 5) a_values r_values 3], gJ (G 1) r_values 3 16 out.2]) := by
  refine x_ent (cc := cX5_renew) (maxL := 3) (by decide) rfl (Nat.le_of_ble_eq_true rfl) ?_
  intro p e s m below meth c aa ls args Q hQ hx hb hr hml hown hts hlocks hE hN hP hl hS
  have hown : s.vm.findClass RX5 = some m.cls := hown
  have hl : lv_has ls 3 [(0, .ref h), (1, .int v1), (2, .int v2)] := hl
  rw [f_X5_renew] at hf
  obtain ⟨H, hH⟩ : ∃ H : Heap, H = s.heap := ⟨_, rfl⟩
  obtain ⟨locs, hlocs⟩ : ∃ locs : List Loc, locs = [] := ⟨_, rfl⟩
  have hP : xW D aa [[(h, .inr (5, [.ref a_sizes, .ref a_values]))], [(a_sizes, .inl (G 0, 3, .inl sizes))], [gO (G 5) a_values r_values 3], gJ (G 1) r_values 3 16 values] H := by rw [hH]; exact hP
  have hS : va_S (xA aa) s.heap H locs := by rw [hH, hlocs]; exact hS
  suffices GO : W p l e (rM 1 24) s m args below meth c H locs 0 0 Q (F0 m 0 ls []) by
    rw [hH, hlocs] at GO
    exact GO
  clear hH hlocs
  refine lv_aload_n hx hb dX5_renew_0 rfl (lv_at hl 0 rfl) ?_
  refine x_get hx hb hts u_X5_renew_X5 hown hE hP 0 rfl rfl 0 (by decide) (hts (.fieldLink RX5 9 "DecreasingDiagrams$LongArrays" "sizes" "[I") (List.mem_of_getElem? (i := 1) rfl)) rfl dX5_renew_1 ?_
  refine lv_iload_n hx hb dX5_renew_4 rfl (lv_at hl 1 rfl) ?_
  refine lv_iload_n hx hb dX5_renew_5 rfl (lv_at hl 2 rfl) ?_
  obtain ⟨hi, hf⟩ := ck_some hf
  obtain ⟨sizes_6, e_sizes_6, hf⟩ := lt_some hf
  refine x_iast (I' := [[(h, .inr (5, [.ref a_sizes, .ref a_values]))], [(a_sizes, .inl (G 0, 3, .inl sizes_6))], [gO (G 5) a_values r_values 3], gJ (G 1) r_values 3 16 values]) hx hb hE hP hN hS 1 rfl hi e_sizes_6 rfl dX5_renew_6 (fun H locs hP hS => ?_)
  refine lv_aload_n hx hb dX5_renew_7 rfl (lv_at hl 0 rfl) ?_
  refine x_get hx hb hts u_X5_renew_X5 hown hE hP 0 rfl rfl 1 (by decide) (hts (.fieldLink RX5 17 "DecreasingDiagrams$LongArrays" "values" "[[J") (List.mem_of_getElem? (i := 2) rfl)) rfl dX5_renew_8 ?_
  refine lv_iload_n hx hb dX5_renew_11 rfl (lv_at hl 1 rfl) ?_
  obtain ⟨hq_12, hf⟩ := ck_some hf
  refine x_aald hx hb hE hP 2 5 rfl rfl hq_12 dX5_renew_12 ?_
  refine lv_lconst (v := 0) hx hb dX5_renew_13 (by decide) ?_
  obtain ⟨r_14, hr_14, hf⟩ := bd_some hf
  obtain ⟨aa0, hP0, hN0, hS0, hb0⟩ := x_focJ 3 hP hN hS rfl hq_12
  have hP0 : xW D aa0 [[(h, .inr (5, [.ref a_sizes, .ref a_values]))], [(a_sizes, .inl (G 0, 3, .inl sizes_6))], [gO (G 5) a_values r_values 3], gJx (G 1) r_values 3 16 values v1.toNatClampNeg, [(r_values v1.toNatClampNeg, .inl (G 1, 16, .inr (.inl (values v1.toNatClampNeg))))]] H := hP0
  refine x_gov (ps := [4]) (I' := [[(h, .inr (5, [.ref a_sizes, .ref a_values]))], [(a_sizes, .inl (G 0, 3, .inl sizes_6))], [gO (G 5) a_values r_values 3], gJx (G 1) r_values 3 16 values v1.toNatClampNeg, [(r_values v1.toNatClampNeg, .inl (G 1, 16, .inr (.inl r_14)))]]) (x_runS (As := [.ref (r_values v1.toNatClampNeg), .long 0]) (rest := []) (ps := [4]) ⟨hx, hb, hml, hown, hts⟩ (k_J7_fill_d0a16 l D G (r_values v1.toNatClampNeg) (values v1.toNatClampNeg) 16 0 r_14 hr_14) (va_cwS 2 hts gX5_renew_J7_fill_d0a16 rfl rfl rfl (by decide +kernel) ⟨Nat.le_of_ble_eq_true rfl, Nat.le_of_ble_eq_true rfl⟩) hE hP0 hN0 rfl (by decide) rfl hl.1 (Nat.le_of_ble_eq_true rfl) dX5_renew_14 ⟨Nat.zero_le _, Nat.zero_le _⟩) hP0 hN0 hS0 rfl rfl (fun H locs hP0 hS0 => ?_)
  obtain ⟨hP, hS⟩ := hb0 [[(h, .inr (5, [.ref a_sizes, .ref a_values]))], [(a_sizes, .inl (G 0, 3, .inl sizes_6))], [gO (G 5) a_values r_values 3], gJx (G 1) r_values 3 16 values v1.toNatClampNeg] r_14 H locs rfl hP0 hS0
  have hP : xW D aa [[(h, .inr (5, [.ref a_sizes, .ref a_values]))], [(a_sizes, .inl (G 0, 3, .inl sizes_6))], [gO (G 5) a_values r_values 3], gJ (G 1) r_values 3 16 (va_up values v1.toNatClampNeg r_14)] H := hP
  have hf := Option.some.inj hf
  subst hf
  subst hQ
  exact x_vret hx hb hr hlocks hP hS dX5_renew_17

set_option maxRecDepth 20000 in
theorem u_X2_drop_X2 : ∀ w ∈ wsX20, w ∈ wsX2_drop := xx_pl _ [15, 16] (by decide +kernel)
def f_X2_drop (below : (Nat → Int32)) (pairs : (Nat → Int32)) (v1 : Int32) (v2 : Int32) : Option ((Nat → Int32) × (Nat → Int32)) :=
  ck v1 8 (ck v1 8 (lt (upd pairs v1.toNatClampNeg ((pairs v1.toNatClampNeg) &&& ((1 <<< (v2 &&& 31)) ^^^ (-1)))) (fun pairs_13 => (f_X2_close below pairs_13).bind (fun r_15 => some (r_15, pairs_13)))))
set_option maxHeartbeats 4000000 in
set_option maxRecDepth 100000 in
theorem k_X2_drop (l : Launch) (D : va_G) (G : Nat → ClassId) (h : Nat) (a_pairs : Nat) (a_below : Nat) (below : (Nat → Int32)) (pairs : (Nat → Int32))  (v1 : Int32) (v2 : Int32) (out : (Nat → Int32) × (Nat → Int32)) (hf : f_X2_drop below pairs v1 v2 = some out) : xMet l yX2_drop wsX2_drop (rM 2 48) D G [.ref h, .int v1, .int v2] [[(h, .inr (2, [.ref a_pairs, .ref a_below]))], [(a_below, .inl (G 0, 8, .inl below))], [(a_pairs, .inl (G 0, 8, .inl pairs))]] (xQv D [[(h, .inr (2, [.ref a_pairs, .ref a_below]))], [(a_below, .inl (G 0, 8, .inl out.1))], [(a_pairs, .inl (G 0, 8, .inl out.2))]]) := by
  refine x_ent (cc := cX2_drop) (maxL := 3) (by decide) rfl (Nat.le_of_ble_eq_true rfl) ?_
  intro p e s m below meth c aa ls args Q hQ hx hb hr hml hown hts hlocks hE hN hP hl hS
  have hown : s.vm.findClass RX2 = some m.cls := hown
  have hl : lv_has ls 3 [(0, .ref h), (1, .int v1), (2, .int v2)] := hl
  rw [f_X2_drop] at hf
  obtain ⟨H, hH⟩ : ∃ H : Heap, H = s.heap := ⟨_, rfl⟩
  obtain ⟨locs, hlocs⟩ : ∃ locs : List Loc, locs = [] := ⟨_, rfl⟩
  have hP : xW D aa [[(h, .inr (2, [.ref a_pairs, .ref a_below]))], [(a_below, .inl (G 0, 8, .inl below))], [(a_pairs, .inl (G 0, 8, .inl pairs))]] H := by rw [hH]; exact hP
  have hS : va_S (xA aa) s.heap H locs := by rw [hH, hlocs]; exact hS
  suffices GO : W p l e (rM 2 48) s m args below meth c H locs 0 0 Q (F0 m 0 ls []) by
    rw [hH, hlocs] at GO
    exact GO
  clear hH hlocs
  refine lv_aload_n hx hb dX2_drop_0 rfl (lv_at hl 0 rfl) ?_
  refine x_get hx hb hts u_X2_drop_X2 hown hE hP 0 rfl rfl 0 (by decide) (hts (.fieldLink RX2 9 "DecreasingDiagrams$LabelOrder" "pairs" "[I") (List.mem_of_getElem? (i := 1) rfl)) rfl dX2_drop_1 ?_
  refine lv_iload_n hx hb dX2_drop_4 rfl (lv_at hl 1 rfl) ?_
  refine lv_dup2_11 hx hb dX2_drop_5 rfl rfl ?_
  obtain ⟨hi, hf⟩ := ck_some hf
  refine x_iald hx hb hE hP 2 rfl hi dX2_drop_6 ?_
  refine lv_iconst (v := 1) hx hb dX2_drop_7 (by decide) ?_
  refine lv_iload_n hx hb dX2_drop_8 rfl (lv_at hl 2 rfl) ?_
  refine lv_ishl hx hb dX2_drop_9 ?_
  refine lv_iconst (v := -1) hx hb dX2_drop_10 (by decide) ?_
  refine lv_ixor hx hb dX2_drop_11 ?_
  refine lv_iand hx hb dX2_drop_12 ?_
  obtain ⟨hi, hf⟩ := ck_some hf
  obtain ⟨pairs_13, e_pairs_13, hf⟩ := lt_some hf
  refine x_iast (I' := [[(h, .inr (2, [.ref a_pairs, .ref a_below]))], [(a_below, .inl (G 0, 8, .inl below))], [(a_pairs, .inl (G 0, 8, .inl pairs_13))]]) hx hb hE hP hN hS 2 rfl hi e_pairs_13 rfl dX2_drop_13 (fun H locs hP hS => ?_)
  refine lv_aload_n hx hb dX2_drop_14 rfl (lv_at hl 0 rfl) ?_
  obtain ⟨r_15, hr_15, hf⟩ := bd_some hf
  refine x_gov (ps := [0, 1, 2]) (I' := [[(h, .inr (2, [.ref a_pairs, .ref a_below]))], [(a_below, .inl (G 0, 8, .inl r_15))], [(a_pairs, .inl (G 0, 8, .inl pairs_13))]]) (x_runV (As := []) (rest := []) (ps := [0, 1, 2]) ⟨hx, hb, hml, hown, hts⟩ (k_X2_close l D G h a_pairs a_below below pairs_13 r_15 hr_15) (cwV 0 hts gX2_drop_X2_close rfl rfl rfl (by decide +kernel) ⟨Nat.le_of_ble_eq_true rfl, Nat.le_of_ble_eq_true rfl⟩) hE hP hN rfl (by decide) 0 rfl rfl rfl hl.1 (Nat.le_of_ble_eq_true rfl) dX2_drop_15 ⟨Nat.zero_le _, Nat.zero_le _⟩) hP hN hS rfl rfl (fun H locs hP hS => ?_)
  have hf := Option.some.inj hf
  subst hf
  subst hQ
  exact x_vret hx hb hr hlocks hP hS dX2_drop_18

set_option maxRecDepth 20000 in
theorem u_X2_copyFrom_X2 : ∀ w ∈ wsX20, w ∈ wsX2_copyFrom := xx_pl _ [7, 8] (by decide +kernel)
def f_X2_copyFrom (p1_below : (Nat → Int32)) (p1_pairs : (Nat → Int32)) (below : (Nat → Int32)) (pairs : (Nat → Int32)) : Option ((Nat → Int32) × (Nat → Int32)) :=
  lt (va_cpy p1_pairs pairs 0 0 8) (fun pairs_12 => lt (va_cpy p1_below below 0 0 8) (fun below_27 => some (below_27, pairs_12)))
set_option maxHeartbeats 4000000 in
set_option maxRecDepth 100000 in
theorem k_X2_copyFrom (l : Launch) (D : va_G) (G : Nat → ClassId) (h : Nat) (h_p1 : Nat) (a_p1_pairs : Nat) (a_p1_below : Nat) (a_pairs : Nat) (a_below : Nat) (p1_below : (Nat → Int32)) (p1_pairs : (Nat → Int32)) (below : (Nat → Int32)) (pairs : (Nat → Int32))   (out : (Nat → Int32) × (Nat → Int32)) (hf : f_X2_copyFrom p1_below p1_pairs below pairs = some out) : xMet l yX2_copyFrom wsX2_copyFrom (rM 1 26) D G [.ref h, .ref h_p1] [[(h_p1, .inr (2, [.ref a_p1_pairs, .ref a_p1_below]))], [(a_p1_below, .inl (G 0, 8, .inl p1_below))], [(a_p1_pairs, .inl (G 0, 8, .inl p1_pairs))], [(h, .inr (2, [.ref a_pairs, .ref a_below]))], [(a_below, .inl (G 0, 8, .inl below))], [(a_pairs, .inl (G 0, 8, .inl pairs))]] (xQv D [[(h_p1, .inr (2, [.ref a_p1_pairs, .ref a_p1_below]))], [(a_p1_below, .inl (G 0, 8, .inl p1_below))], [(a_p1_pairs, .inl (G 0, 8, .inl p1_pairs))], [(h, .inr (2, [.ref a_pairs, .ref a_below]))], [(a_below, .inl (G 0, 8, .inl out.1))], [(a_pairs, .inl (G 0, 8, .inl out.2))]]) := by
  refine x_ent (cc := cX2_copyFrom) (maxL := 2) (by decide) rfl (Nat.le_of_ble_eq_true rfl) ?_
  intro p e s m below meth c aa ls args Q hQ hx hb hr hml hown hts hlocks hE hN hP hl hS
  have hown : s.vm.findClass RX2 = some m.cls := hown
  have hl : lv_has ls 2 [(0, .ref h), (1, .ref h_p1)] := hl
  rw [f_X2_copyFrom] at hf
  obtain ⟨H, hH⟩ : ∃ H : Heap, H = s.heap := ⟨_, rfl⟩
  obtain ⟨locs, hlocs⟩ : ∃ locs : List Loc, locs = [] := ⟨_, rfl⟩
  have hP : xW D aa [[(h_p1, .inr (2, [.ref a_p1_pairs, .ref a_p1_below]))], [(a_p1_below, .inl (G 0, 8, .inl p1_below))], [(a_p1_pairs, .inl (G 0, 8, .inl p1_pairs))], [(h, .inr (2, [.ref a_pairs, .ref a_below]))], [(a_below, .inl (G 0, 8, .inl below))], [(a_pairs, .inl (G 0, 8, .inl pairs))]] H := by rw [hH]; exact hP
  have hS : va_S (xA aa) s.heap H locs := by rw [hH, hlocs]; exact hS
  suffices GO : W p l e (rM 1 26) s m args below meth c H locs 0 0 Q (F0 m 0 ls []) by
    rw [hH, hlocs] at GO
    exact GO
  clear hH hlocs
  refine lv_aload_n hx hb dX2_copyFrom_0 rfl (lv_at hl 1 rfl) ?_
  refine x_get hx hb hts u_X2_copyFrom_X2 hown hE hP 0 rfl rfl 0 (by decide) (hts (.fieldLink RX2 9 "DecreasingDiagrams$LabelOrder" "pairs" "[I") (List.mem_of_getElem? (i := 1) rfl)) rfl dX2_copyFrom_1 ?_
  refine lv_iconst (v := 0) hx hb dX2_copyFrom_4 (by decide) ?_
  refine lv_aload_n hx hb dX2_copyFrom_5 rfl (lv_at hl 0 rfl) ?_
  refine x_get hx hb hts u_X2_copyFrom_X2 hown hE hP 3 rfl rfl 0 (by decide) (hts (.fieldLink RX2 9 "DecreasingDiagrams$LabelOrder" "pairs" "[I") (List.mem_of_getElem? (i := 1) rfl)) rfl dX2_copyFrom_6 ?_
  refine lv_iconst (v := 0) hx hb dX2_copyFrom_9 (by decide) ?_
  refine lv_bipush (v := 8) hx hb dX2_copyFrom_10 (by decide) ?_
  obtain ⟨pairs_12, e_pairs_12, hf⟩ := lt_some hf
  refine x_copyi (I' := [[(h_p1, .inr (2, [.ref a_p1_pairs, .ref a_p1_below]))], [(a_p1_below, .inl (G 0, 8, .inl p1_below))], [(a_p1_pairs, .inl (G 0, 8, .inl p1_pairs))], [(h, .inr (2, [.ref a_pairs, .ref a_below]))], [(a_below, .inl (G 0, 8, .inl below))], [(a_pairs, .inl (G 0, 8, .inl pairs_12))]]) hx hb (hml.trans hl.1.symm) hown (hts (.methodLink RX2 31 arraycopyName) (List.mem_of_getElem? (i := 2) rfl)) (hts (.native arraycopyName) (List.mem_of_getElem? (i := 3) rfl)) (hts (.static arraycopyName) (List.mem_of_getElem? (i := 4) rfl)) (hts (.initialized RJ10) (List.mem_of_getElem? (i := 5) rfl)) hE hP hN hS 2 5 rfl rfl (by decide) (by decide) (by decide) (by decide) (by decide) (by decide) (by decide) (by rw [e_pairs_12]; rfl) rfl dX2_copyFrom_12 (fun H locs hP hS => ?_)
  refine lv_aload_n hx hb dX2_copyFrom_15 rfl (lv_at hl 1 rfl) ?_
  refine x_get hx hb hts u_X2_copyFrom_X2 hown hE hP 0 rfl rfl 1 (by decide) (hts (.fieldLink RX2 15 "DecreasingDiagrams$LabelOrder" "below" "[I") (List.mem_of_getElem? (i := 6) rfl)) rfl dX2_copyFrom_16 ?_
  refine lv_iconst (v := 0) hx hb dX2_copyFrom_19 (by decide) ?_
  refine lv_aload_n hx hb dX2_copyFrom_20 rfl (lv_at hl 0 rfl) ?_
  refine x_get hx hb hts u_X2_copyFrom_X2 hown hE hP 3 rfl rfl 1 (by decide) (hts (.fieldLink RX2 15 "DecreasingDiagrams$LabelOrder" "below" "[I") (List.mem_of_getElem? (i := 6) rfl)) rfl dX2_copyFrom_21 ?_
  refine lv_iconst (v := 0) hx hb dX2_copyFrom_24 (by decide) ?_
  refine lv_bipush (v := 8) hx hb dX2_copyFrom_25 (by decide) ?_
  obtain ⟨below_27, e_below_27, hf⟩ := lt_some hf
  refine x_copyi (I' := [[(h_p1, .inr (2, [.ref a_p1_pairs, .ref a_p1_below]))], [(a_p1_below, .inl (G 0, 8, .inl p1_below))], [(a_p1_pairs, .inl (G 0, 8, .inl p1_pairs))], [(h, .inr (2, [.ref a_pairs, .ref a_below]))], [(a_below, .inl (G 0, 8, .inl below_27))], [(a_pairs, .inl (G 0, 8, .inl pairs_12))]]) hx hb (hml.trans hl.1.symm) hown (hts (.methodLink RX2 31 arraycopyName) (List.mem_of_getElem? (i := 2) rfl)) (hts (.native arraycopyName) (List.mem_of_getElem? (i := 3) rfl)) (hts (.static arraycopyName) (List.mem_of_getElem? (i := 4) rfl)) (hts (.initialized RJ10) (List.mem_of_getElem? (i := 5) rfl)) hE hP hN hS 1 4 rfl rfl (by decide) (by decide) (by decide) (by decide) (by decide) (by decide) (by decide) (by rw [e_below_27]; rfl) rfl dX2_copyFrom_27 (fun H locs hP hS => ?_)
  have hf := Option.some.inj hf
  subst hf
  subst hQ
  exact x_vret hx hb hr hlocks hP hS dX2_copyFrom_30

set_option maxRecDepth 20000 in
theorem u_X8_copyFrom_X8 : ∀ w ∈ wsX80, w ∈ wsX8_copyFrom := xx_pl _ [8, 9, 10] (by decide +kernel)
def f_X8_copyFrom (p1_count : Int32) (p1_lefts : (Nat → Int32)) (p1_rights : (Nat → Int32)) (lefts : (Nat → Int32)) (rights : (Nat → Int32)) : Option (Int32 × (Nat → Int32) × (Nat → Int32)) :=
  lt p1_count (fun count_5 => lt (va_cpy p1_lefts lefts 0 0 6) (fun lefts_20 => lt (va_cpy p1_rights rights 0 0 6) (fun rights_35 => some (count_5, lefts_20, rights_35))))
set_option maxHeartbeats 4000000 in
set_option maxRecDepth 100000 in
theorem k_X8_copyFrom (l : Launch) (D : va_G) (G : Nat → ClassId) (h : Nat) (h_p1 : Nat) (a_p1_lefts : Nat) (a_p1_rights : Nat) (a_lefts : Nat) (a_rights : Nat) (p1_count : Int32) (count : Int32) (p1_lefts : (Nat → Int32)) (p1_rights : (Nat → Int32)) (lefts : (Nat → Int32)) (rights : (Nat → Int32))   (out : Int32 × (Nat → Int32) × (Nat → Int32)) (hf : f_X8_copyFrom p1_count p1_lefts p1_rights lefts rights = some out) : xMet l yX8_copyFrom wsX8_copyFrom (rM 1 26) D G [.ref h, .ref h_p1] [[(h_p1, .inr (8, [.int p1_count, .ref a_p1_lefts, .ref a_p1_rights]))], [(a_p1_lefts, .inl (G 0, 6, .inl p1_lefts))], [(a_p1_rights, .inl (G 0, 6, .inl p1_rights))], [(h, .inr (8, [.int count, .ref a_lefts, .ref a_rights]))], [(a_lefts, .inl (G 0, 6, .inl lefts))], [(a_rights, .inl (G 0, 6, .inl rights))]] (xQv D [[(h_p1, .inr (8, [.int p1_count, .ref a_p1_lefts, .ref a_p1_rights]))], [(a_p1_lefts, .inl (G 0, 6, .inl p1_lefts))], [(a_p1_rights, .inl (G 0, 6, .inl p1_rights))], [(h, .inr (8, [.int out.1, .ref a_lefts, .ref a_rights]))], [(a_lefts, .inl (G 0, 6, .inl out.2.1))], [(a_rights, .inl (G 0, 6, .inl out.2.2))]]) := by
  refine x_ent (cc := cX8_copyFrom) (maxL := 2) (by decide) rfl (Nat.le_of_ble_eq_true rfl) ?_
  intro p e s m below meth c aa ls args Q hQ hx hb hr hml hown hts hlocks hE hN hP hl hS
  have hown : s.vm.findClass RX8 = some m.cls := hown
  have hl : lv_has ls 2 [(0, .ref h), (1, .ref h_p1)] := hl
  rw [f_X8_copyFrom] at hf
  obtain ⟨H, hH⟩ : ∃ H : Heap, H = s.heap := ⟨_, rfl⟩
  obtain ⟨locs, hlocs⟩ : ∃ locs : List Loc, locs = [] := ⟨_, rfl⟩
  have hP : xW D aa [[(h_p1, .inr (8, [.int p1_count, .ref a_p1_lefts, .ref a_p1_rights]))], [(a_p1_lefts, .inl (G 0, 6, .inl p1_lefts))], [(a_p1_rights, .inl (G 0, 6, .inl p1_rights))], [(h, .inr (8, [.int count, .ref a_lefts, .ref a_rights]))], [(a_lefts, .inl (G 0, 6, .inl lefts))], [(a_rights, .inl (G 0, 6, .inl rights))]] H := by rw [hH]; exact hP
  have hS : va_S (xA aa) s.heap H locs := by rw [hH, hlocs]; exact hS
  suffices GO : W p l e (rM 1 26) s m args below meth c H locs 0 0 Q (F0 m 0 ls []) by
    rw [hH, hlocs] at GO
    exact GO
  clear hH hlocs
  refine lv_aload_n hx hb dX8_copyFrom_0 rfl (lv_at hl 0 rfl) ?_
  refine lv_aload_n hx hb dX8_copyFrom_1 rfl (lv_at hl 1 rfl) ?_
  refine x_get hx hb hts u_X8_copyFrom_X8 hown hE hP 0 rfl rfl 0 (by decide) (hts (.fieldLink RX8 9 "DecreasingDiagrams$RuleSet" "count" "I") (List.mem_of_getElem? (i := 1) rfl)) rfl dX8_copyFrom_2 ?_
  obtain ⟨count_5, e_count_5, hf⟩ := lt_some hf
  refine x_put (w := .int count_5) (ty := .int) (I' := [[(h_p1, .inr (8, [.int p1_count, .ref a_p1_lefts, .ref a_p1_rights]))], [(a_p1_lefts, .inl (G 0, 6, .inl p1_lefts))], [(a_p1_rights, .inl (G 0, 6, .inl p1_rights))], [(h, .inr (8, [.int count_5, .ref a_lefts, .ref a_rights]))], [(a_lefts, .inl (G 0, 6, .inl lefts))], [(a_rights, .inl (G 0, 6, .inl rights))]]) hx hb hts u_X8_copyFrom_X8 tyX8 tyX8_ok nmX8 hown hE hP hN hS 3 rfl rfl 0 (by decide) (hts (.fieldLink RX8 9 "DecreasingDiagrams$RuleSet" "count" "I") (List.mem_of_getElem? (i := 1) rfl)) rfl (congrArg Value.int e_count_5) (by decide +kernel) rfl rfl (Nat.le_of_ble_eq_true rfl) rfl dX8_copyFrom_5 (fun H locs hP hS => ?_)
  refine lv_aload_n hx hb dX8_copyFrom_8 rfl (lv_at hl 1 rfl) ?_
  refine x_get hx hb hts u_X8_copyFrom_X8 hown hE hP 0 rfl rfl 1 (by decide) (hts (.fieldLink RX8 15 "DecreasingDiagrams$RuleSet" "lefts" "[I") (List.mem_of_getElem? (i := 2) rfl)) rfl dX8_copyFrom_9 ?_
  refine lv_iconst (v := 0) hx hb dX8_copyFrom_12 (by decide) ?_
  refine lv_aload_n hx hb dX8_copyFrom_13 rfl (lv_at hl 0 rfl) ?_
  refine x_get hx hb hts u_X8_copyFrom_X8 hown hE hP 3 rfl rfl 1 (by decide) (hts (.fieldLink RX8 15 "DecreasingDiagrams$RuleSet" "lefts" "[I") (List.mem_of_getElem? (i := 2) rfl)) rfl dX8_copyFrom_14 ?_
  refine lv_iconst (v := 0) hx hb dX8_copyFrom_17 (by decide) ?_
  refine lv_bipush (v := 6) hx hb dX8_copyFrom_18 (by decide) ?_
  obtain ⟨lefts_20, e_lefts_20, hf⟩ := lt_some hf
  refine x_copyi (I' := [[(h_p1, .inr (8, [.int p1_count, .ref a_p1_lefts, .ref a_p1_rights]))], [(a_p1_lefts, .inl (G 0, 6, .inl p1_lefts))], [(a_p1_rights, .inl (G 0, 6, .inl p1_rights))], [(h, .inr (8, [.int count_5, .ref a_lefts, .ref a_rights]))], [(a_lefts, .inl (G 0, 6, .inl lefts_20))], [(a_rights, .inl (G 0, 6, .inl rights))]]) hx hb (hml.trans hl.1.symm) hown (hts (.methodLink RX8 22 arraycopyName) (List.mem_of_getElem? (i := 3) rfl)) (hts (.native arraycopyName) (List.mem_of_getElem? (i := 4) rfl)) (hts (.static arraycopyName) (List.mem_of_getElem? (i := 5) rfl)) (hts (.initialized RJ10) (List.mem_of_getElem? (i := 6) rfl)) hE hP hN hS 1 4 rfl rfl (by decide) (by decide) (by decide) (by decide) (by decide) (by decide) (by decide) (by rw [e_lefts_20]; rfl) rfl dX8_copyFrom_20 (fun H locs hP hS => ?_)
  refine lv_aload_n hx hb dX8_copyFrom_23 rfl (lv_at hl 1 rfl) ?_
  refine x_get hx hb hts u_X8_copyFrom_X8 hown hE hP 0 rfl rfl 2 (by decide) (hts (.fieldLink RX8 19 "DecreasingDiagrams$RuleSet" "rights" "[I") (List.mem_of_getElem? (i := 7) rfl)) rfl dX8_copyFrom_24 ?_
  refine lv_iconst (v := 0) hx hb dX8_copyFrom_27 (by decide) ?_
  refine lv_aload_n hx hb dX8_copyFrom_28 rfl (lv_at hl 0 rfl) ?_
  refine x_get hx hb hts u_X8_copyFrom_X8 hown hE hP 3 rfl rfl 2 (by decide) (hts (.fieldLink RX8 19 "DecreasingDiagrams$RuleSet" "rights" "[I") (List.mem_of_getElem? (i := 7) rfl)) rfl dX8_copyFrom_29 ?_
  refine lv_iconst (v := 0) hx hb dX8_copyFrom_32 (by decide) ?_
  refine lv_bipush (v := 6) hx hb dX8_copyFrom_33 (by decide) ?_
  obtain ⟨rights_35, e_rights_35, hf⟩ := lt_some hf
  refine x_copyi (I' := [[(h_p1, .inr (8, [.int p1_count, .ref a_p1_lefts, .ref a_p1_rights]))], [(a_p1_lefts, .inl (G 0, 6, .inl p1_lefts))], [(a_p1_rights, .inl (G 0, 6, .inl p1_rights))], [(h, .inr (8, [.int count_5, .ref a_lefts, .ref a_rights]))], [(a_lefts, .inl (G 0, 6, .inl lefts_20))], [(a_rights, .inl (G 0, 6, .inl rights_35))]]) hx hb (hml.trans hl.1.symm) hown (hts (.methodLink RX8 22 arraycopyName) (List.mem_of_getElem? (i := 3) rfl)) (hts (.native arraycopyName) (List.mem_of_getElem? (i := 4) rfl)) (hts (.static arraycopyName) (List.mem_of_getElem? (i := 5) rfl)) (hts (.initialized RJ10) (List.mem_of_getElem? (i := 6) rfl)) hE hP hN hS 2 5 rfl rfl (by decide) (by decide) (by decide) (by decide) (by decide) (by decide) (by decide) (by rw [e_rights_35]; rfl) rfl dX8_copyFrom_35 (fun H locs hP hS => ?_)
  have hf := Option.some.inj hf
  subst hf
  subst hQ
  exact x_vret hx hb hr hlocks hP hS dX8_copyFrom_38

set_option maxRecDepth 20000 in
theorem u_X2_size_X2 : ∀ w ∈ wsX20, w ∈ wsX2_size := xx_pl _ [9, 10] (by decide +kernel)
def f_X2_size_L4 (pairs : (Nat → Int32)) (rec_4 : Int32 → Int32 → Option (Int32)) (v1 : Int32) (v2 : Int32) : Option (Int32) :=
  if 8 ≤ v2 then (some v1) else (ck v2 8 ((f_J6_bitCount_0f7a4 (pairs v2.toNatClampNeg)).bind (fun r_17 => lt (v1 + r_17) (fun v1_21 => lt (v2 + 1) (fun v2_22 => rec_4 v1_21 v2_22)))))
def f_X2_size (pairs : (Nat → Int32)) : Option (Int32) :=
  lt 0 (fun v1_1 => lt 0 (fun v2_3 => lp (τ := Int32 → Int32 → Option (Int32)) (fun _ _ => none) (f_X2_size_L4 pairs) fuel v1_1 v2_3))
set_option maxHeartbeats 4000000 in
set_option maxRecDepth 100000 in
theorem k_X2_size (l : Launch) (D : va_G) (G : Nat → ClassId) (h : Nat) (a_pairs : Nat) (a_below : Nat) (pairs : (Nat → Int32))   (out : Int32) (hf : f_X2_size pairs = some out) : xMet l yX2_size wsX2_size (rM 1 20) D G [.ref h] [[(h, .inr (2, [.ref a_pairs, .ref a_below]))], [(a_pairs, .inl (G 0, 8, .inl pairs))]] (xQi D [[(h, .inr (2, [.ref a_pairs, .ref a_below]))], [(a_pairs, .inl (G 0, 8, .inl pairs))]] out) := by
  refine x_ent (cc := cX2_size) (maxL := 3) (by decide) rfl (Nat.le_of_ble_eq_true rfl) ?_
  intro p e s m below meth c aa ls args Q hQ hx hb hr hml hown hts hlocks hE hN hP hl hS
  have hown : s.vm.findClass RX2 = some m.cls := hown
  have hl : lv_has ls 3 [(0, .ref h)] := hl
  have L4 : ∀ (n_4 : Nat) (v1 : Int32) (v2 : Int32) (H : Heap) (locs : List Loc) (ls : Array Slot), xW D aa [[(h, .inr (2, [.ref a_pairs, .ref a_below]))], [(a_pairs, .inl (G 0, 8, .inl pairs))]] H → va_S (xA aa) s.heap H locs → lv_has ls 3 [(0, .ref h), (1, .int v1), (2, .int v2)] → lp (τ := Int32 → Int32 → Option (Int32)) (fun _ _ => none) (f_X2_size_L4 pairs) n_4 v1 v2 = some out → W p l e (rM 1 20) s m args below meth c H locs 0 0 Q (F0 m 4 ls []) := by
    intro    n_4
    induction n_4 with
    | zero =>
      intro v1 v2 H locs ls hP hS hl hf
      exact no_some hf
    | succ n_4 ih_4 =>
      intro v1 v2 H locs ls hP hS hl hf
      have hf : f_X2_size_L4 pairs (lp (τ := Int32 → Int32 → Option (Int32)) (fun _ _ => none) (f_X2_size_L4 pairs) n_4) v1 v2 = some out := hf
      rw [f_X2_size_L4] at hf
      refine lv_iload_n hx hb dX2_size_4 rfl (lv_at hl 2 rfl) ?_
      refine lv_bipush (v := 8) hx hb dX2_size_5 (by decide) ?_
      refine lv_icmp_ge (tgt := 28) hx hb dX2_size_7 (by decide) (fun c_7 => ?_) (fun c_7 => ?_)
      · have hf := it_pos c_7 hf
        refine lv_iload_n hx hb dX2_size_28 rfl (lv_at hl 1 rfl) ?_
        have hf := Option.some.inj hf
        subst hf
        subst hQ
        exact x_iret hx hb hr hlocks hP hS dX2_size_29
      · have hf := it_neg c_7 hf
        refine lv_iload_n hx hb dX2_size_10 rfl (lv_at hl 1 rfl) ?_
        refine lv_aload_n hx hb dX2_size_11 rfl (lv_at hl 0 rfl) ?_
        refine x_get hx hb hts u_X2_size_X2 hown hE hP 0 rfl rfl 0 (by decide) (hts (.fieldLink RX2 9 "DecreasingDiagrams$LabelOrder" "pairs" "[I") (List.mem_of_getElem? (i := 1) rfl)) rfl dX2_size_12 ?_
        refine lv_iload_n hx hb dX2_size_15 rfl (lv_at hl 2 rfl) ?_
        obtain ⟨hi, hf⟩ := ck_some hf
        refine x_iald hx hb hE hP 1 rfl hi dX2_size_16 ?_
        obtain ⟨r_17, hr_17, hf⟩ := bd_some hf
        refine x_goi (ps := []) (I' := [[(h, .inr (2, [.ref a_pairs, .ref a_below]))], [(a_pairs, .inl (G 0, 8, .inl pairs))]]) (x_runS (As := [.int (pairs v2.toNatClampNeg)]) (rest := [.int v1]) (ps := []) ⟨hx, hb, hml, hown, hts⟩ (k_J6_bitCount_0f7a4 l D G (pairs v2.toNatClampNeg) r_17 hr_17) (va_cwS 1 hts gX2_size_J6_bitCount_0f7a4 rfl rfl rfl (by decide +kernel) ⟨Nat.le_of_ble_eq_true rfl, Nat.le_of_ble_eq_true rfl⟩) hE hP hN rfl (by decide) rfl hl.1 (Nat.le_of_ble_eq_true rfl) dX2_size_17 ⟨Nat.zero_le _, Nat.zero_le _⟩) hP hN hS rfl rfl (fun H locs hP hS => ?_)
        refine lv_iadd hx hb dX2_size_20 ?_
        obtain ⟨v1_21, e_v1_21, hf⟩ := lt_some hf
        refine x_istore_n (v := v1_21) (lv' := [(1, .int v1_21), (0, .ref h), (2, .int v2)]) hx hb dX2_size_21 e_v1_21 rfl hl (by decide) rfl (fun ls hl => ?_)
        obtain ⟨v2_22, e_v2_22, hf⟩ := lt_some hf
        refine lv_iinc (v := v2_22) (lv' := [(2, .int v2_22), (1, .int v1_21), (0, .ref h)]) hx hb dX2_size_22 hl (k := 2) rfl (by rw [e_v2_22]; rfl) (by decide) rfl (fun ls hl => ?_)
        refine lv_goto (tgt := 4) hx hb dX2_size_25 (by decide) ?_
        exact ih_4 v1_21 v2_22 H locs ls hP hS (lv_sub hl [2, 1, 0] rfl) hf
  rw [f_X2_size] at hf
  obtain ⟨H, hH⟩ : ∃ H : Heap, H = s.heap := ⟨_, rfl⟩
  obtain ⟨locs, hlocs⟩ : ∃ locs : List Loc, locs = [] := ⟨_, rfl⟩
  have hP : xW D aa [[(h, .inr (2, [.ref a_pairs, .ref a_below]))], [(a_pairs, .inl (G 0, 8, .inl pairs))]] H := by rw [hH]; exact hP
  have hS : va_S (xA aa) s.heap H locs := by rw [hH, hlocs]; exact hS
  suffices GO : W p l e (rM 1 20) s m args below meth c H locs 0 0 Q (F0 m 0 ls []) by
    rw [hH, hlocs] at GO
    exact GO
  clear hH hlocs
  refine lv_iconst (v := 0) hx hb dX2_size_0 (by decide) ?_
  obtain ⟨v1_1, e_v1_1, hf⟩ := lt_some hf
  refine x_istore_n (v := v1_1) (lv' := [(1, .int v1_1), (0, .ref h)]) hx hb dX2_size_1 e_v1_1 rfl hl (by decide) rfl (fun ls hl => ?_)
  refine lv_iconst (v := 0) hx hb dX2_size_2 (by decide) ?_
  obtain ⟨v2_3, e_v2_3, hf⟩ := lt_some hf
  refine x_istore_n (v := v2_3) (lv' := [(2, .int v2_3), (1, .int v1_1), (0, .ref h)]) hx hb dX2_size_3 e_v2_3 rfl hl (by decide) rfl (fun ls hl => ?_)
  exact L4    fuel v1_1 v2_3 H locs ls hP hS (lv_sub hl [2, 1, 0] rfl) hf
