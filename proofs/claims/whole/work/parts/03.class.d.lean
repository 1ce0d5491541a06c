set_option maxRecDepth 20000 in
theorem u_X9_reaches_X9 : ∀ w ∈ wsX90, w ∈ wsX9_reaches := xx_pl _ [2, 3, 4, 5, 6, 7, 8, 9, 10, 11] (by decide +kernel)
def f_X9_reaches (firstPlaces : (Nat → Int32)) (v1 : Int32) : Option (Int32) :=
  ck v1 16 (if (firstPlaces v1.toNatClampNeg) = (-2) then (some 0) else (some 1))
set_option maxHeartbeats 4000000 in
set_option maxRecDepth 100000 in
theorem k_X9_reaches (l : Launch) (D : va_G) (G : Nat → ClassId) (fu : Nat) (h : Nat) (a_objects : Nat) (a_parts : Nat) (a_lengths : Nat) (a_previous : Nat) (a_arrivals : Nat) (a_firstPlaces : Nat) (belowOwn : Int32) (belowEither : Int32) (other : Int32) (places : Int32) (firstPlaces : (Nat → Int32))  (v1 : Int32) (out : Int32) (hf : f_X9_reaches firstPlaces v1 = some out) : xMet l yX9_reaches wsX9_reaches (rM 0 0) D G [.ref h, .int v1] [[(h, .inr (9, [.int belowOwn, .int belowEither, .int other, .int places, .ref a_objects, .ref a_parts, .ref a_lengths, .ref a_previous, .ref a_arrivals, .ref a_firstPlaces]))], [(a_firstPlaces, .inl (G 0, 16, .inl firstPlaces))]] (xQi D [[(h, .inr (9, [.int belowOwn, .int belowEither, .int other, .int places, .ref a_objects, .ref a_parts, .ref a_lengths, .ref a_previous, .ref a_arrivals, .ref a_firstPlaces]))], [(a_firstPlaces, .inl (G 0, 16, .inl firstPlaces))]] out) := by
  refine x_ent (cc := cX9_reaches) (maxL := 2) (by decide) rfl (Nat.le_of_ble_eq_true rfl) ?_
  intro p e s m blw meth c aa ls args Q H locs hQ hx hb hr hml hown hts hlocks hE hN hl hP hS
  have hown : s.vm.findClass RX9 = some m.cls := hown
  have hl : lv_has ls 2 [(0, .ref h), (1, .int v1)] := hl
  refine lv_aload_n hx hb dX9_reaches_0 rfl (lv_at hl 0 rfl) ?_
  refine x_get hx hb hts u_X9_reaches_X9 hown hE hP 0 rfl rfl 9 (by decide) (hts (.fieldLink RX9 40 "DecreasingDiagrams$SidePaths" "firstPlaces" "[I") (List.mem_of_getElem? (i := 1) rfl)) rfl dX9_reaches_1 ?_
  refine lv_iload_n hx hb dX9_reaches_4 rfl (lv_at hl 1 rfl) ?_
  obtain ⟨hi, hf⟩ := ck_some hf
  refine x_iald hx hb hE hP 1 rfl hi dX9_reaches_5 ?_
  refine lv_bipush (v := -2) hx hb dX9_reaches_6 (by decide) ?_
  refine lv_icmp_eq (tgt := 15) hx hb dX9_reaches_8 (by decide) (fun c_8 => ?_) (fun c_8 => ?_)
  · have hf := it_pos c_8 hf
    refine lv_iconst (v := 0) hx hb dX9_reaches_15 (by decide) ?_
    have hf := Option.some.inj hf
    rewrite [← hQ, ← hf]
    exact x_zret (r := 0) hx hb hr hlocks rfl hP hS dX9_reaches_16
  · have hf := it_neg c_8 hf
    refine lv_iconst (v := 1) hx hb dX9_reaches_11 (by decide) ?_
    refine lv_goto (tgt := 16) hx hb dX9_reaches_12 (by decide) ?_
    have hf := Option.some.inj hf
    rewrite [← hQ, ← hf]
    exact x_zret (r := 1) hx hb hr hlocks rfl hP hS dX9_reaches_16

set_option maxRecDepth 20000 in
theorem u_X9_lengthTo_X9 : ∀ w ∈ wsX90, w ∈ wsX9_lengthTo := xx_pl _ [8, 9, 10, 11, 12, 13, 14, 15, 16, 17] (by decide +kernel)
def f_X9_lengthTo (firstPlaces : (Nat → Int32)) (lengths : (Nat → Int32)) (v1 : Int32) : Option (Int32) :=
  (f_X9_reaches firstPlaces v1).bind (fun r_2 => if r_2 = 0 then (some (-2)) else (ck v1 16 (ck (firstPlaces v1.toNatClampNeg) 32 (some (lengths (firstPlaces v1.toNatClampNeg).toNatClampNeg)))))
set_option maxHeartbeats 4000000 in
set_option maxRecDepth 100000 in
theorem k_X9_lengthTo (l : Launch) (D : va_G) (G : Nat → ClassId) (fu : Nat) (h : Nat) (a_objects : Nat) (a_parts : Nat) (a_lengths : Nat) (a_previous : Nat) (a_arrivals : Nat) (a_firstPlaces : Nat) (belowOwn : Int32) (belowEither : Int32) (other : Int32) (places : Int32) (firstPlaces : (Nat → Int32)) (lengths : (Nat → Int32))  (v1 : Int32) (out : Int32) (hf : f_X9_lengthTo firstPlaces lengths v1 = some out) : xMet l yX9_lengthTo wsX9_lengthTo (rM 1 21) D G [.ref h, .int v1] [[(h, .inr (9, [.int belowOwn, .int belowEither, .int other, .int places, .ref a_objects, .ref a_parts, .ref a_lengths, .ref a_previous, .ref a_arrivals, .ref a_firstPlaces]))], [(a_firstPlaces, .inl (G 0, 16, .inl firstPlaces))], [(a_lengths, .inl (G 0, 32, .inl lengths))]] (xQi D [[(h, .inr (9, [.int belowOwn, .int belowEither, .int other, .int places, .ref a_objects, .ref a_parts, .ref a_lengths, .ref a_previous, .ref a_arrivals, .ref a_firstPlaces]))], [(a_firstPlaces, .inl (G 0, 16, .inl firstPlaces))], [(a_lengths, .inl (G 0, 32, .inl lengths))]] out) := by
  refine x_ent (cc := cX9_lengthTo) (maxL := 2) (by decide) rfl (Nat.le_of_ble_eq_true rfl) ?_
  intro p e s m blw meth c aa ls args Q H locs hQ hx hb hr hml hown hts hlocks hE hN hl hP hS
  have hown : s.vm.findClass RX9 = some m.cls := hown
  have hl : lv_has ls 2 [(0, .ref h), (1, .int v1)] := hl
  refine lv_aload_n hx hb dX9_lengthTo_0 rfl (lv_at hl 0 rfl) ?_
  refine lv_iload_n hx hb dX9_lengthTo_1 rfl (lv_at hl 1 rfl) ?_
  obtain ⟨r_2, hr_2, hf⟩ := bd_some hf
  refine x_goi0 (ps := [0, 1]) (x_runV (As := [.int v1]) (rest := []) (ps := [0, 1]) ⟨hx, hb, hml, hown, hts⟩ (k_X9_reaches l D G fu h a_objects a_parts a_lengths a_previous a_arrivals a_firstPlaces belowOwn belowEither other places firstPlaces v1 r_2 hr_2) (cwV 1 hts gX9_lengthTo_X9_reaches rfl rfl rfl (by decide +kernel) ⟨Nat.le_of_ble_eq_true rfl, Nat.le_of_ble_eq_true rfl⟩) hE hP hN rfl (by decide) 0 rfl rfl rfl hl.1 (Nat.le_of_ble_eq_true rfl) dX9_lengthTo_2 ⟨Nat.zero_le _, Nat.zero_le _⟩) hP hN hS rfl (fun H locs hP hS => ?_)
  refine lv_if_eq (tgt := 22) hx hb dX9_lengthTo_5 (by decide) (fun c_5 => ?_) (fun c_5 => ?_)
  · have hf := it_pos c_5 hf
    refine lv_bipush (v := -2) hx hb dX9_lengthTo_22 (by decide) ?_
    have hf := Option.some.inj hf
    rewrite [← hQ, ← hf]
    exact x_iret hx hb hr hlocks hP hS dX9_lengthTo_24
  · have hf := it_neg c_5 hf
    refine lv_aload_n hx hb dX9_lengthTo_8 rfl (lv_at hl 0 rfl) ?_
    refine x_get hx hb hts u_X9_lengthTo_X9 hown hE hP 0 rfl rfl 6 (by decide) (hts (.fieldLink RX9 31 "DecreasingDiagrams$SidePaths" "lengths" "[I") (List.mem_of_getElem? (i := 1) rfl)) rfl dX9_lengthTo_9 ?_
    refine lv_aload_n hx hb dX9_lengthTo_12 rfl (lv_at hl 0 rfl) ?_
    refine x_get hx hb hts u_X9_lengthTo_X9 hown hE hP 0 rfl rfl 9 (by decide) (hts (.fieldLink RX9 40 "DecreasingDiagrams$SidePaths" "firstPlaces" "[I") (List.mem_of_getElem? (i := 2) rfl)) rfl dX9_lengthTo_13 ?_
    refine lv_iload_n hx hb dX9_lengthTo_16 rfl (lv_at hl 1 rfl) ?_
    obtain ⟨hi, hf⟩ := ck_some hf
    refine x_iald hx hb hE hP 1 rfl hi dX9_lengthTo_17 ?_
    obtain ⟨hi, hf⟩ := ck_some hf
    refine x_iald hx hb hE hP 2 rfl hi dX9_lengthTo_18 ?_
    refine lv_goto (tgt := 24) hx hb dX9_lengthTo_19 (by decide) ?_
    have hf := Option.some.inj hf
    rewrite [← hQ, ← hf]
    exact x_iret hx hb hr hlocks hP hS dX9_lengthTo_24

set_option maxRecDepth 20000 in
theorem u_X6_clear_X6 : ∀ w ∈ wsX60, w ∈ wsX6_clear := xx_pl _ [2, 3] (by decide +kernel)
def f_X6_clear  : Option (Int32) :=
  lt (0 : Int32) (fun length_2 => some length_2)
set_option maxHeartbeats 4000000 in
set_option maxRecDepth 100000 in
theorem k_X6_clear (l : Launch) (D : va_G) (G : Nat → ClassId) (fu : Nat) (h : Nat) (a_signs : Nat) (length : Int32)   (out : Int32) (hf : f_X6_clear  = some out) : xMet l yX6_clear wsX6_clear (rM 0 0) D G [.ref h] [[(h, .inr (6, [.int length, .ref a_signs]))]] (xQv D [[(h, .inr (6, [.int out, .ref a_signs]))]]) := by
  refine x_ent (cc := cX6_clear) (maxL := 1) (by decide) rfl (Nat.le_of_ble_eq_true rfl) ?_
  intro p e s m blw meth c aa ls args Q H locs hQ hx hb hr hml hown hts hlocks hE hN hl hP hS
  have hown : s.vm.findClass RX6 = some m.cls := hown
  have hl : lv_has ls 1 [(0, .ref h)] := hl
  refine lv_aload_n hx hb dX6_clear_0 rfl (lv_at hl 0 rfl) ?_
  refine lv_iconst (v := 0) hx hb dX6_clear_1 (by decide) ?_
  obtain ⟨length_2, e_length_2, hf⟩ := lt_some hf
  refine x_put (w := .int length_2) (ty := .int) (I' := [[(h, .inr (6, [.int length_2, .ref a_signs]))]]) hx hb hts u_X6_clear_X6 tyX6 tyX6_ok nmX6 hown hE hP hN hS 0 rfl rfl 0 (by decide) (hts (.fieldLink RX6 7 "DecreasingDiagrams$OutputText" "length" "I") (List.mem_of_getElem? (i := 1) rfl)) rfl (congrArg Value.int e_length_2) (by decide +kernel) rfl rfl (Nat.le_of_ble_eq_true rfl) rfl dX6_clear_2 (fun H locs hP hS => ?_)
  have hf := Option.some.inj hf
  rewrite [← hQ, ← hf]
  exact x_vret hx hb hr hlocks hP hS dX6_clear_5

set_option maxRecDepth 20000 in
theorem u_X6_putSign_X6 : ∀ w ∈ wsX60, w ∈ wsX6_putSign := xx_pl _ [3, 4] (by decide +kernel)
def f_X6_putSign (length : Int32) (signs : (Nat → Int32)) (v1 : Int32) : Option (Int32 × (Nat → Int32)) :=
  if 202 ≤ length then (some (length, signs)) else (ck length 202 (lt (upd signs length.toNatClampNeg (vp_nar .char v1)) (fun signs_19 => lt (length + 1) (fun length_27 => some (length_27, signs_19)))))
set_option maxHeartbeats 4000000 in
set_option maxRecDepth 100000 in
theorem k_X6_putSign (l : Launch) (D : va_G) (G : Nat → ClassId) (fu : Nat) (h : Nat) (a_signs : Nat) (length : Int32) (signs : (Nat → Int32))  (v1 : Int32) (out : Int32 × (Nat → Int32)) (hf : f_X6_putSign length signs v1 = some out) : xMet l yX6_putSign wsX6_putSign (rM 0 0) D G [.ref h, .int v1] [[(h, .inr (6, [.int length, .ref a_signs]))], [(a_signs, .inl (G 3, 202, .inl signs))]] (xQv D [[(h, .inr (6, [.int out.1, .ref a_signs]))], [(a_signs, .inl (G 3, 202, .inl out.2))]]) := by
  refine x_ent (cc := cX6_putSign) (maxL := 2) (by decide) rfl (Nat.le_of_ble_eq_true rfl) ?_
  intro p e s m blw meth c aa ls args Q H locs hQ hx hb hr hml hown hts hlocks hE hN hl hP hS
  have hown : s.vm.findClass RX6 = some m.cls := hown
  have hl : lv_has ls 2 [(0, .ref h), (1, .int v1)] := hl
  refine lv_aload_n hx hb dX6_putSign_0 rfl (lv_at hl 0 rfl) ?_
  refine x_get hx hb hts u_X6_putSign_X6 hown hE hP 0 rfl rfl 0 (by decide) (hts (.fieldLink RX6 7 "DecreasingDiagrams$OutputText" "length" "I") (List.mem_of_getElem? (i := 1) rfl)) rfl dX6_putSign_1 ?_
  refine lv_sipush (v := 202) hx hb dX6_putSign_4 (by decide) ?_
  refine lv_icmp_ge (tgt := 30) hx hb dX6_putSign_7 (by decide) (fun c_7 => ?_) (fun c_7 => ?_)
  · have hf := it_pos c_7 hf
    have hf := Option.some.inj hf
    rewrite [← hQ, ← hf]
    exact x_vret hx hb hr hlocks hP hS dX6_putSign_30
  · have hf := it_neg c_7 hf
    refine lv_aload_n hx hb dX6_putSign_10 rfl (lv_at hl 0 rfl) ?_
    refine x_get hx hb hts u_X6_putSign_X6 hown hE hP 0 rfl rfl 1 (by decide) (hts (.fieldLink RX6 13 "DecreasingDiagrams$OutputText" "signs" "[C") (List.mem_of_getElem? (i := 2) rfl)) rfl dX6_putSign_11 ?_
    refine lv_aload_n hx hb dX6_putSign_14 rfl (lv_at hl 0 rfl) ?_
    refine x_get hx hb hts u_X6_putSign_X6 hown hE hP 0 rfl rfl 0 (by decide) (hts (.fieldLink RX6 7 "DecreasingDiagrams$OutputText" "length" "I") (List.mem_of_getElem? (i := 1) rfl)) rfl dX6_putSign_15 ?_
    refine lv_iload_n hx hb dX6_putSign_18 rfl (lv_at hl 1 rfl) ?_
    obtain ⟨hi, hf⟩ := ck_some hf
    obtain ⟨signs_19, e_signs_19, hf⟩ := lt_some hf
    refine x_cast (I' := [[(h, .inr (6, [.int length, .ref a_signs]))], [(a_signs, .inl (G 3, 202, .inl signs_19))]]) hx hb hE hP hN hS 1 rfl hi e_signs_19 rfl dX6_putSign_19 (fun H locs hP hS => ?_)
    refine lv_aload_n hx hb dX6_putSign_20 rfl (lv_at hl 0 rfl) ?_
    refine lv_dup hx hb dX6_putSign_21 rfl ?_
    refine x_get hx hb hts u_X6_putSign_X6 hown hE hP 0 rfl rfl 0 (by decide) (hts (.fieldLink RX6 7 "DecreasingDiagrams$OutputText" "length" "I") (List.mem_of_getElem? (i := 1) rfl)) rfl dX6_putSign_22 ?_
    refine lv_iconst (v := 1) hx hb dX6_putSign_25 (by decide) ?_
    refine lv_iadd hx hb dX6_putSign_26 ?_
    obtain ⟨length_27, e_length_27, hf⟩ := lt_some hf
    refine x_put (w := .int length_27) (ty := .int) (I' := [[(h, .inr (6, [.int length_27, .ref a_signs]))], [(a_signs, .inl (G 3, 202, .inl signs_19))]]) hx hb hts u_X6_putSign_X6 tyX6 tyX6_ok nmX6 hown hE hP hN hS 0 rfl rfl 0 (by decide) (hts (.fieldLink RX6 7 "DecreasingDiagrams$OutputText" "length" "I") (List.mem_of_getElem? (i := 1) rfl)) rfl (congrArg Value.int e_length_27) (by decide +kernel) rfl rfl (Nat.le_of_ble_eq_true rfl) rfl dX6_putSign_27 (fun H locs hP hS => ?_)
    have hf := Option.some.inj hf
    rewrite [← hQ, ← hf]
    exact x_vret hx hb hr hlocks hP hS dX6_putSign_30

def f_X6_putNumber_J18 (v1 : Int32) (length : Int32) (signs : (Nat → Int32)) : Option (Int32 × (Nat → Int32)) :=
  (f_X6_putSign length signs (((48 + (v1 - v1 / 10 * 10)).toUInt32 % 65536).toInt32)).bind (fun r_27 => some (r_27.1, r_27.2))
def f_X6_putNumber (length : Int32) (signs : (Nat → Int32)) (v1 : Int32) : Option (Int32 × (Nat → Int32)) :=
  if v1 < 10 then (f_X6_putNumber_J18 v1 length signs) else ((f_X6_putSign length signs (((48 + (v1 / 10)).toUInt32 % 65536).toInt32)).bind (fun r_15 => f_X6_putNumber_J18 v1 r_15.1 r_15.2))
set_option maxHeartbeats 4000000 in
set_option maxRecDepth 100000 in
theorem k_X6_putNumber (l : Launch) (D : va_G) (G : Nat → ClassId) (fu : Nat) (h : Nat) (a_signs : Nat) (length : Int32) (signs : (Nat → Int32))  (v1 : Int32) (out : Int32 × (Nat → Int32)) (hf : f_X6_putNumber length signs v1 = some out) : xMet l yX6_putNumber wsX6_putNumber (rM 1 21) D G [.ref h, .int v1] [[(h, .inr (6, [.int length, .ref a_signs]))], [(a_signs, .inl (G 3, 202, .inl signs))]] (xQv D [[(h, .inr (6, [.int out.1, .ref a_signs]))], [(a_signs, .inl (G 3, 202, .inl out.2))]]) := by
  refine x_ent (cc := cX6_putNumber) (maxL := 2) (by decide) rfl (Nat.le_of_ble_eq_true rfl) ?_
  intro p e s m blw meth c aa ls args Q H locs hQ hx hb hr hml hown hts hlocks hE hN hl hP hS
  have hown : s.vm.findClass RX6 = some m.cls := hown
  have hl : lv_has ls 2 [(0, .ref h), (1, .int v1)] := hl
  have J18 : ∀ (length : Int32) (signs : (Nat → Int32)) (H : Heap) (locs : List Loc) (ls : Array Slot), xW D aa [[(h, .inr (6, [.int length, .ref a_signs]))], [(a_signs, .inl (G 3, 202, .inl signs))]] H → va_S (xA aa) s.heap H locs → lv_has ls 2 [(0, .ref h), (1, .int v1)] → f_X6_putNumber_J18 v1 length signs = some out → W p l e (rM 1 21) s m args blw meth c H locs 0 0 Q (F0 m 18 ls []) := by
    intro length signs  H locs ls  hP hS hl hf
    refine lv_aload_n hx hb dX6_putNumber_18 rfl (lv_at hl 0 rfl) ?_
    refine lv_bipush (v := 48) hx hb dX6_putNumber_19 (by decide) ?_
    refine lv_iload_n hx hb dX6_putNumber_21 rfl (lv_at hl 1 rfl) ?_
    refine lv_bipush (v := 10) hx hb dX6_putNumber_22 (by decide) ?_
    refine lv_irem hx hb dX6_putNumber_24 (by decide) ?_
    refine lv_iadd hx hb dX6_putNumber_25 ?_
    refine lv_i2c hx hb dX6_putNumber_26 rfl ?_
    obtain ⟨r_27, hr_27, hf⟩ := bd_some hf
    refine x_gov (ps := [0, 1]) (qs := []) (n := 2) (I' := [[(h, .inr (6, [.int r_27.1, .ref a_signs]))], [(a_signs, .inl (G 3, 202, .inl r_27.2))]]) (x_runV (As := [.int (((48 + (v1 - v1 / 10 * 10)).toUInt32 % 65536).toInt32)]) (rest := []) (ps := [0, 1]) ⟨hx, hb, hml, hown, hts⟩ (k_X6_putSign l D G fu h a_signs length signs (((48 + (v1 - v1 / 10 * 10)).toUInt32 % 65536).toInt32) r_27 hr_27) (cwV 1 hts gX6_putNumber_X6_putSign rfl rfl rfl (by decide +kernel) ⟨Nat.le_of_ble_eq_true rfl, Nat.le_of_ble_eq_true rfl⟩) hE hP hN rfl (by decide) 0 rfl rfl rfl hl.1 (Nat.le_of_ble_eq_true rfl) dX6_putNumber_27 ⟨Nat.zero_le _, Nat.zero_le _⟩) hP hN hS rfl rfl rfl rfl rfl (by decide) (fun H locs hP hS => ?_)
    have hf := Option.some.inj hf
    rewrite [← hQ, ← hf]
    exact x_vret hx hb hr hlocks hP hS dX6_putNumber_30
  refine lv_iload_n hx hb dX6_putNumber_0 rfl (lv_at hl 1 rfl) ?_
  refine lv_bipush (v := 10) hx hb dX6_putNumber_1 (by decide) ?_
  refine lv_icmp_lt (tgt := 18) hx hb dX6_putNumber_3 (by decide) (fun c_3 => ?_) (fun c_3 => ?_)
  · have hf := it_pos c_3 hf
    exact J18 length signs  H locs ls  hP hS (lv_sub hl [0, 1] rfl) hf
  · have hf := it_neg c_3 hf
    refine lv_aload_n hx hb dX6_putNumber_6 rfl (lv_at hl 0 rfl) ?_
    refine lv_bipush (v := 48) hx hb dX6_putNumber_7 (by decide) ?_
    refine lv_iload_n hx hb dX6_putNumber_9 rfl (lv_at hl 1 rfl) ?_
    refine lv_bipush (v := 10) hx hb dX6_putNumber_10 (by decide) ?_
    refine lv_idiv hx hb dX6_putNumber_12 (by decide) ?_
    refine lv_iadd hx hb dX6_putNumber_13 ?_
    refine lv_i2c hx hb dX6_putNumber_14 rfl ?_
    obtain ⟨r_15, hr_15, hf⟩ := bd_some hf
    refine x_gov (ps := [0, 1]) (qs := []) (n := 2) (I' := [[(h, .inr (6, [.int r_15.1, .ref a_signs]))], [(a_signs, .inl (G 3, 202, .inl r_15.2))]]) (x_runV (As := [.int (((48 + (v1 / 10)).toUInt32 % 65536).toInt32)]) (rest := []) (ps := [0, 1]) ⟨hx, hb, hml, hown, hts⟩ (k_X6_putSign l D G fu h a_signs length signs (((48 + (v1 / 10)).toUInt32 % 65536).toInt32) r_15 hr_15) (cwV 1 hts gX6_putNumber_X6_putSign rfl rfl rfl (by decide +kernel) ⟨Nat.le_of_ble_eq_true rfl, Nat.le_of_ble_eq_true rfl⟩) hE hP hN rfl (by decide) 0 rfl rfl rfl hl.1 (Nat.le_of_ble_eq_true rfl) dX6_putNumber_15 ⟨Nat.zero_le _, Nat.zero_le _⟩) hP hN hS rfl rfl rfl rfl rfl (by decide) (fun H locs hP hS => ?_)
    exact J18 r_15.1 r_15.2  H locs ls  hP hS (lv_sub hl [0, 1] rfl) hf

set_option maxRecDepth 20000 in
theorem u_X11_writePeak_X11 : ∀ w ∈ wsX110, w ∈ wsX11_writePeak := xx_pl _ [13, 14, 15, 16, 17, 18, 19, 20, 21, 22, 23, 24, 25, 26, 27, 28] (by decide +kernel)
set_option maxRecDepth 20000 in
theorem u_X11_writePeak_X3 : ∀ w ∈ wsX30, w ∈ wsX11_writePeak := xx_pl _ [29, 30, 31, 32, 33, 34] (by decide +kernel)
def f_X11_writePeak (text_length : Int32) (system_sources : (Nat → Int32)) (system_targets : (Nat → Int32)) (text_signs : (Nat → Int32)) (v1 : Int32) (v2 : Int32) : Option (Int32 × (Nat → Int32)) :=
  ck v1 32 ((f_X6_putNumber text_length text_signs (system_targets v1.toNatClampNeg)).bind (fun r_13 => (f_X6_putSign r_13.1 r_13.2 60).bind (fun r_22 => (f_X6_putNumber r_22.1 r_22.2 v1).bind (fun r_30 => (f_X6_putSign r_30.1 r_30.2 45).bind (fun r_39 => ck v1 32 ((f_X6_putNumber r_39.1 r_39.2 (system_sources v1.toNatClampNeg)).bind (fun r_55 => (f_X6_putSign r_55.1 r_55.2 45).bind (fun r_64 => (f_X6_putNumber r_64.1 r_64.2 v2).bind (fun r_72 => (f_X6_putSign r_72.1 r_72.2 62).bind (fun r_81 => ck v2 32 ((f_X6_putNumber r_81.1 r_81.2 (system_targets v2.toNatClampNeg)).bind (fun r_97 => some (r_97.1, r_97.2)))))))))))))
set_option maxHeartbeats 4000000 in
set_option maxRecDepth 100000 in
theorem k_X11_writePeak (l : Launch) (D : va_G) (G : Nat → ClassId) (fu : Nat) (h : Nat) (h_order : Nat) (h_system : Nat) (h_rules : Nat) (h_savedOrder : Nat) (h_savedSystem : Nat) (h_savedRules : Nat) (h_peaks : Nat) (h_leftPaths : Nat) (h_rightPaths : Nat) (h_text : Nat) (h_labellings : Nat) (h_input : Nat) (h_explorer : Nat) (h_arrays : Nat) (a_reach : Nat) (a_system_words : Nat) (a_system_sources : Nat) (a_system_targets : Nat) (a_system_labels : Nat) (a_text_signs : Nat) (snapshotSaved : Int32) (system_objects : Int32) (system_steps : Int32) (text_length : Int32) (system_sources : (Nat → Int32)) (system_targets : (Nat → Int32)) (text_signs : (Nat → Int32))  (v1 : Int32) (v2 : Int32) (out : Int32 × (Nat → Int32)) (hf : f_X11_writePeak text_length system_sources system_targets text_signs v1 v2 = some out) : xMet l yX11_writePeak wsX11_writePeak (rM 2 42) D G [.ref h, .int v1, .int v2] [[(h, .inr (10, [.ref h_order, .ref h_system, .ref h_rules, .ref h_savedOrder, .ref h_savedSystem, .ref h_savedRules, .int snapshotSaved, .ref h_peaks, .ref h_leftPaths, .ref h_rightPaths, .ref h_text, .ref h_labellings, .ref h_input, .ref h_explorer, .ref h_arrays, .ref a_reach]))], [(h_system, .inr (3, [.int system_objects, .ref a_system_words, .int system_steps, .ref a_system_sources, .ref a_system_targets, .ref a_system_labels]))], [(a_system_sources, .inl (G 0, 32, .inl system_sources))], [(a_system_targets, .inl (G 0, 32, .inl system_targets))], [(h_text, .inr (6, [.int text_length, .ref a_text_signs]))], [(a_text_signs, .inl (G 3, 202, .inl text_signs))]] (xQv D [[(h, .inr (10, [.ref h_order, .ref h_system, .ref h_rules, .ref h_savedOrder, .ref h_savedSystem, .ref h_savedRules, .int snapshotSaved, .ref h_peaks, .ref h_leftPaths, .ref h_rightPaths, .ref h_text, .ref h_labellings, .ref h_input, .ref h_explorer, .ref h_arrays, .ref a_reach]))], [(h_system, .inr (3, [.int system_objects, .ref a_system_words, .int system_steps, .ref a_system_sources, .ref a_system_targets, .ref a_system_labels]))], [(a_system_sources, .inl (G 0, 32, .inl system_sources))], [(a_system_targets, .inl (G 0, 32, .inl system_targets))], [(h_text, .inr (6, [.int out.1, .ref a_text_signs]))], [(a_text_signs, .inl (G 3, 202, .inl out.2))]]) := by
  refine x_ent (cc := cX11_writePeak) (maxL := 3) (by decide) rfl (Nat.le_of_ble_eq_true rfl) ?_
  intro p e s m blw meth c aa ls args Q H locs hQ hx hb hr hml hown hts hlocks hE hN hl hP hS
  have hown : s.vm.findClass RX11 = some m.cls := hown
  have hl : lv_has ls 3 [(0, .ref h), (1, .int v1), (2, .int v2)] := hl
  refine lv_aload_n hx hb dX11_writePeak_0 rfl (lv_at hl 0 rfl) ?_
  refine x_get hx hb hts u_X11_writePeak_X11 hown hE hP 0 rfl rfl 10 (by decide) (hts (.fieldLink RX11 63 "DecreasingDiagrams" "text" "LDecreasingDiagrams$OutputText;") (List.mem_of_getElem? (i := 1) rfl)) rfl dX11_writePeak_1 ?_
  refine lv_aload_n hx hb dX11_writePeak_4 rfl (lv_at hl 0 rfl) ?_
  refine x_get hx hb hts u_X11_writePeak_X11 hown hE hP 0 rfl rfl 1 (by decide) (hts (.fieldLink RX11 19 "DecreasingDiagrams" "system" "LDecreasingDiagrams$LabelledSystem;") (List.mem_of_getElem? (i := 2) rfl)) rfl dX11_writePeak_5 ?_
  refine x_getN hx hb hts u_X11_writePeak_X3 hown hE hP 1 rfl rfl 4 (by decide) (hE.2 (.fieldLinkNest RX11 158 "DecreasingDiagrams$LabelledSystem" "targets" "[I" RX11) (List.mem_of_getElem? (i := 17) rfl)) rfl dX11_writePeak_8 ?_
  refine lv_iload_n hx hb dX11_writePeak_11 rfl (lv_at hl 1 rfl) ?_
  obtain ⟨hi, hf⟩ := ck_some hf
  refine x_iald hx hb hE hP 3 rfl hi dX11_writePeak_12 ?_
  obtain ⟨r_13, hr_13, hf⟩ := bd_some hf
  refine x_gov (ps := [4, 5]) (qs := [0, 1, 2, 3]) (n := 6) (I' := [[(h, .inr (10, [.ref h_order, .ref h_system, .ref h_rules, .ref h_savedOrder, .ref h_savedSystem, .ref h_savedRules, .int snapshotSaved, .ref h_peaks, .ref h_leftPaths, .ref h_rightPaths, .ref h_text, .ref h_labellings, .ref h_input, .ref h_explorer, .ref h_arrays, .ref a_reach]))], [(h_system, .inr (3, [.int system_objects, .ref a_system_words, .int system_steps, .ref a_system_sources, .ref a_system_targets, .ref a_system_labels]))], [(a_system_sources, .inl (G 0, 32, .inl system_sources))], [(a_system_targets, .inl (G 0, 32, .inl system_targets))], [(h_text, .inr (6, [.int r_13.1, .ref a_text_signs]))], [(a_text_signs, .inl (G 3, 202, .inl r_13.2))]]) (x_runVN (As := [.int (system_targets v1.toNatClampNeg)]) (rest := []) (ps := [4, 5]) ⟨hx, hb, hml, hown, hts⟩ (k_X6_putNumber l D G fu h_text a_text_signs text_length text_signs (system_targets v1.toNatClampNeg) r_13 hr_13) ⟨va_cnB 1 hts gX11_writePeak_X6_putNumber_n360 rfl rfl rfl (hE.2 (.methodLinkNest RX11 360 yX6_putNumber RX11) (List.mem_of_getElem? (i := 85) rfl)) (hts (.initialized RX6) (List.mem_of_getElem? (i := 4) rfl)) (by decide +kernel) ⟨Nat.le_of_ble_eq_true rfl, Nat.le_of_ble_eq_true rfl⟩, (hts (.instanceMethod yX6_putNumber) (List.mem_of_getElem? (i := 3) rfl)), (hts (.selects RX6 yX6_putNumber yX6_putNumber) (List.mem_of_getElem? (i := 5) rfl))⟩ hE hP hN rfl (by decide) 4 rfl rfl rfl hl.1 (Nat.le_of_ble_eq_true rfl) dX11_writePeak_13 ⟨Nat.zero_le _, Nat.zero_le _⟩) hP hN hS rfl rfl rfl rfl rfl (by decide) (fun H locs hP hS => ?_)
  refine lv_aload_n hx hb dX11_writePeak_16 rfl (lv_at hl 0 rfl) ?_
  refine x_get hx hb hts u_X11_writePeak_X11 hown hE hP 0 rfl rfl 10 (by decide) (hts (.fieldLink RX11 63 "DecreasingDiagrams" "text" "LDecreasingDiagrams$OutputText;") (List.mem_of_getElem? (i := 1) rfl)) rfl dX11_writePeak_17 ?_
  refine lv_bipush (v := 60) hx hb dX11_writePeak_20 (by decide) ?_
  obtain ⟨r_22, hr_22, hf⟩ := bd_some hf
  refine x_gov (ps := [4, 5]) (qs := [0, 1, 2, 3]) (n := 6) (I' := [[(h, .inr (10, [.ref h_order, .ref h_system, .ref h_rules, .ref h_savedOrder, .ref h_savedSystem, .ref h_savedRules, .int snapshotSaved, .ref h_peaks, .ref h_leftPaths, .ref h_rightPaths, .ref h_text, .ref h_labellings, .ref h_input, .ref h_explorer, .ref h_arrays, .ref a_reach]))], [(h_system, .inr (3, [.int system_objects, .ref a_system_words, .int system_steps, .ref a_system_sources, .ref a_system_targets, .ref a_system_labels]))], [(a_system_sources, .inl (G 0, 32, .inl system_sources))], [(a_system_targets, .inl (G 0, 32, .inl system_targets))], [(h_text, .inr (6, [.int r_22.1, .ref a_text_signs]))], [(a_text_signs, .inl (G 3, 202, .inl r_22.2))]]) (x_runVN (As := [.int 60]) (rest := []) (ps := [4, 5]) ⟨hx, hb, hml, hown, hts⟩ (k_X6_putSign l D G fu h_text a_text_signs r_13.1 r_13.2 60 r_22 hr_22) ⟨va_cnB 1 hts gX11_writePeak_X6_putSign_n239 rfl rfl rfl (hE.2 (.methodLinkNest RX11 239 yX6_putSign RX11) (List.mem_of_getElem? (i := 86) rfl)) (hts (.initialized RX6) (List.mem_of_getElem? (i := 4) rfl)) (by decide +kernel) ⟨Nat.le_of_ble_eq_true rfl, Nat.le_of_ble_eq_true rfl⟩, (hts (.instanceMethod yX6_putSign) (List.mem_of_getElem? (i := 8) rfl)), (hts (.selects RX6 yX6_putSign yX6_putSign) (List.mem_of_getElem? (i := 9) rfl))⟩ hE hP hN rfl (by decide) 4 rfl rfl rfl hl.1 (Nat.le_of_ble_eq_true rfl) dX11_writePeak_22 ⟨Nat.zero_le _, Nat.zero_le _⟩) hP hN hS rfl rfl rfl rfl rfl (by decide) (fun H locs hP hS => ?_)
  refine lv_aload_n hx hb dX11_writePeak_25 rfl (lv_at hl 0 rfl) ?_
  refine x_get hx hb hts u_X11_writePeak_X11 hown hE hP 0 rfl rfl 10 (by decide) (hts (.fieldLink RX11 63 "DecreasingDiagrams" "text" "LDecreasingDiagrams$OutputText;") (List.mem_of_getElem? (i := 1) rfl)) rfl dX11_writePeak_26 ?_
  refine lv_iload_n hx hb dX11_writePeak_29 rfl (lv_at hl 1 rfl) ?_
  obtain ⟨r_30, hr_30, hf⟩ := bd_some hf
  refine x_gov (ps := [4, 5]) (qs := [0, 1, 2, 3]) (n := 6) (I' := [[(h, .inr (10, [.ref h_order, .ref h_system, .ref h_rules, .ref h_savedOrder, .ref h_savedSystem, .ref h_savedRules, .int snapshotSaved, .ref h_peaks, .ref h_leftPaths, .ref h_rightPaths, .ref h_text, .ref h_labellings, .ref h_input, .ref h_explorer, .ref h_arrays, .ref a_reach]))], [(h_system, .inr (3, [.int system_objects, .ref a_system_words, .int system_steps, .ref a_system_sources, .ref a_system_targets, .ref a_system_labels]))], [(a_system_sources, .inl (G 0, 32, .inl system_sources))], [(a_system_targets, .inl (G 0, 32, .inl system_targets))], [(h_text, .inr (6, [.int r_30.1, .ref a_text_signs]))], [(a_text_signs, .inl (G 3, 202, .inl r_30.2))]]) (x_runVN (As := [.int v1]) (rest := []) (ps := [4, 5]) ⟨hx, hb, hml, hown, hts⟩ (k_X6_putNumber l D G fu h_text a_text_signs r_22.1 r_22.2 v1 r_30 hr_30) ⟨va_cnB 1 hts gX11_writePeak_X6_putNumber_n360 rfl rfl rfl (hE.2 (.methodLinkNest RX11 360 yX6_putNumber RX11) (List.mem_of_getElem? (i := 85) rfl)) (hts (.initialized RX6) (List.mem_of_getElem? (i := 4) rfl)) (by decide +kernel) ⟨Nat.le_of_ble_eq_true rfl, Nat.le_of_ble_eq_true rfl⟩, (hts (.instanceMethod yX6_putNumber) (List.mem_of_getElem? (i := 3) rfl)), (hts (.selects RX6 yX6_putNumber yX6_putNumber) (List.mem_of_getElem? (i := 5) rfl))⟩ hE hP hN rfl (by decide) 4 rfl rfl rfl hl.1 (Nat.le_of_ble_eq_true rfl) dX11_writePeak_30 ⟨Nat.zero_le _, Nat.zero_le _⟩) hP hN hS rfl rfl rfl rfl rfl (by decide) (fun H locs hP hS => ?_)
  refine lv_aload_n hx hb dX11_writePeak_33 rfl (lv_at hl 0 rfl) ?_
  refine x_get hx hb hts u_X11_writePeak_X11 hown hE hP 0 rfl rfl 10 (by decide) (hts (.fieldLink RX11 63 "DecreasingDiagrams" "text" "LDecreasingDiagrams$OutputText;") (List.mem_of_getElem? (i := 1) rfl)) rfl dX11_writePeak_34 ?_
  refine lv_bipush (v := 45) hx hb dX11_writePeak_37 (by decide) ?_
  obtain ⟨r_39, hr_39, hf⟩ := bd_some hf
  refine x_gov (ps := [4, 5]) (qs := [0, 1, 2, 3]) (n := 6) (I' := [[(h, .inr (10, [.ref h_order, .ref h_system, .ref h_rules, .ref h_savedOrder, .ref h_savedSystem, .ref h_savedRules, .int snapshotSaved, .ref h_peaks, .ref h_leftPaths, .ref h_rightPaths, .ref h_text, .ref h_labellings, .ref h_input, .ref h_explorer, .ref h_arrays, .ref a_reach]))], [(h_system, .inr (3, [.int system_objects, .ref a_system_words, .int system_steps, .ref a_system_sources, .ref a_system_targets, .ref a_system_labels]))], [(a_system_sources, .inl (G 0, 32, .inl system_sources))], [(a_system_targets, .inl (G 0, 32, .inl system_targets))], [(h_text, .inr (6, [.int r_39.1, .ref a_text_signs]))], [(a_text_signs, .inl (G 3, 202, .inl r_39.2))]]) (x_runVN (As := [.int 45]) (rest := []) (ps := [4, 5]) ⟨hx, hb, hml, hown, hts⟩ (k_X6_putSign l D G fu h_text a_text_signs r_30.1 r_30.2 45 r_39 hr_39) ⟨va_cnB 1 hts gX11_writePeak_X6_putSign_n239 rfl rfl rfl (hE.2 (.methodLinkNest RX11 239 yX6_putSign RX11) (List.mem_of_getElem? (i := 86) rfl)) (hts (.initialized RX6) (List.mem_of_getElem? (i := 4) rfl)) (by decide +kernel) ⟨Nat.le_of_ble_eq_true rfl, Nat.le_of_ble_eq_true rfl⟩, (hts (.instanceMethod yX6_putSign) (List.mem_of_getElem? (i := 8) rfl)), (hts (.selects RX6 yX6_putSign yX6_putSign) (List.mem_of_getElem? (i := 9) rfl))⟩ hE hP hN rfl (by decide) 4 rfl rfl rfl hl.1 (Nat.le_of_ble_eq_true rfl) dX11_writePeak_39 ⟨Nat.zero_le _, Nat.zero_le _⟩) hP hN hS rfl rfl rfl rfl rfl (by decide) (fun H locs hP hS => ?_)
  refine lv_aload_n hx hb dX11_writePeak_42 rfl (lv_at hl 0 rfl) ?_
  refine x_get hx hb hts u_X11_writePeak_X11 hown hE hP 0 rfl rfl 10 (by decide) (hts (.fieldLink RX11 63 "DecreasingDiagrams" "text" "LDecreasingDiagrams$OutputText;") (List.mem_of_getElem? (i := 1) rfl)) rfl dX11_writePeak_43 ?_
  refine lv_aload_n hx hb dX11_writePeak_46 rfl (lv_at hl 0 rfl) ?_
  refine x_get hx hb hts u_X11_writePeak_X11 hown hE hP 0 rfl rfl 1 (by decide) (hts (.fieldLink RX11 19 "DecreasingDiagrams" "system" "LDecreasingDiagrams$LabelledSystem;") (List.mem_of_getElem? (i := 2) rfl)) rfl dX11_writePeak_47 ?_
  refine x_getN hx hb hts u_X11_writePeak_X3 hown hE hP 1 rfl rfl 3 (by decide) (hE.2 (.fieldLinkNest RX11 155 "DecreasingDiagrams$LabelledSystem" "sources" "[I" RX11) (List.mem_of_getElem? (i := 14) rfl)) rfl dX11_writePeak_50 ?_
  refine lv_iload_n hx hb dX11_writePeak_53 rfl (lv_at hl 1 rfl) ?_
  obtain ⟨hi, hf⟩ := ck_some hf
  refine x_iald hx hb hE hP 2 rfl hi dX11_writePeak_54 ?_
  obtain ⟨r_55, hr_55, hf⟩ := bd_some hf
  refine x_gov (ps := [4, 5]) (qs := [0, 1, 2, 3]) (n := 6) (I' := [[(h, .inr (10, [.ref h_order, .ref h_system, .ref h_rules, .ref h_savedOrder, .ref h_savedSystem, .ref h_savedRules, .int snapshotSaved, .ref h_peaks, .ref h_leftPaths, .ref h_rightPaths, .ref h_text, .ref h_labellings, .ref h_input, .ref h_explorer, .ref h_arrays, .ref a_reach]))], [(h_system, .inr (3, [.int system_objects, .ref a_system_words, .int system_steps, .ref a_system_sources, .ref a_system_targets, .ref a_system_labels]))], [(a_system_sources, .inl (G 0, 32, .inl system_sources))], [(a_system_targets, .inl (G 0, 32, .inl system_targets))], [(h_text, .inr (6, [.int r_55.1, .ref a_text_signs]))], [(a_text_signs, .inl (G 3, 202, .inl r_55.2))]]) (x_runVN (As := [.int (system_sources v1.toNatClampNeg)]) (rest := []) (ps := [4, 5]) ⟨hx, hb, hml, hown, hts⟩ (k_X6_putNumber l D G fu h_text a_text_signs r_39.1 r_39.2 (system_sources v1.toNatClampNeg) r_55 hr_55) ⟨va_cnB 1 hts gX11_writePeak_X6_putNumber_n360 rfl rfl rfl (hE.2 (.methodLinkNest RX11 360 yX6_putNumber RX11) (List.mem_of_getElem? (i := 85) rfl)) (hts (.initialized RX6) (List.mem_of_getElem? (i := 4) rfl)) (by decide +kernel) ⟨Nat.le_of_ble_eq_true rfl, Nat.le_of_ble_eq_true rfl⟩, (hts (.instanceMethod yX6_putNumber) (List.mem_of_getElem? (i := 3) rfl)), (hts (.selects RX6 yX6_putNumber yX6_putNumber) (List.mem_of_getElem? (i := 5) rfl))⟩ hE hP hN rfl (by decide) 4 rfl rfl rfl hl.1 (Nat.le_of_ble_eq_true rfl) dX11_writePeak_55 ⟨Nat.zero_le _, Nat.zero_le _⟩) hP hN hS rfl rfl rfl rfl rfl (by decide) (fun H locs hP hS => ?_)
  refine lv_aload_n hx hb dX11_writePeak_58 rfl (lv_at hl 0 rfl) ?_
  refine x_get hx hb hts u_X11_writePeak_X11 hown hE hP 0 rfl rfl 10 (by decide) (hts (.fieldLink RX11 63 "DecreasingDiagrams" "text" "LDecreasingDiagrams$OutputText;") (List.mem_of_getElem? (i := 1) rfl)) rfl dX11_writePeak_59 ?_
  refine lv_bipush (v := 45) hx hb dX11_writePeak_62 (by decide) ?_
  obtain ⟨r_64, hr_64, hf⟩ := bd_some hf
  refine x_gov (ps := [4, 5]) (qs := [0, 1, 2, 3]) (n := 6) (I' := [[(h, .inr (10, [.ref h_order, .ref h_system, .ref h_rules, .ref h_savedOrder, .ref h_savedSystem, .ref h_savedRules, .int snapshotSaved, .ref h_peaks, .ref h_leftPaths, .ref h_rightPaths, .ref h_text, .ref h_labellings, .ref h_input, .ref h_explorer, .ref h_arrays, .ref a_reach]))], [(h_system, .inr (3, [.int system_objects, .ref a_system_words, .int system_steps, .ref a_system_sources, .ref a_system_targets, .ref a_system_labels]))], [(a_system_sources, .inl (G 0, 32, .inl system_sources))], [(a_system_targets, .inl (G 0, 32, .inl system_targets))], [(h_text, .inr (6, [.int r_64.1, .ref a_text_signs]))], [(a_text_signs, .inl (G 3, 202, .inl r_64.2))]]) (x_runVN (As := [.int 45]) (rest := []) (ps := [4, 5]) ⟨hx, hb, hml, hown, hts⟩ (k_X6_putSign l D G fu h_text a_text_signs r_55.1 r_55.2 45 r_64 hr_64) ⟨va_cnB 1 hts gX11_writePeak_X6_putSign_n239 rfl rfl rfl (hE.2 (.methodLinkNest RX11 239 yX6_putSign RX11) (List.mem_of_getElem? (i := 86) rfl)) (hts (.initialized RX6) (List.mem_of_getElem? (i := 4) rfl)) (by decide +kernel) ⟨Nat.le_of_ble_eq_true rfl, Nat.le_of_ble_eq_true rfl⟩, (hts (.instanceMethod yX6_putSign) (List.mem_of_getElem? (i := 8) rfl)), (hts (.selects RX6 yX6_putSign yX6_putSign) (List.mem_of_getElem? (i := 9) rfl))⟩ hE hP hN rfl (by decide) 4 rfl rfl rfl hl.1 (Nat.le_of_ble_eq_true rfl) dX11_writePeak_64 ⟨Nat.zero_le _, Nat.zero_le _⟩) hP hN hS rfl rfl rfl rfl rfl (by decide) (fun H locs hP hS => ?_)
  refine lv_aload_n hx hb dX11_writePeak_67 rfl (lv_at hl 0 rfl) ?_
  refine x_get hx hb hts u_X11_writePeak_X11 hown hE hP 0 rfl rfl 10 (by decide) (hts (.fieldLink RX11 63 "DecreasingDiagrams" "text" "LDecreasingDiagrams$OutputText;") (List.mem_of_getElem? (i := 1) rfl)) rfl dX11_writePeak_68 ?_
  refine lv_iload_n hx hb dX11_writePeak_71 rfl (lv_at hl 2 rfl) ?_
  obtain ⟨r_72, hr_72, hf⟩ := bd_some hf
  refine x_gov (ps := [4, 5]) (qs := [0, 1, 2, 3]) (n := 6) (I' := [[(h, .inr (10, [.ref h_order, .ref h_system, .ref h_rules, .ref h_savedOrder, .ref h_savedSystem, .ref h_savedRules, .int snapshotSaved, .ref h_peaks, .ref h_leftPaths, .ref h_rightPaths, .ref h_text, .ref h_labellings, .ref h_input, .ref h_explorer, .ref h_arrays, .ref a_reach]))], [(h_system, .inr (3, [.int system_objects, .ref a_system_words, .int system_steps, .ref a_system_sources, .ref a_system_targets, .ref a_system_labels]))], [(a_system_sources, .inl (G 0, 32, .inl system_sources))], [(a_system_targets, .inl (G 0, 32, .inl system_targets))], [(h_text, .inr (6, [.int r_72.1, .ref a_text_signs]))], [(a_text_signs, .inl (G 3, 202, .inl r_72.2))]]) (x_runVN (As := [.int v2]) (rest := []) (ps := [4, 5]) ⟨hx, hb, hml, hown, hts⟩ (k_X6_putNumber l D G fu h_text a_text_signs r_64.1 r_64.2 v2 r_72 hr_72) ⟨va_cnB 1 hts gX11_writePeak_X6_putNumber_n360 rfl rfl rfl (hE.2 (.methodLinkNest RX11 360 yX6_putNumber RX11) (List.mem_of_getElem? (i := 85) rfl)) (hts (.initialized RX6) (List.mem_of_getElem? (i := 4) rfl)) (by decide +kernel) ⟨Nat.le_of_ble_eq_true rfl, Nat.le_of_ble_eq_true rfl⟩, (hts (.instanceMethod yX6_putNumber) (List.mem_of_getElem? (i := 3) rfl)), (hts (.selects RX6 yX6_putNumber yX6_putNumber) (List.mem_of_getElem? (i := 5) rfl))⟩ hE hP hN rfl (by decide) 4 rfl rfl rfl hl.1 (Nat.le_of_ble_eq_true rfl) dX11_writePeak_72 ⟨Nat.zero_le _, Nat.zero_le _⟩) hP hN hS rfl rfl rfl rfl rfl (by decide) (fun H locs hP hS => ?_)
  refine lv_aload_n hx hb dX11_writePeak_75 rfl (lv_at hl 0 rfl) ?_
  refine x_get hx hb hts u_X11_writePeak_X11 hown hE hP 0 rfl rfl 10 (by decide) (hts (.fieldLink RX11 63 "DecreasingDiagrams" "text" "LDecreasingDiagrams$OutputText;") (List.mem_of_getElem? (i := 1) rfl)) rfl dX11_writePeak_76 ?_
  refine lv_bipush (v := 62) hx hb dX11_writePeak_79 (by decide) ?_
  obtain ⟨r_81, hr_81, hf⟩ := bd_some hf
  refine x_gov (ps := [4, 5]) (qs := [0, 1, 2, 3]) (n := 6) (I' := [[(h, .inr (10, [.ref h_order, .ref h_system, .ref h_rules, .ref h_savedOrder, .ref h_savedSystem, .ref h_savedRules, .int snapshotSaved, .ref h_peaks, .ref h_leftPaths, .ref h_rightPaths, .ref h_text, .ref h_labellings, .ref h_input, .ref h_explorer, .ref h_arrays, .ref a_reach]))], [(h_system, .inr (3, [.int system_objects, .ref a_system_words, .int system_steps, .ref a_system_sources, .ref a_system_targets, .ref a_system_labels]))], [(a_system_sources, .inl (G 0, 32, .inl system_sources))], [(a_system_targets, .inl (G 0, 32, .inl system_targets))], [(h_text, .inr (6, [.int r_81.1, .ref a_text_signs]))], [(a_text_signs, .inl (G 3, 202, .inl r_81.2))]]) (x_runVN (As := [.int 62]) (rest := []) (ps := [4, 5]) ⟨hx, hb, hml, hown, hts⟩ (k_X6_putSign l D G fu h_text a_text_signs r_72.1 r_72.2 62 r_81 hr_81) ⟨va_cnB 1 hts gX11_writePeak_X6_putSign_n239 rfl rfl rfl (hE.2 (.methodLinkNest RX11 239 yX6_putSign RX11) (List.mem_of_getElem? (i := 86) rfl)) (hts (.initialized RX6) (List.mem_of_getElem? (i := 4) rfl)) (by decide +kernel) ⟨Nat.le_of_ble_eq_true rfl, Nat.le_of_ble_eq_true rfl⟩, (hts (.instanceMethod yX6_putSign) (List.mem_of_getElem? (i := 8) rfl)), (hts (.selects RX6 yX6_putSign yX6_putSign) (List.mem_of_getElem? (i := 9) rfl))⟩ hE hP hN rfl (by decide) 4 rfl rfl rfl hl.1 (Nat.le_of_ble_eq_true rfl) dX11_writePeak_81 ⟨Nat.zero_le _, Nat.zero_le _⟩) hP hN hS rfl rfl rfl rfl rfl (by decide) (fun H locs hP hS => ?_)
  refine lv_aload_n hx hb dX11_writePeak_84 rfl (lv_at hl 0 rfl) ?_
  refine x_get hx hb hts u_X11_writePeak_X11 hown hE hP 0 rfl rfl 10 (by decide) (hts (.fieldLink RX11 63 "DecreasingDiagrams" "text" "LDecreasingDiagrams$OutputText;") (List.mem_of_getElem? (i := 1) rfl)) rfl dX11_writePeak_85 ?_
  refine lv_aload_n hx hb dX11_writePeak_88 rfl (lv_at hl 0 rfl) ?_
  refine x_get hx hb hts u_X11_writePeak_X11 hown hE hP 0 rfl rfl 1 (by decide) (hts (.fieldLink RX11 19 "DecreasingDiagrams" "system" "LDecreasingDiagrams$LabelledSystem;") (List.mem_of_getElem? (i := 2) rfl)) rfl dX11_writePeak_89 ?_
  refine x_getN hx hb hts u_X11_writePeak_X3 hown hE hP 1 rfl rfl 4 (by decide) (hE.2 (.fieldLinkNest RX11 158 "DecreasingDiagrams$LabelledSystem" "targets" "[I" RX11) (List.mem_of_getElem? (i := 17) rfl)) rfl dX11_writePeak_92 ?_
  refine lv_iload_n hx hb dX11_writePeak_95 rfl (lv_at hl 2 rfl) ?_
  obtain ⟨hi, hf⟩ := ck_some hf
  refine x_iald hx hb hE hP 3 rfl hi dX11_writePeak_96 ?_
  obtain ⟨r_97, hr_97, hf⟩ := bd_some hf
  refine x_gov (ps := [4, 5]) (qs := [0, 1, 2, 3]) (n := 6) (I' := [[(h, .inr (10, [.ref h_order, .ref h_system, .ref h_rules, .ref h_savedOrder, .ref h_savedSystem, .ref h_savedRules, .int snapshotSaved, .ref h_peaks, .ref h_leftPaths, .ref h_rightPaths, .ref h_text, .ref h_labellings, .ref h_input, .ref h_explorer, .ref h_arrays, .ref a_reach]))], [(h_system, .inr (3, [.int system_objects, .ref a_system_words, .int system_steps, .ref a_system_sources, .ref a_system_targets, .ref a_system_labels]))], [(a_system_sources, .inl (G 0, 32, .inl system_sources))], [(a_system_targets, .inl (G 0, 32, .inl system_targets))], [(h_text, .inr (6, [.int r_97.1, .ref a_text_signs]))], [(a_text_signs, .inl (G 3, 202, .inl r_97.2))]]) (x_runVN (As := [.int (system_targets v2.toNatClampNeg)]) (rest := []) (ps := [4, 5]) ⟨hx, hb, hml, hown, hts⟩ (k_X6_putNumber l D G fu h_text a_text_signs r_81.1 r_81.2 (system_targets v2.toNatClampNeg) r_97 hr_97) ⟨va_cnB 1 hts gX11_writePeak_X6_putNumber_n360 rfl rfl rfl (hE.2 (.methodLinkNest RX11 360 yX6_putNumber RX11) (List.mem_of_getElem? (i := 85) rfl)) (hts (.initialized RX6) (List.mem_of_getElem? (i := 4) rfl)) (by decide +kernel) ⟨Nat.le_of_ble_eq_true rfl, Nat.le_of_ble_eq_true rfl⟩, (hts (.instanceMethod yX6_putNumber) (List.mem_of_getElem? (i := 3) rfl)), (hts (.selects RX6 yX6_putNumber yX6_putNumber) (List.mem_of_getElem? (i := 5) rfl))⟩ hE hP hN rfl (by decide) 4 rfl rfl rfl hl.1 (Nat.le_of_ble_eq_true rfl) dX11_writePeak_97 ⟨Nat.zero_le _, Nat.zero_le _⟩) hP hN hS rfl rfl rfl rfl rfl (by decide) (fun H locs hP hS => ?_)
  have hf := Option.some.inj hf
  rewrite [← hQ, ← hf]
  exact x_vret hx hb hr hlocks hP hS dX11_writePeak_100

set_option maxRecDepth 20000 in
theorem u_X9_stepTo_X9 : ∀ w ∈ wsX90, w ∈ wsX9_stepTo := xx_pl _ [14, 15, 16, 17, 18, 19, 20, 21, 22, 23] (by decide +kernel)
def f_X9_stepTo_J52 (arrivals : (Nat → Int32)) (v4 : Int32) : Option (Int32) :=
  ck v4 32 (some (arrivals v4.toNatClampNeg))
def f_X9_stepTo_L31 (arrivals : (Nat → Int32)) (previous : (Nat → Int32)) (v2 : Int32) (rec_31 : Int32 → Int32 → Option (Int32)) (v4 : Int32) (v5 : Int32) : Option (Int32) :=
  if v5 ≤ v2 then (f_X9_stepTo_J52 arrivals v4) else (ck v4 32 (lt (previous v4.toNatClampNeg) (fun v4_44 => lt (v5 + (-1)) (fun v5_46 => rec_31 v4_44 v5_46))))
def f_X9_stepTo (fu : Nat) (arrivals : (Nat → Int32)) (firstPlaces : (Nat → Int32)) (lengths : (Nat → Int32)) (previous : (Nat → Int32)) (v1 : Int32) (v2 : Int32) : Option (Int32) :=
  (f_X9_lengthTo firstPlaces lengths v1).bind (fun r_2 => lt r_2 (fun v3_5 => if v2 < 0 then (some (-2)) else (if v2 < v3_5 then (ck v1 16 (lt (firstPlaces v1.toNatClampNeg) (fun v4_24 => lt (v3_5 - 1) (fun v5_29 => lp (τ := Int32 → Int32 → Option (Int32)) (fun _ _ => none) (f_X9_stepTo_L31 arrivals previous v2) fu v4_24 v5_29)))) else (some (-2)))))
set_option maxHeartbeats 4000000 in
set_option maxRecDepth 100000 in
theorem k_X9_stepTo (l : Launch) (D : va_G) (G : Nat → ClassId) (fu : Nat) (h : Nat) (a_objects : Nat) (a_parts : Nat) (a_lengths : Nat) (a_previous : Nat) (a_arrivals : Nat) (a_firstPlaces : Nat) (belowOwn : Int32) (belowEither : Int32) (other : Int32) (places : Int32) (arrivals : (Nat → Int32)) (firstPlaces : (Nat → Int32)) (lengths : (Nat → Int32)) (previous : (Nat → Int32))  (v1 : Int32) (v2 : Int32) (out : Int32) (hf : f_X9_stepTo fu arrivals firstPlaces lengths previous v1 v2 = some out) : xMet l yX9_stepTo wsX9_stepTo (rM 2 42) D G [.ref h, .int v1, .int v2] [[(h, .inr (9, [.int belowOwn, .int belowEither, .int other, .int places, .ref a_objects, .ref a_parts, .ref a_lengths, .ref a_previous, .ref a_arrivals, .ref a_firstPlaces]))], [(a_arrivals, .inl (G 0, 32, .inl arrivals))], [(a_firstPlaces, .inl (G 0, 16, .inl firstPlaces))], [(a_lengths, .inl (G 0, 32, .inl lengths))], [(a_previous, .inl (G 0, 32, .inl previous))]] (xQi D [[(h, .inr (9, [.int belowOwn, .int belowEither, .int other, .int places, .ref a_objects, .ref a_parts, .ref a_lengths, .ref a_previous, .ref a_arrivals, .ref a_firstPlaces]))], [(a_arrivals, .inl (G 0, 32, .inl arrivals))], [(a_firstPlaces, .inl (G 0, 16, .inl firstPlaces))], [(a_lengths, .inl (G 0, 32, .inl lengths))], [(a_previous, .inl (G 0, 32, .inl previous))]] out) := by
  refine x_ent (cc := cX9_stepTo) (maxL := 6) (by decide) rfl (Nat.le_of_ble_eq_true rfl) ?_
  intro p e s m blw meth c aa ls args Q H locs hQ hx hb hr hml hown hts hlocks hE hN hl hP hS
  have hown : s.vm.findClass RX9 = some m.cls := hown
  have hl : lv_has ls 6 [(0, .ref h), (1, .int v1), (2, .int v2)] := hl
  have J52 : ∀ (v4 : Int32) (H : Heap) (locs : List Loc) (ls : Array Slot), xW D aa [[(h, .inr (9, [.int belowOwn, .int belowEither, .int other, .int places, .ref a_objects, .ref a_parts, .ref a_lengths, .ref a_previous, .ref a_arrivals, .ref a_firstPlaces]))], [(a_arrivals, .inl (G 0, 32, .inl arrivals))], [(a_firstPlaces, .inl (G 0, 16, .inl firstPlaces))], [(a_lengths, .inl (G 0, 32, .inl lengths))], [(a_previous, .inl (G 0, 32, .inl previous))]] H → va_S (xA aa) s.heap H locs → lv_has ls 6 [(0, .ref h), (4, .int v4)] → f_X9_stepTo_J52 arrivals v4 = some out → W p l e (rM 2 42) s m args blw meth c H locs 0 0 Q (F0 m 52 ls []) := by
    intro v4  H locs ls  hP hS hl hf
    refine lv_aload_n hx hb dX9_stepTo_52 rfl (lv_at hl 0 rfl) ?_
    refine x_get hx hb hts u_X9_stepTo_X9 hown hE hP 0 rfl rfl 8 (by decide) (hts (.fieldLink RX9 37 "DecreasingDiagrams$SidePaths" "arrivals" "[I") (List.mem_of_getElem? (i := 3) rfl)) rfl dX9_stepTo_53 ?_
    refine lv_iload hx hb dX9_stepTo_56 (lv_at hl 1 rfl) ?_
    obtain ⟨hi, hf⟩ := ck_some hf
    refine x_iald hx hb hE hP 1 rfl hi dX9_stepTo_58 ?_
    have hf := Option.some.inj hf
    rewrite [← hQ, ← hf]
    exact x_iret hx hb hr hlocks hP hS dX9_stepTo_59
  have L31 : ∀ (n_31 : Nat) (v4 : Int32) (v5 : Int32) (H : Heap) (locs : List Loc) (ls : Array Slot), xW D aa [[(h, .inr (9, [.int belowOwn, .int belowEither, .int other, .int places, .ref a_objects, .ref a_parts, .ref a_lengths, .ref a_previous, .ref a_arrivals, .ref a_firstPlaces]))], [(a_arrivals, .inl (G 0, 32, .inl arrivals))], [(a_firstPlaces, .inl (G 0, 16, .inl firstPlaces))], [(a_lengths, .inl (G 0, 32, .inl lengths))], [(a_previous, .inl (G 0, 32, .inl previous))]] H → va_S (xA aa) s.heap H locs → lv_has ls 6 [(0, .ref h), (2, .int v2), (4, .int v4), (5, .int v5)] → lp (τ := Int32 → Int32 → Option (Int32)) (fun _ _ => none) (f_X9_stepTo_L31 arrivals previous v2) n_31 v4 v5 = some out → W p l e (rM 2 42) s m args blw meth c H locs 0 0 Q (F0 m 31 ls []) := by
    intro    n_31
    induction n_31 with
    | zero =>
      intro v4 v5 H locs ls hP hS hl hf
      exact no_some hf
    | succ n_31 ih_31 =>
      intro v4 v5 H locs ls hP hS hl hf
      have hf : f_X9_stepTo_L31 arrivals previous v2 (lp (τ := Int32 → Int32 → Option (Int32)) (fun _ _ => none) (f_X9_stepTo_L31 arrivals previous v2) n_31) v4 v5 = some out := hf
      refine lv_iload hx hb dX9_stepTo_31 (lv_at hl 3 rfl) ?_
      refine lv_iload_n hx hb dX9_stepTo_33 rfl (lv_at hl 1 rfl) ?_
      refine lv_icmp_le (tgt := 52) hx hb dX9_stepTo_34 (by decide) (fun c_34 => ?_) (fun c_34 => ?_)
      · have hf := it_pos c_34 hf
        exact J52 v4  H locs ls  hP hS (lv_sub hl [0, 2] rfl) hf
      · have hf := it_neg c_34 hf
        refine lv_aload_n hx hb dX9_stepTo_37 rfl (lv_at hl 0 rfl) ?_
        refine x_get hx hb hts u_X9_stepTo_X9 hown hE hP 0 rfl rfl 7 (by decide) (hts (.fieldLink RX9 34 "DecreasingDiagrams$SidePaths" "previous" "[I") (List.mem_of_getElem? (i := 2) rfl)) rfl dX9_stepTo_38 ?_
        refine lv_iload hx hb dX9_stepTo_41 (lv_at hl 2 rfl) ?_
        obtain ⟨hi, hf⟩ := ck_some hf
        refine x_iald hx hb hE hP 4 rfl hi dX9_stepTo_43 ?_
        obtain ⟨v4_44, e_v4_44, hf⟩ := lt_some hf
        refine x_istore (v := v4_44) (lv' := [(4, .int v4_44), (0, .ref h), (2, .int v2), (5, .int v5)]) hx hb dX9_stepTo_44 e_v4_44 hl (by decide) rfl (fun ls hl => ?_)
        obtain ⟨v5_46, e_v5_46, hf⟩ := lt_some hf
        refine lv_iinc (v := v5_46) (lv' := [(5, .int v5_46), (4, .int v4_44), (0, .ref h), (2, .int v2)]) hx hb dX9_stepTo_46 hl (k := 3) rfl (by rw [e_v5_46]; rfl) (by decide) rfl (fun ls hl => ?_)
        refine lv_goto (tgt := 31) hx hb dX9_stepTo_49 (by decide) ?_
        exact ih_31 v4_44 v5_46 H locs ls hP hS (lv_sub hl [2, 3, 1, 0] rfl) hf
  refine lv_aload_n hx hb dX9_stepTo_0 rfl (lv_at hl 0 rfl) ?_
  refine lv_iload_n hx hb dX9_stepTo_1 rfl (lv_at hl 1 rfl) ?_
  obtain ⟨r_2, hr_2, hf⟩ := bd_some hf
  refine x_goi0 (ps := [0, 2, 3]) (x_runV (As := [.int v1]) (rest := []) (ps := [0, 2, 3]) ⟨hx, hb, hml, hown, hts⟩ (k_X9_lengthTo l D G fu h a_objects a_parts a_lengths a_previous a_arrivals a_firstPlaces belowOwn belowEither other places firstPlaces lengths v1 r_2 hr_2) (cwV 1 hts gX9_stepTo_X9_lengthTo rfl rfl rfl (by decide +kernel) ⟨Nat.le_of_ble_eq_true rfl, Nat.le_of_ble_eq_true rfl⟩) hE hP hN rfl (by decide) 0 rfl rfl rfl hl.1 (Nat.le_of_ble_eq_true rfl) dX9_stepTo_2 ⟨Nat.zero_le _, Nat.zero_le _⟩) hP hN hS rfl (fun H locs hP hS => ?_)
  obtain ⟨v3_5, e_v3_5, hf⟩ := lt_some hf
  refine x_istore_n (v := v3_5) (lv' := [(3, .int v3_5), (0, .ref h), (1, .int v1), (2, .int v2)]) hx hb dX9_stepTo_5 e_v3_5 rfl hl (by decide) rfl (fun ls hl => ?_)
  refine lv_iload_n hx hb dX9_stepTo_6 rfl (lv_at hl 3 rfl) ?_
  refine lv_if_lt (tgt := 15) hx hb dX9_stepTo_7 (by decide) (fun c_7 => ?_) (fun c_7 => ?_)
  · have hf := it_pos c_7 hf
    refine lv_bipush (v := -2) hx hb dX9_stepTo_15 (by decide) ?_
    have hf := Option.some.inj hf
    rewrite [← hQ, ← hf]
    exact x_iret hx hb hr hlocks hP hS dX9_stepTo_17
  · have hf := it_neg c_7 hf
    refine lv_iload_n hx hb dX9_stepTo_10 rfl (lv_at hl 3 rfl) ?_
    refine lv_iload_n hx hb dX9_stepTo_11 rfl (lv_at hl 0 rfl) ?_
    refine lv_icmp_lt (tgt := 18) hx hb dX9_stepTo_12 (by decide) (fun c_12 => ?_) (fun c_12 => ?_)
    · have hf := it_pos c_12 hf
      refine lv_aload_n hx hb dX9_stepTo_18 rfl (lv_at hl 1 rfl) ?_
      refine x_get hx hb hts u_X9_stepTo_X9 hown hE hP 0 rfl rfl 9 (by decide) (hts (.fieldLink RX9 40 "DecreasingDiagrams$SidePaths" "firstPlaces" "[I") (List.mem_of_getElem? (i := 1) rfl)) rfl dX9_stepTo_19 ?_
      refine lv_iload_n hx hb dX9_stepTo_22 rfl (lv_at hl 2 rfl) ?_
      obtain ⟨hi, hf⟩ := ck_some hf
      refine x_iald hx hb hE hP 2 rfl hi dX9_stepTo_23 ?_
      obtain ⟨v4_24, e_v4_24, hf⟩ := lt_some hf
      refine x_istore (v := v4_24) (lv' := [(4, .int v4_24), (3, .int v3_5), (0, .ref h), (1, .int v1), (2, .int v2)]) hx hb dX9_stepTo_24 e_v4_24 hl (by decide) rfl (fun ls hl => ?_)
      refine lv_iload_n hx hb dX9_stepTo_26 rfl (lv_at hl 1 rfl) ?_
      refine lv_iconst (v := 1) hx hb dX9_stepTo_27 (by decide) ?_
      refine lv_isub hx hb dX9_stepTo_28 ?_
      obtain ⟨v5_29, e_v5_29, hf⟩ := lt_some hf
      refine x_istore (v := v5_29) (lv' := [(5, .int v5_29), (4, .int v4_24), (3, .int v3_5), (0, .ref h), (1, .int v1), (2, .int v2)]) hx hb dX9_stepTo_29 e_v5_29 hl (by decide) rfl (fun ls hl => ?_)
      exact L31    fu v4_24 v5_29 H locs ls hP hS (lv_sub hl [3, 5, 1, 0] rfl) hf
    · have hf := it_neg c_12 hf
      refine lv_bipush (v := -2) hx hb dX9_stepTo_15 (by decide) ?_
      have hf := Option.some.inj hf
      rewrite [← hQ, ← hf]
      exact x_iret hx hb hr hlocks hP hS dX9_stepTo_17

set_option maxRecDepth 20000 in
theorem u_X11_writePath_X11 : ∀ w ∈ wsX110, w ∈ wsX11_writePath := xx_pl _ [28, 29, 30, 31, 32, 33, 34, 35, 36, 37, 38, 39, 40, 41, 42, 43] (by decide +kernel)
def f_X11_writePath_L9 (fu : Nat) (p1_arrivals : (Nat → Int32)) (p1_firstPlaces : (Nat → Int32)) (p1_lengths : (Nat → Int32)) (p1_previous : (Nat → Int32)) (v2 : Int32) (v3 : Int32) (rec_9 : Int32 → Int32 → (Nat → Int32) → Option (Int32 × (Nat → Int32))) (v4 : Int32) (text_length : Int32) (text_signs : (Nat → Int32)) : Option (Int32 × (Nat → Int32)) :=
  if v3 ≤ v4 then (some (text_length, text_signs)) else ((f_X6_putSign text_length text_signs 46).bind (fun r_21 => (f_X9_stepTo fu p1_arrivals p1_firstPlaces p1_lengths p1_previous v2 v4).bind (fun r_32 => (f_X6_putNumber r_21.1 r_21.2 r_32).bind (fun r_35 => lt (v4 + 1) (fun v4_38 => rec_9 v4_38 r_35.1 r_35.2)))))
def f_X11_writePath (fu : Nat) (text_length : Int32) (p1_arrivals : (Nat → Int32)) (p1_firstPlaces : (Nat → Int32)) (p1_lengths : (Nat → Int32)) (p1_previous : (Nat → Int32)) (text_signs : (Nat → Int32)) (v2 : Int32) : Option (Int32 × (Nat → Int32)) :=
  (f_X9_lengthTo p1_firstPlaces p1_lengths v2).bind (fun r_2 => lt r_2 (fun v3_5 => lt (0 : Int32) (fun v4_7 => lp (τ := Int32 → Int32 → (Nat → Int32) → Option (Int32 × (Nat → Int32))) (fun _ _ _ => none) (f_X11_writePath_L9 fu p1_arrivals p1_firstPlaces p1_lengths p1_previous v2 v3_5) fu v4_7 text_length text_signs)))
set_option maxHeartbeats 4000000 in
set_option maxRecDepth 100000 in
theorem k_X11_writePath (l : Launch) (D : va_G) (G : Nat → ClassId) (fu : Nat) (h : Nat) (h_p1 : Nat) (a_p1_objects : Nat) (a_p1_parts : Nat) (a_p1_lengths : Nat) (a_p1_previous : Nat) (a_p1_arrivals : Nat) (a_p1_firstPlaces : Nat) (h_order : Nat) (h_system : Nat) (h_rules : Nat) (h_savedOrder : Nat) (h_savedSystem : Nat) (h_savedRules : Nat) (h_peaks : Nat) (h_leftPaths : Nat) (h_rightPaths : Nat) (h_text : Nat) (h_labellings : Nat) (h_input : Nat) (h_explorer : Nat) (h_arrays : Nat) (a_reach : Nat) (a_text_signs : Nat) (p1_belowOwn : Int32) (p1_belowEither : Int32) (p1_other : Int32) (p1_places : Int32) (snapshotSaved : Int32) (text_length : Int32) (p1_arrivals : (Nat → Int32)) (p1_firstPlaces : (Nat → Int32)) (p1_lengths : (Nat → Int32)) (p1_previous : (Nat → Int32)) (text_signs : (Nat → Int32))  (v2 : Int32) (out : Int32 × (Nat → Int32)) (hf : f_X11_writePath fu text_length p1_arrivals p1_firstPlaces p1_lengths p1_previous text_signs v2 = some out) : xMet l yX11_writePath wsX11_writePath (rM 3 67) D G [.ref h, .ref h_p1, .int v2] [[(h_p1, .inr (9, [.int p1_belowOwn, .int p1_belowEither, .int p1_other, .int p1_places, .ref a_p1_objects, .ref a_p1_parts, .ref a_p1_lengths, .ref a_p1_previous, .ref a_p1_arrivals, .ref a_p1_firstPlaces]))], [(a_p1_arrivals, .inl (G 0, 32, .inl p1_arrivals))], [(a_p1_firstPlaces, .inl (G 0, 16, .inl p1_firstPlaces))], [(a_p1_lengths, .inl (G 0, 32, .inl p1_lengths))], [(a_p1_previous, .inl (G 0, 32, .inl p1_previous))], [(h, .inr (10, [.ref h_order, .ref h_system, .ref h_rules, .ref h_savedOrder, .ref h_savedSystem, .ref h_savedRules, .int snapshotSaved, .ref h_peaks, .ref h_leftPaths, .ref h_rightPaths, .ref h_text, .ref h_labellings, .ref h_input, .ref h_explorer, .ref h_arrays, .ref a_reach]))], [(h_text, .inr (6, [.int text_length, .ref a_text_signs]))], [(a_text_signs, .inl (G 3, 202, .inl text_signs))]] (xQv D [[(h_p1, .inr (9, [.int p1_belowOwn, .int p1_belowEither, .int p1_other, .int p1_places, .ref a_p1_objects, .ref a_p1_parts, .ref a_p1_lengths, .ref a_p1_previous, .ref a_p1_arrivals, .ref a_p1_firstPlaces]))], [(a_p1_arrivals, .inl (G 0, 32, .inl p1_arrivals))], [(a_p1_firstPlaces, .inl (G 0, 16, .inl p1_firstPlaces))], [(a_p1_lengths, .inl (G 0, 32, .inl p1_lengths))], [(a_p1_previous, .inl (G 0, 32, .inl p1_previous))], [(h, .inr (10, [.ref h_order, .ref h_system, .ref h_rules, .ref h_savedOrder, .ref h_savedSystem, .ref h_savedRules, .int snapshotSaved, .ref h_peaks, .ref h_leftPaths, .ref h_rightPaths, .ref h_text, .ref h_labellings, .ref h_input, .ref h_explorer, .ref h_arrays, .ref a_reach]))], [(h_text, .inr (6, [.int out.1, .ref a_text_signs]))], [(a_text_signs, .inl (G 3, 202, .inl out.2))]]) := by
  refine x_ent (cc := cX11_writePath) (maxL := 5) (by decide) rfl (Nat.le_of_ble_eq_true rfl) ?_
  intro p e s m blw meth c aa ls args Q H locs hQ hx hb hr hml hown hts hlocks hE hN hl hP hS
  have hown : s.vm.findClass RX11 = some m.cls := hown
  have hl : lv_has ls 5 [(0, .ref h), (1, .ref h_p1), (2, .int v2)] := hl
  have L9 : ∀ (v3 : Int32), ∀ (n_9 : Nat) (v4 : Int32) (text_length : Int32) (text_signs : (Nat → Int32)) (H : Heap) (locs : List Loc) (ls : Array Slot), xW D aa [[(h_p1, .inr (9, [.int p1_belowOwn, .int p1_belowEither, .int p1_other, .int p1_places, .ref a_p1_objects, .ref a_p1_parts, .ref a_p1_lengths, .ref a_p1_previous, .ref a_p1_arrivals, .ref a_p1_firstPlaces]))], [(a_p1_arrivals, .inl (G 0, 32, .inl p1_arrivals))], [(a_p1_firstPlaces, .inl (G 0, 16, .inl p1_firstPlaces))], [(a_p1_lengths, .inl (G 0, 32, .inl p1_lengths))], [(a_p1_previous, .inl (G 0, 32, .inl p1_previous))], [(h, .inr (10, [.ref h_order, .ref h_system, .ref h_rules, .ref h_savedOrder, .ref h_savedSystem, .ref h_savedRules, .int snapshotSaved, .ref h_peaks, .ref h_leftPaths, .ref h_rightPaths, .ref h_text, .ref h_labellings, .ref h_input, .ref h_explorer, .ref h_arrays, .ref a_reach]))], [(h_text, .inr (6, [.int text_length, .ref a_text_signs]))], [(a_text_signs, .inl (G 3, 202, .inl text_signs))]] H → va_S (xA aa) s.heap H locs → lv_has ls 5 [(0, .ref h), (1, .ref h_p1), (2, .int v2), (3, .int v3), (4, .int v4)] → lp (τ := Int32 → Int32 → (Nat → Int32) → Option (Int32 × (Nat → Int32))) (fun _ _ _ => none) (f_X11_writePath_L9 fu p1_arrivals p1_firstPlaces p1_lengths p1_previous v2 v3) n_9 v4 text_length text_signs = some out → W p l e (rM 3 67) s m args blw meth c H locs 0 0 Q (F0 m 9 ls []) := by
    intro v3   n_9
    induction n_9 with
    | zero =>
      intro v4 text_length text_signs H locs ls hP hS hl hf
      exact no_some hf
    | succ n_9 ih_9 =>
      intro v4 text_length text_signs H locs ls hP hS hl hf
      have hf : f_X11_writePath_L9 fu p1_arrivals p1_firstPlaces p1_lengths p1_previous v2 v3 (lp (τ := Int32 → Int32 → (Nat → Int32) → Option (Int32 × (Nat → Int32))) (fun _ _ _ => none) (f_X11_writePath_L9 fu p1_arrivals p1_firstPlaces p1_lengths p1_previous v2 v3) n_9) v4 text_length text_signs = some out := hf
      refine lv_iload hx hb dX11_writePath_9 (lv_at hl 4 rfl) ?_
      refine lv_iload_n hx hb dX11_writePath_11 rfl (lv_at hl 3 rfl) ?_
      refine lv_icmp_ge (tgt := 44) hx hb dX11_writePath_12 (by decide) (fun c_12 => ?_) (fun c_12 => ?_)
      · have hf := it_pos c_12 hf
        have hf := Option.some.inj hf
        rewrite [← hQ, ← hf]
        exact x_vret hx hb hr hlocks hP hS dX11_writePath_44
      · have hf := it_neg c_12 hf
        refine lv_aload_n hx hb dX11_writePath_15 rfl (lv_at hl 0 rfl) ?_
        refine x_get hx hb hts u_X11_writePath_X11 hown hE hP 5 rfl rfl 10 (by decide) (hts (.fieldLink RX11 63 "DecreasingDiagrams" "text" "LDecreasingDiagrams$OutputText;") (List.mem_of_getElem? (i := 1) rfl)) rfl dX11_writePath_16 ?_
        refine lv_bipush (v := 46) hx hb dX11_writePath_19 (by decide) ?_
        obtain ⟨r_21, hr_21, hf⟩ := bd_some hf
        refine x_gov (ps := [6, 7]) (qs := [0, 1, 2, 3, 4, 5]) (n := 8) (I' := [[(h_p1, .inr (9, [.int p1_belowOwn, .int p1_belowEither, .int p1_other, .int p1_places, .ref a_p1_objects, .ref a_p1_parts, .ref a_p1_lengths, .ref a_p1_previous, .ref a_p1_arrivals, .ref a_p1_firstPlaces]))], [(a_p1_arrivals, .inl (G 0, 32, .inl p1_arrivals))], [(a_p1_firstPlaces, .inl (G 0, 16, .inl p1_firstPlaces))], [(a_p1_lengths, .inl (G 0, 32, .inl p1_lengths))], [(a_p1_previous, .inl (G 0, 32, .inl p1_previous))], [(h, .inr (10, [.ref h_order, .ref h_system, .ref h_rules, .ref h_savedOrder, .ref h_savedSystem, .ref h_savedRules, .int snapshotSaved, .ref h_peaks, .ref h_leftPaths, .ref h_rightPaths, .ref h_text, .ref h_labellings, .ref h_input, .ref h_explorer, .ref h_arrays, .ref a_reach]))], [(h_text, .inr (6, [.int r_21.1, .ref a_text_signs]))], [(a_text_signs, .inl (G 3, 202, .inl r_21.2))]]) (x_runVN (As := [.int 46]) (rest := []) (ps := [6, 7]) ⟨hx, hb, hml, hown, hts⟩ (k_X6_putSign l D G fu h_text a_text_signs text_length text_signs 46 r_21 hr_21) ⟨va_cnB 1 hts gX11_writePath_X6_putSign_n239 rfl rfl rfl (hE.2 (.methodLinkNest RX11 239 yX6_putSign RX11) (List.mem_of_getElem? (i := 86) rfl)) (hts (.initialized RX6) (List.mem_of_getElem? (i := 13) rfl)) (by decide +kernel) ⟨Nat.le_of_ble_eq_true rfl, Nat.le_of_ble_eq_true rfl⟩, (hts (.instanceMethod yX6_putSign) (List.mem_of_getElem? (i := 12) rfl)), (hts (.selects RX6 yX6_putSign yX6_putSign) (List.mem_of_getElem? (i := 14) rfl))⟩ hE hP hN rfl (by decide) 6 rfl rfl rfl hl.1 (Nat.le_of_ble_eq_true rfl) dX11_writePath_21 ⟨Nat.zero_le _, Nat.zero_le _⟩) hP hN hS rfl rfl rfl rfl rfl (by decide) (fun H locs hP hS => ?_)
        refine lv_aload_n hx hb dX11_writePath_24 rfl (lv_at hl 0 rfl) ?_
        refine x_get hx hb hts u_X11_writePath_X11 hown hE hP 5 rfl rfl 10 (by decide) (hts (.fieldLink RX11 63 "DecreasingDiagrams" "text" "LDecreasingDiagrams$OutputText;") (List.mem_of_getElem? (i := 1) rfl)) rfl dX11_writePath_25 ?_
        refine lv_aload_n hx hb dX11_writePath_28 rfl (lv_at hl 1 rfl) ?_
        refine lv_iload_n hx hb dX11_writePath_29 rfl (lv_at hl 2 rfl) ?_
        refine lv_iload hx hb dX11_writePath_30 (lv_at hl 4 rfl) ?_
        obtain ⟨r_32, hr_32, hf⟩ := bd_some hf
        refine x_goi0 (ps := [0, 1, 2, 3, 4]) (x_runVN (As := [.int v2, .int v4]) (rest := [.ref h_text]) (ps := [0, 1, 2, 3, 4]) ⟨hx, hb, hml, hown, hts⟩ (k_X9_stepTo l D G fu h_p1 a_p1_objects a_p1_parts a_p1_lengths a_p1_previous a_p1_arrivals a_p1_firstPlaces p1_belowOwn p1_belowEither p1_other p1_places p1_arrivals p1_firstPlaces p1_lengths p1_previous v2 v4 r_32 hr_32) ⟨va_cnB 2 hts gX11_writePath_X9_stepTo_n228 rfl rfl rfl (hE.2 (.methodLinkNest RX11 228 yX9_stepTo RX11) (List.mem_of_getElem? (i := 82) rfl)) (hts (.initialized RX9) (List.mem_of_getElem? (i := 3) rfl)) (by decide +kernel) ⟨Nat.le_of_ble_eq_true rfl, Nat.le_of_ble_eq_true rfl⟩, (hts (.instanceMethod yX9_stepTo) (List.mem_of_getElem? (i := 18) rfl)), (hts (.selects RX9 yX9_stepTo yX9_stepTo) (List.mem_of_getElem? (i := 19) rfl))⟩ hE hP hN rfl (by decide) 0 rfl rfl rfl hl.1 (Nat.le_of_ble_eq_true rfl) dX11_writePath_32 ⟨Nat.zero_le _, Nat.zero_le _⟩) hP hN hS rfl (fun H locs hP hS => ?_)
        obtain ⟨r_35, hr_35, hf⟩ := bd_some hf
        refine x_gov (ps := [6, 7]) (qs := [0, 1, 2, 3, 4, 5]) (n := 8) (I' := [[(h_p1, .inr (9, [.int p1_belowOwn, .int p1_belowEither, .int p1_other, .int p1_places, .ref a_p1_objects, .ref a_p1_parts, .ref a_p1_lengths, .ref a_p1_previous, .ref a_p1_arrivals, .ref a_p1_firstPlaces]))], [(a_p1_arrivals, .inl (G 0, 32, .inl p1_arrivals))], [(a_p1_firstPlaces, .inl (G 0, 16, .inl p1_firstPlaces))], [(a_p1_lengths, .inl (G 0, 32, .inl p1_lengths))], [(a_p1_previous, .inl (G 0, 32, .inl p1_previous))], [(h, .inr (10, [.ref h_order, .ref h_system, .ref h_rules, .ref h_savedOrder, .ref h_savedSystem, .ref h_savedRules, .int snapshotSaved, .ref h_peaks, .ref h_leftPaths, .ref h_rightPaths, .ref h_text, .ref h_labellings, .ref h_input, .ref h_explorer, .ref h_arrays, .ref a_reach]))], [(h_text, .inr (6, [.int r_35.1, .ref a_text_signs]))], [(a_text_signs, .inl (G 3, 202, .inl r_35.2))]]) (x_runVN (As := [.int r_32]) (rest := []) (ps := [6, 7]) ⟨hx, hb, hml, hown, hts⟩ (k_X6_putNumber l D G fu h_text a_text_signs r_21.1 r_21.2 r_32 r_35 hr_35) ⟨va_cnB 1 hts gX11_writePath_X6_putNumber_n360 rfl rfl rfl (hE.2 (.methodLinkNest RX11 360 yX6_putNumber RX11) (List.mem_of_getElem? (i := 85) rfl)) (hts (.initialized RX6) (List.mem_of_getElem? (i := 13) rfl)) (by decide +kernel) ⟨Nat.le_of_ble_eq_true rfl, Nat.le_of_ble_eq_true rfl⟩, (hts (.instanceMethod yX6_putNumber) (List.mem_of_getElem? (i := 24) rfl)), (hts (.selects RX6 yX6_putNumber yX6_putNumber) (List.mem_of_getElem? (i := 25) rfl))⟩ hE hP hN rfl (by decide) 6 rfl rfl rfl hl.1 (Nat.le_of_ble_eq_true rfl) dX11_writePath_35 ⟨Nat.zero_le _, Nat.zero_le _⟩) hP hN hS rfl rfl rfl rfl rfl (by decide) (fun H locs hP hS => ?_)
        obtain ⟨v4_38, e_v4_38, hf⟩ := lt_some hf
        refine lv_iinc (v := v4_38) (lv' := [(4, .int v4_38), (0, .ref h), (1, .ref h_p1), (2, .int v2), (3, .int v3)]) hx hb dX11_writePath_38 hl (k := 4) rfl (by rw [e_v4_38]; rfl) (by decide) rfl (fun ls hl => ?_)
        refine lv_goto (tgt := 9) hx hb dX11_writePath_41 (by decide) ?_
        exact ih_9 v4_38 r_35.1 r_35.2 H locs ls hP hS (lv_sub hl [1, 2, 3, 4, 0] rfl) hf
  refine lv_aload_n hx hb dX11_writePath_0 rfl (lv_at hl 1 rfl) ?_
  refine lv_iload_n hx hb dX11_writePath_1 rfl (lv_at hl 2 rfl) ?_
  obtain ⟨r_2, hr_2, hf⟩ := bd_some hf
  refine x_goi0 (ps := [0, 2, 3]) (x_runVN (As := [.int v2]) (rest := []) (ps := [0, 2, 3]) ⟨hx, hb, hml, hown, hts⟩ (k_X9_lengthTo l D G fu h_p1 a_p1_objects a_p1_parts a_p1_lengths a_p1_previous a_p1_arrivals a_p1_firstPlaces p1_belowOwn p1_belowEither p1_other p1_places p1_firstPlaces p1_lengths v2 r_2 hr_2) ⟨va_cnB 1 hts gX11_writePath_X9_lengthTo_n225 rfl rfl rfl (hE.2 (.methodLinkNest RX11 225 yX9_lengthTo RX11) (List.mem_of_getElem? (i := 81) rfl)) (hts (.initialized RX9) (List.mem_of_getElem? (i := 3) rfl)) (by decide +kernel) ⟨Nat.le_of_ble_eq_true rfl, Nat.le_of_ble_eq_true rfl⟩, (hts (.instanceMethod yX9_lengthTo) (List.mem_of_getElem? (i := 2) rfl)), (hts (.selects RX9 yX9_lengthTo yX9_lengthTo) (List.mem_of_getElem? (i := 4) rfl))⟩ hE hP hN rfl (by decide) 0 rfl rfl rfl hl.1 (Nat.le_of_ble_eq_true rfl) dX11_writePath_2 ⟨Nat.zero_le _, Nat.zero_le _⟩) hP hN hS rfl (fun H locs hP hS => ?_)
  obtain ⟨v3_5, e_v3_5, hf⟩ := lt_some hf
  refine x_istore_n (v := v3_5) (lv' := [(3, .int v3_5), (0, .ref h), (1, .ref h_p1), (2, .int v2)]) hx hb dX11_writePath_5 e_v3_5 rfl hl (by decide) rfl (fun ls hl => ?_)
  refine lv_iconst (v := 0) hx hb dX11_writePath_6 (by decide) ?_
  obtain ⟨v4_7, e_v4_7, hf⟩ := lt_some hf
  refine x_istore (v := v4_7) (lv' := [(4, .int v4_7), (3, .int v3_5), (0, .ref h), (1, .ref h_p1), (2, .int v2)]) hx hb dX11_writePath_7 e_v4_7 hl (by decide) rfl (fun ls hl => ?_)
  exact L9 v3_5   fu v4_7 text_length text_signs H locs ls hP hS (lv_sub hl [2, 3, 4, 1, 0] rfl) hf

set_option maxRecDepth 20000 in
theorem u_X5_hasElement_X5 : ∀ w ∈ wsX50, w ∈ wsX5_hasElement := xx_pl _ [2, 3] (by decide +kernel)
def f_X5_hasElement (sizes : (Nat → Int32)) (v1 : Int32) (v2 : Int32) : Option (Int32) :=
  if v2 < 0 then (some 0) else (ck v1 3 (if (sizes v1.toNatClampNeg) ≤ v2 then (some 0) else (some 1)))
set_option maxHeartbeats 4000000 in
set_option maxRecDepth 100000 in
theorem k_X5_hasElement (l : Launch) (D : va_G) (G : Nat → ClassId) (fu : Nat) (h : Nat) (a_sizes : Nat) (a_values : Nat) (sizes : (Nat → Int32))  (v1 : Int32) (v2 : Int32) (out : Int32) (hf : f_X5_hasElement sizes v1 v2 = some out) : xMet l yX5_hasElement wsX5_hasElement (rM 0 0) D G [.ref h, .int v1, .int v2] [[(h, .inr (5, [.ref a_sizes, .ref a_values]))], [(a_sizes, .inl (G 0, 3, .inl sizes))]] (xQi D [[(h, .inr (5, [.ref a_sizes, .ref a_values]))], [(a_sizes, .inl (G 0, 3, .inl sizes))]] out) := by
  refine x_ent (cc := cX5_hasElement) (maxL := 3) (by decide) rfl (Nat.le_of_ble_eq_true rfl) ?_
  intro p e s m blw meth c aa ls args Q H locs hQ hx hb hr hml hown hts hlocks hE hN hl hP hS
  have hown : s.vm.findClass RX5 = some m.cls := hown
  have hl : lv_has ls 3 [(0, .ref h), (1, .int v1), (2, .int v2)] := hl
  refine lv_iload_n hx hb dX5_hasElement_0 rfl (lv_at hl 2 rfl) ?_
  refine lv_if_lt (tgt := 18) hx hb dX5_hasElement_1 (by decide) (fun c_1 => ?_) (fun c_1 => ?_)
  · have hf := it_pos c_1 hf
    refine lv_iconst (v := 0) hx hb dX5_hasElement_18 (by decide) ?_
    have hf := Option.some.inj hf
    rewrite [← hQ, ← hf]
    exact x_zret (r := 0) hx hb hr hlocks rfl hP hS dX5_hasElement_19
  · have hf := it_neg c_1 hf
    refine lv_iload_n hx hb dX5_hasElement_4 rfl (lv_at hl 2 rfl) ?_
    refine lv_aload_n hx hb dX5_hasElement_5 rfl (lv_at hl 0 rfl) ?_
    refine x_get hx hb hts u_X5_hasElement_X5 hown hE hP 0 rfl rfl 0 (by decide) (hts (.fieldLink RX5 9 "DecreasingDiagrams$LongArrays" "sizes" "[I") (List.mem_of_getElem? (i := 1) rfl)) rfl dX5_hasElement_6 ?_
    refine lv_iload_n hx hb dX5_hasElement_9 rfl (lv_at hl 1 rfl) ?_
    obtain ⟨hi, hf⟩ := ck_some hf
    refine x_iald hx hb hE hP 1 rfl hi dX5_hasElement_10 ?_
    refine lv_icmp_ge (tgt := 18) hx hb dX5_hasElement_11 (by decide) (fun c_11 => ?_) (fun c_11 => ?_)
    · have hf := it_pos c_11 hf
      refine lv_iconst (v := 0) hx hb dX5_hasElement_18 (by decide) ?_
      have hf := Option.some.inj hf
      rewrite [← hQ, ← hf]
      exact x_zret (r := 0) hx hb hr hlocks rfl hP hS dX5_hasElement_19
    · have hf := it_neg c_11 hf
      refine lv_iconst (v := 1) hx hb dX5_hasElement_14 (by decide) ?_
      refine lv_goto (tgt := 19) hx hb dX5_hasElement_15 (by decide) ?_
      have hf := Option.some.inj hf
      rewrite [← hQ, ← hf]
      exact x_zret (r := 1) hx hb hr hlocks rfl hP hS dX5_hasElement_19

set_option maxRecDepth 20000 in
theorem u_X11_element_X11 : ∀ w ∈ wsX110, w ∈ wsX11_element := xx_pl _ [12, 13, 14, 15, 16, 17, 18, 19, 20, 21, 22, 23, 24, 25, 26, 27] (by decide +kernel)
set_option maxRecDepth 20000 in
theorem u_X11_element_X5 : ∀ w ∈ wsX50, w ∈ wsX11_element := xx_pl _ [28, 29] (by decide +kernel)
def f_X11_element (arrays_sizes : (Nat → Int32)) (arrays_values : (Nat → Nat → Int64)) (v1 : Int32) (v2 : Int32) : Option (Int64) :=
  (f_X11_isArray v1).bind (fun r_1 => if r_1 = 0 then (some (-9223372036854775808)) else ((f_X5_hasElement arrays_sizes v1 v2).bind (fun r_13 => if ¬ r_13 = 0 then (ck v1 3 (ck v2 16 (some (arrays_values v1.toNatClampNeg v2.toNatClampNeg)))) else (some (-9223372036854775808)))))
set_option maxHeartbeats 4000000 in
set_option maxRecDepth 100000 in
theorem k_X11_element (l : Launch) (D : va_G) (G : Nat → ClassId) (fu : Nat) (h : Nat) (h_order : Nat) (h_system : Nat) (h_rules : Nat) (h_savedOrder : Nat) (h_savedSystem : Nat) (h_savedRules : Nat) (h_peaks : Nat) (h_leftPaths : Nat) (h_rightPaths : Nat) (h_text : Nat) (h_labellings : Nat) (h_input : Nat) (h_explorer : Nat) (h_arrays : Nat) (a_reach : Nat) (a_arrays_sizes : Nat) (a_arrays_values : Nat) (r_arrays_values : Nat → Nat) (snapshotSaved : Int32) (arrays_sizes : (Nat → Int32)) (arrays_values : (Nat → Nat → Int64))  (v1 : Int32) (v2 : Int32) (out : Int64) (hf : f_X11_element arrays_sizes arrays_values v1 v2 = some out) : xMet l yX11_element wsX11_element (rM 1 22) D G [.ref h, .int v1, .int v2] [[(h, .inr (10, [.ref h_order, .ref h_system, .ref h_rules, .ref h_savedOrder, .ref h_savedSystem, .ref h_savedRules, .int snapshotSaved, .ref h_peaks, .ref h_leftPaths, .ref h_rightPaths, .ref h_text, .ref h_labellings, .ref h_input, .ref h_explorer, .ref h_arrays, .ref a_reach]))], [(h_arrays, .inr (5, [.ref a_arrays_sizes, .ref a_arrays_values]))], [(a_arrays_sizes, .inl (G 0, 3, .inl arrays_sizes))], [gO (G 5) a_arrays_values r_arrays_values 3], gJ (G 1) r_arrays_values 3 16 arrays_values] (xQl D [[(h, .inr (10, [.ref h_order, .ref h_system, .ref h_rules, .ref h_savedOrder, .ref h_savedSystem, .ref h_savedRules, .int snapshotSaved, .ref h_peaks, .ref h_leftPaths, .ref h_rightPaths, .ref h_text, .ref h_labellings, .ref h_input, .ref h_explorer, .ref h_arrays, .ref a_reach]))], [(h_arrays, .inr (5, [.ref a_arrays_sizes, .ref a_arrays_values]))], [(a_arrays_sizes, .inl (G 0, 3, .inl arrays_sizes))], [gO (G 5) a_arrays_values r_arrays_values 3], gJ (G 1) r_arrays_values 3 16 arrays_values] out) := by
  refine x_ent (cc := cX11_element) (maxL := 3) (by decide) rfl (Nat.le_of_ble_eq_true rfl) ?_
  intro p e s m blw meth c aa ls args Q H locs hQ hx hb hr hml hown hts hlocks hE hN hl hP hS
  have hown : s.vm.findClass RX11 = some m.cls := hown
  have hl : lv_has ls 3 [(0, .ref h), (1, .int v1), (2, .int v2)] := hl
  refine lv_iload_n hx hb dX11_element_0 rfl (lv_at hl 1 rfl) ?_
  obtain ⟨r_1, hr_1, hf⟩ := bd_some hf
  refine x_goi0 (ps := []) (x_runS (As := [.int v1]) (rest := []) (ps := []) ⟨hx, hb, hml, hown, hts⟩ (k_X11_isArray l D G fu v1 r_1 hr_1) (va_cwS 1 hts gX11_element_X11_isArray rfl rfl rfl (by decide +kernel) ⟨Nat.le_of_ble_eq_true rfl, Nat.le_of_ble_eq_true rfl⟩) hE hP hN rfl (by decide) rfl hl.1 (Nat.le_of_ble_eq_true rfl) dX11_element_1 ⟨Nat.zero_le _, Nat.zero_le _⟩) hP hN hS rfl (fun H locs hP hS => ?_)
  refine lv_if_eq (tgt := 19) hx hb dX11_element_4 (by decide) (fun c_4 => ?_) (fun c_4 => ?_)
  · have hf := it_pos c_4 hf
    refine lv_ldc2 (v := -9223372036854775808) hx hb hown (hts (.constantLong RX11 333 (-9223372036854775808)) (List.mem_of_getElem? (i := 2) rfl)) dX11_element_19 ?_
    have hf := Option.some.inj hf
    rewrite [← hQ, ← hf]
    exact x_lret hx hb hr hlocks hP hS dX11_element_22
  · have hf := it_neg c_4 hf
    refine lv_aload_n hx hb dX11_element_7 rfl (lv_at hl 0 rfl) ?_
    refine x_get hx hb hts u_X11_element_X11 hown hE hP 0 rfl rfl 14 (by decide) (hts (.fieldLink RX11 91 "DecreasingDiagrams" "arrays" "LDecreasingDiagrams$LongArrays;") (List.mem_of_getElem? (i := 1) rfl)) rfl dX11_element_8 ?_
    refine lv_iload_n hx hb dX11_element_11 rfl (lv_at hl 1 rfl) ?_
    refine lv_iload_n hx hb dX11_element_12 rfl (lv_at hl 2 rfl) ?_
    obtain ⟨r_13, hr_13, hf⟩ := bd_some hf
    refine x_goi0 (ps := [1, 2]) (x_runVN (As := [.int v1, .int v2]) (rest := []) (ps := [1, 2]) ⟨hx, hb, hml, hown, hts⟩ (k_X5_hasElement l D G fu h_arrays a_arrays_sizes a_arrays_values arrays_sizes v1 v2 r_13 hr_13) ⟨va_cnB 2 hts gX11_element_X5_hasElement_n324 rfl rfl rfl (hE.2 (.methodLinkNest RX11 324 yX5_hasElement RX11) (List.mem_of_getElem? (i := 112) rfl)) (hts (.initialized RX5) (List.mem_of_getElem? (i := 8) rfl)) (by decide +kernel) ⟨Nat.le_of_ble_eq_true rfl, Nat.le_of_ble_eq_true rfl⟩, (hts (.instanceMethod yX5_hasElement) (List.mem_of_getElem? (i := 7) rfl)), (hts (.selects RX5 yX5_hasElement yX5_hasElement) (List.mem_of_getElem? (i := 9) rfl))⟩ hE hP hN rfl (by decide) 1 rfl rfl rfl hl.1 (Nat.le_of_ble_eq_true rfl) dX11_element_13 ⟨Nat.zero_le _, Nat.zero_le _⟩) hP hN hS rfl (fun H locs hP hS => ?_)
    refine lv_if_ne (tgt := 23) hx hb dX11_element_16 (by decide) (fun c_16 => ?_) (fun c_16 => ?_)
    · have hf := it_pos c_16 hf
      refine lv_aload_n hx hb dX11_element_23 rfl (lv_at hl 0 rfl) ?_
      refine x_get hx hb hts u_X11_element_X11 hown hE hP 0 rfl rfl 14 (by decide) (hts (.fieldLink RX11 91 "DecreasingDiagrams" "arrays" "LDecreasingDiagrams$LongArrays;") (List.mem_of_getElem? (i := 1) rfl)) rfl dX11_element_24 ?_
      refine x_getN hx hb hts u_X11_element_X5 hown hE hP 1 rfl rfl 1 (by decide) (hE.2 (.fieldLinkNest RX11 327 "DecreasingDiagrams$LongArrays" "values" "[[J" RX11) (List.mem_of_getElem? (i := 52) rfl)) rfl dX11_element_27 ?_
      refine lv_iload_n hx hb dX11_element_30 rfl (lv_at hl 1 rfl) ?_
      obtain ⟨hq_31, hf⟩ := ck_some hf
      refine x_aald hx hb hE hP 3 5 rfl rfl hq_31 dX11_element_31 ?_
      refine lv_iload_n hx hb dX11_element_32 rfl (lv_at hl 2 rfl) ?_
      obtain ⟨hi, hf⟩ := ck_some hf
      refine x_lald2 hx hb hE hP 4 rfl hq_31 hi dX11_element_33 ?_
      have hf := Option.some.inj hf
      rewrite [← hQ, ← hf]
      exact x_lret hx hb hr hlocks hP hS dX11_element_34
    · have hf := it_neg (fun h => h c_16) hf
      refine lv_ldc2 (v := -9223372036854775808) hx hb hown (hts (.constantLong RX11 333 (-9223372036854775808)) (List.mem_of_getElem? (i := 2) rfl)) dX11_element_19 ?_
      have hf := Option.some.inj hf
      rewrite [← hQ, ← hf]
      exact x_lret hx hb hr hlocks hP hS dX11_element_22

set_option maxRecDepth 20000 in
theorem u_X3_copyFrom_X3 : ∀ w ∈ wsX30, w ∈ wsX3_copyFrom := xx_pl _ [11, 12, 13, 14, 15, 16] (by decide +kernel)
def f_X3_copyFrom (p1_objects : Int32) (p1_steps : Int32) (p1_labels : (Nat → Int32)) (p1_sources : (Nat → Int32)) (p1_targets : (Nat → Int32)) (p1_words : (Nat → Int32)) (labels : (Nat → Int32)) (sources : (Nat → Int32)) (targets : (Nat → Int32)) (words : (Nat → Int32)) : Option ((Nat → Int32) × Int32 × (Nat → Int32) × Int32 × (Nat → Int32) × (Nat → Int32)) :=
  lt p1_objects (fun objects_5 => lt (va_cpy p1_words words 0 0 16) (fun words_20 => lt p1_steps (fun steps_28 => lt (va_cpy p1_sources sources 0 0 32) (fun sources_43 => lt (va_cpy p1_targets targets 0 0 32) (fun targets_58 => lt (va_cpy p1_labels labels 0 0 32) (fun labels_73 => some (labels_73, objects_5, sources_43, steps_28, targets_58, words_20)))))))
set_option maxHeartbeats 4000000 in
set_option maxRecDepth 100000 in
theorem k_X3_copyFrom (l : Launch) (D : va_G) (G : Nat → ClassId) (fu : Nat) (h : Nat) (h_p1 : Nat) (a_p1_words : Nat) (a_p1_sources : Nat) (a_p1_targets : Nat) (a_p1_labels : Nat) (a_words : Nat) (a_sources : Nat) (a_targets : Nat) (a_labels : Nat) (p1_objects : Int32) (p1_steps : Int32) (objects : Int32) (steps : Int32) (p1_labels : (Nat → Int32)) (p1_sources : (Nat → Int32)) (p1_targets : (Nat → Int32)) (p1_words : (Nat → Int32)) (labels : (Nat → Int32)) (sources : (Nat → Int32)) (targets : (Nat → Int32)) (words : (Nat → Int32))   (out : (Nat → Int32) × Int32 × (Nat → Int32) × Int32 × (Nat → Int32) × (Nat → Int32)) (hf : f_X3_copyFrom p1_objects p1_steps p1_labels p1_sources p1_targets p1_words labels sources targets words = some out) : xMet l yX3_copyFrom wsX3_copyFrom (rM 1 26) D G [.ref h, .ref h_p1] [[(h_p1, .inr (3, [.int p1_objects, .ref a_p1_words, .int p1_steps, .ref a_p1_sources, .ref a_p1_targets, .ref a_p1_labels]))], [(a_p1_labels, .inl (G 0, 32, .inl p1_labels))], [(a_p1_sources, .inl (G 0, 32, .inl p1_sources))], [(a_p1_targets, .inl (G 0, 32, .inl p1_targets))], [(a_p1_words, .inl (G 0, 16, .inl p1_words))], [(h, .inr (3, [.int objects, .ref a_words, .int steps, .ref a_sources, .ref a_targets, .ref a_labels]))], [(a_labels, .inl (G 0, 32, .inl labels))], [(a_sources, .inl (G 0, 32, .inl sources))], [(a_targets, .inl (G 0, 32, .inl targets))], [(a_words, .inl (G 0, 16, .inl words))]] (xQv D [[(h_p1, .inr (3, [.int p1_objects, .ref a_p1_words, .int p1_steps, .ref a_p1_sources, .ref a_p1_targets, .ref a_p1_labels]))], [(a_p1_labels, .inl (G 0, 32, .inl p1_labels))], [(a_p1_sources, .inl (G 0, 32, .inl p1_sources))], [(a_p1_targets, .inl (G 0, 32, .inl p1_targets))], [(a_p1_words, .inl (G 0, 16, .inl p1_words))], [(h, .inr (3, [.int out.2.1, .ref a_words, .int out.2.2.2.1, .ref a_sources, .ref a_targets, .ref a_labels]))], [(a_labels, .inl (G 0, 32, .inl out.1))], [(a_sources, .inl (G 0, 32, .inl out.2.2.1))], [(a_targets, .inl (G 0, 32, .inl out.2.2.2.2.1))], [(a_words, .inl (G 0, 16, .inl out.2.2.2.2.2))]]) := by
  refine x_ent (cc := cX3_copyFrom) (maxL := 2) (by decide) rfl (Nat.le_of_ble_eq_true rfl) ?_
  intro p e s m blw meth c aa ls args Q H locs hQ hx hb hr hml hown hts hlocks hE hN hl hP hS
  have hown : s.vm.findClass RX3 = some m.cls := hown
  have hl : lv_has ls 2 [(0, .ref h), (1, .ref h_p1)] := hl
  refine lv_aload_n hx hb dX3_copyFrom_0 rfl (lv_at hl 0 rfl) ?_
  refine lv_aload_n hx hb dX3_copyFrom_1 rfl (lv_at hl 1 rfl) ?_
  refine x_get hx hb hts u_X3_copyFrom_X3 hown hE hP 0 rfl rfl 0 (by decide) (hts (.fieldLink RX3 9 "DecreasingDiagrams$LabelledSystem" "objects" "I") (List.mem_of_getElem? (i := 1) rfl)) rfl dX3_copyFrom_2 ?_
  obtain ⟨objects_5, e_objects_5, hf⟩ := lt_some hf
  refine x_put (w := .int objects_5) (ty := .int) (I' := [[(h_p1, .inr (3, [.int p1_objects, .ref a_p1_words, .int p1_steps, .ref a_p1_sources, .ref a_p1_targets, .ref a_p1_labels]))], [(a_p1_labels, .inl (G 0, 32, .inl p1_labels))], [(a_p1_sources, .inl (G 0, 32, .inl p1_sources))], [(a_p1_targets, .inl (G 0, 32, .inl p1_targets))], [(a_p1_words, .inl (G 0, 16, .inl p1_words))], [(h, .inr (3, [.int objects_5, .ref a_words, .int steps, .ref a_sources, .ref a_targets, .ref a_labels]))], [(a_labels, .inl (G 0, 32, .inl labels))], [(a_sources, .inl (G 0, 32, .inl sources))], [(a_targets, .inl (G 0, 32, .inl targets))], [(a_words, .inl (G 0, 16, .inl words))]]) hx hb hts u_X3_copyFrom_X3 tyX3 tyX3_ok nmX3 hown hE hP hN hS 5 rfl rfl 0 (by decide) (hts (.fieldLink RX3 9 "DecreasingDiagrams$LabelledSystem" "objects" "I") (List.mem_of_getElem? (i := 1) rfl)) rfl (congrArg Value.int e_objects_5) (by decide +kernel) rfl rfl (Nat.le_of_ble_eq_true rfl) rfl dX3_copyFrom_5 (fun H locs hP hS => ?_)
  refine lv_aload_n hx hb dX3_copyFrom_8 rfl (lv_at hl 1 rfl) ?_
  refine x_get hx hb hts u_X3_copyFrom_X3 hown hE hP 0 rfl rfl 1 (by decide) (hts (.fieldLink RX3 15 "DecreasingDiagrams$LabelledSystem" "words" "[I") (List.mem_of_getElem? (i := 2) rfl)) rfl dX3_copyFrom_9 ?_
  refine lv_iconst (v := 0) hx hb dX3_copyFrom_12 (by decide) ?_
  refine lv_aload_n hx hb dX3_copyFrom_13 rfl (lv_at hl 0 rfl) ?_
  refine x_get hx hb hts u_X3_copyFrom_X3 hown hE hP 5 rfl rfl 1 (by decide) (hts (.fieldLink RX3 15 "DecreasingDiagrams$LabelledSystem" "words" "[I") (List.mem_of_getElem? (i := 2) rfl)) rfl dX3_copyFrom_14 ?_
  refine lv_iconst (v := 0) hx hb dX3_copyFrom_17 (by decide) ?_
  refine lv_bipush (v := 16) hx hb dX3_copyFrom_18 (by decide) ?_
  obtain ⟨words_20, e_words_20, hf⟩ := lt_some hf
  refine x_copyi (I' := [[(h_p1, .inr (3, [.int p1_objects, .ref a_p1_words, .int p1_steps, .ref a_p1_sources, .ref a_p1_targets, .ref a_p1_labels]))], [(a_p1_labels, .inl (G 0, 32, .inl p1_labels))], [(a_p1_sources, .inl (G 0, 32, .inl p1_sources))], [(a_p1_targets, .inl (G 0, 32, .inl p1_targets))], [(a_p1_words, .inl (G 0, 16, .inl p1_words))], [(h, .inr (3, [.int objects_5, .ref a_words, .int steps, .ref a_sources, .ref a_targets, .ref a_labels]))], [(a_labels, .inl (G 0, 32, .inl labels))], [(a_sources, .inl (G 0, 32, .inl sources))], [(a_targets, .inl (G 0, 32, .inl targets))], [(a_words, .inl (G 0, 16, .inl words_20))]]) hx hb (hml.trans hl.1.symm) hown (hts (.methodLink RX3 31 arraycopyName) (List.mem_of_getElem? (i := 3) rfl)) (hts (.native arraycopyName) (List.mem_of_getElem? (i := 4) rfl)) (hts (.static arraycopyName) (List.mem_of_getElem? (i := 5) rfl)) (hts (.initialized RJ10) (List.mem_of_getElem? (i := 6) rfl)) hE hP hN hS 4 9 rfl rfl (by decide) (by decide) (by decide) (by decide) (by decide) (by decide) (by decide) (by rw [e_words_20]; rfl) rfl dX3_copyFrom_20 (fun H locs hP hS => ?_)
  refine lv_aload_n hx hb dX3_copyFrom_23 rfl (lv_at hl 0 rfl) ?_
  refine lv_aload_n hx hb dX3_copyFrom_24 rfl (lv_at hl 1 rfl) ?_
  refine x_get hx hb hts u_X3_copyFrom_X3 hown hE hP 0 rfl rfl 2 (by decide) (hts (.fieldLink RX3 19 "DecreasingDiagrams$LabelledSystem" "steps" "I") (List.mem_of_getElem? (i := 7) rfl)) rfl dX3_copyFrom_25 ?_
  obtain ⟨steps_28, e_steps_28, hf⟩ := lt_some hf
  refine x_put (w := .int steps_28) (ty := .int) (I' := [[(h_p1, .inr (3, [.int p1_objects, .ref a_p1_words, .int p1_steps, .ref a_p1_sources, .ref a_p1_targets, .ref a_p1_labels]))], [(a_p1_labels, .inl (G 0, 32, .inl p1_labels))], [(a_p1_sources, .inl (G 0, 32, .inl p1_sources))], [(a_p1_targets, .inl (G 0, 32, .inl p1_targets))], [(a_p1_words, .inl (G 0, 16, .inl p1_words))], [(h, .inr (3, [.int objects_5, .ref a_words, .int steps_28, .ref a_sources, .ref a_targets, .ref a_labels]))], [(a_labels, .inl (G 0, 32, .inl labels))], [(a_sources, .inl (G 0, 32, .inl sources))], [(a_targets, .inl (G 0, 32, .inl targets))], [(a_words, .inl (G 0, 16, .inl words_20))]]) hx hb hts u_X3_copyFrom_X3 tyX3 tyX3_ok nmX3 hown hE hP hN hS 5 rfl rfl 2 (by decide) (hts (.fieldLink RX3 19 "DecreasingDiagrams$LabelledSystem" "steps" "I") (List.mem_of_getElem? (i := 7) rfl)) rfl (congrArg Value.int e_steps_28) (by decide +kernel) rfl rfl (Nat.le_of_ble_eq_true rfl) rfl dX3_copyFrom_28 (fun H locs hP hS => ?_)
  refine lv_aload_n hx hb dX3_copyFrom_31 rfl (lv_at hl 1 rfl) ?_
  refine x_get hx hb hts u_X3_copyFrom_X3 hown hE hP 0 rfl rfl 3 (by decide) (hts (.fieldLink RX3 22 "DecreasingDiagrams$LabelledSystem" "sources" "[I") (List.mem_of_getElem? (i := 8) rfl)) rfl dX3_copyFrom_32 ?_
  refine lv_iconst (v := 0) hx hb dX3_copyFrom_35 (by decide) ?_
  refine lv_aload_n hx hb dX3_copyFrom_36 rfl (lv_at hl 0 rfl) ?_
  refine x_get hx hb hts u_X3_copyFrom_X3 hown hE hP 5 rfl rfl 3 (by decide) (hts (.fieldLink RX3 22 "DecreasingDiagrams$LabelledSystem" "sources" "[I") (List.mem_of_getElem? (i := 8) rfl)) rfl dX3_copyFrom_37 ?_
  refine lv_iconst (v := 0) hx hb dX3_copyFrom_40 (by decide) ?_
  refine lv_bipush (v := 32) hx hb dX3_copyFrom_41 (by decide) ?_
  obtain ⟨sources_43, e_sources_43, hf⟩ := lt_some hf
  refine x_copyi (I' := [[(h_p1, .inr (3, [.int p1_objects, .ref a_p1_words, .int p1_steps, .ref a_p1_sources, .ref a_p1_targets, .ref a_p1_labels]))], [(a_p1_labels, .inl (G 0, 32, .inl p1_labels))], [(a_p1_sources, .inl (G 0, 32, .inl p1_sources))], [(a_p1_targets, .inl (G 0, 32, .inl p1_targets))], [(a_p1_words, .inl (G 0, 16, .inl p1_words))], [(h, .inr (3, [.int objects_5, .ref a_words, .int steps_28, .ref a_sources, .ref a_targets, .ref a_labels]))], [(a_labels, .inl (G 0, 32, .inl labels))], [(a_sources, .inl (G 0, 32, .inl sources_43))], [(a_targets, .inl (G 0, 32, .inl targets))], [(a_words, .inl (G 0, 16, .inl words_20))]]) hx hb (hml.trans hl.1.symm) hown (hts (.methodLink RX3 31 arraycopyName) (List.mem_of_getElem? (i := 3) rfl)) (hts (.native arraycopyName) (List.mem_of_getElem? (i := 4) rfl)) (hts (.static arraycopyName) (List.mem_of_getElem? (i := 5) rfl)) (hts (.initialized RJ10) (List.mem_of_getElem? (i := 6) rfl)) hE hP hN hS 2 7 rfl rfl (by decide) (by decide) (by decide) (by decide) (by decide) (by decide) (by decide) (by rw [e_sources_43]; rfl) rfl dX3_copyFrom_43 (fun H locs hP hS => ?_)
  refine lv_aload_n hx hb dX3_copyFrom_46 rfl (lv_at hl 1 rfl) ?_
  refine x_get hx hb hts u_X3_copyFrom_X3 hown hE hP 0 rfl rfl 4 (by decide) (hts (.fieldLink RX3 25 "DecreasingDiagrams$LabelledSystem" "targets" "[I") (List.mem_of_getElem? (i := 9) rfl)) rfl dX3_copyFrom_47 ?_
  refine lv_iconst (v := 0) hx hb dX3_copyFrom_50 (by decide) ?_
  refine lv_aload_n hx hb dX3_copyFrom_51 rfl (lv_at hl 0 rfl) ?_
  refine x_get hx hb hts u_X3_copyFrom_X3 hown hE hP 5 rfl rfl 4 (by decide) (hts (.fieldLink RX3 25 "DecreasingDiagrams$LabelledSystem" "targets" "[I") (List.mem_of_getElem? (i := 9) rfl)) rfl dX3_copyFrom_52 ?_
  refine lv_iconst (v := 0) hx hb dX3_copyFrom_55 (by decide) ?_
  refine lv_bipush (v := 32) hx hb dX3_copyFrom_56 (by decide) ?_
  obtain ⟨targets_58, e_targets_58, hf⟩ := lt_some hf
  refine x_copyi (I' := [[(h_p1, .inr (3, [.int p1_objects, .ref a_p1_words, .int p1_steps, .ref a_p1_sources, .ref a_p1_targets, .ref a_p1_labels]))], [(a_p1_labels, .inl (G 0, 32, .inl p1_labels))], [(a_p1_sources, .inl (G 0, 32, .inl p1_sources))], [(a_p1_targets, .inl (G 0, 32, .inl p1_targets))], [(a_p1_words, .inl (G 0, 16, .inl p1_words))], [(h, .inr (3, [.int objects_5, .ref a_words, .int steps_28, .ref a_sources, .ref a_targets, .ref a_labels]))], [(a_labels, .inl (G 0, 32, .inl labels))], [(a_sources, .inl (G 0, 32, .inl sources_43))], [(a_targets, .inl (G 0, 32, .inl targets_58))], [(a_words, .inl (G 0, 16, .inl words_20))]]) hx hb (hml.trans hl.1.symm) hown (hts (.methodLink RX3 31 arraycopyName) (List.mem_of_getElem? (i := 3) rfl)) (hts (.native arraycopyName) (List.mem_of_getElem? (i := 4) rfl)) (hts (.static arraycopyName) (List.mem_of_getElem? (i := 5) rfl)) (hts (.initialized RJ10) (List.mem_of_getElem? (i := 6) rfl)) hE hP hN hS 3 8 rfl rfl (by decide) (by decide) (by decide) (by decide) (by decide) (by decide) (by decide) (by rw [e_targets_58]; rfl) rfl dX3_copyFrom_58 (fun H locs hP hS => ?_)
  refine lv_aload_n hx hb dX3_copyFrom_61 rfl (lv_at hl 1 rfl) ?_
  refine x_get hx hb hts u_X3_copyFrom_X3 hown hE hP 0 rfl rfl 5 (by decide) (hts (.fieldLink RX3 28 "DecreasingDiagrams$LabelledSystem" "labels" "[I") (List.mem_of_getElem? (i := 10) rfl)) rfl dX3_copyFrom_62 ?_
  refine lv_iconst (v := 0) hx hb dX3_copyFrom_65 (by decide) ?_
  refine lv_aload_n hx hb dX3_copyFrom_66 rfl (lv_at hl 0 rfl) ?_
  refine x_get hx hb hts u_X3_copyFrom_X3 hown hE hP 5 rfl rfl 5 (by decide) (hts (.fieldLink RX3 28 "DecreasingDiagrams$LabelledSystem" "labels" "[I") (List.mem_of_getElem? (i := 10) rfl)) rfl dX3_copyFrom_67 ?_
  refine lv_iconst (v := 0) hx hb dX3_copyFrom_70 (by decide) ?_
  refine lv_bipush (v := 32) hx hb dX3_copyFrom_71 (by decide) ?_
  obtain ⟨labels_73, e_labels_73, hf⟩ := lt_some hf
  refine x_copyi (I' := [[(h_p1, .inr (3, [.int p1_objects, .ref a_p1_words, .int p1_steps, .ref a_p1_sources, .ref a_p1_targets, .ref a_p1_labels]))], [(a_p1_labels, .inl (G 0, 32, .inl p1_labels))], [(a_p1_sources, .inl (G 0, 32, .inl p1_sources))], [(a_p1_targets, .inl (G 0, 32, .inl p1_targets))], [(a_p1_words, .inl (G 0, 16, .inl p1_words))], [(h, .inr (3, [.int objects_5, .ref a_words, .int steps_28, .ref a_sources, .ref a_targets, .ref a_labels]))], [(a_labels, .inl (G 0, 32, .inl labels_73))], [(a_sources, .inl (G 0, 32, .inl sources_43))], [(a_targets, .inl (G 0, 32, .inl targets_58))], [(a_words, .inl (G 0, 16, .inl words_20))]]) hx hb (hml.trans hl.1.symm) hown (hts (.methodLink RX3 31 arraycopyName) (List.mem_of_getElem? (i := 3) rfl)) (hts (.native arraycopyName) (List.mem_of_getElem? (i := 4) rfl)) (hts (.static arraycopyName) (List.mem_of_getElem? (i := 5) rfl)) (hts (.initialized RJ10) (List.mem_of_getElem? (i := 6) rfl)) hE hP hN hS 1 6 rfl rfl (by decide) (by decide) (by decide) (by decide) (by decide) (by decide) (by decide) (by rw [e_labels_73]; rfl) rfl dX3_copyFrom_73 (fun H locs hP hS => ?_)
  have hf := Option.some.inj hf
  rewrite [← hQ, ← hf]
  exact x_vret hx hb hr hlocks hP hS dX3_copyFrom_76

set_option maxRecDepth 20000 in
theorem u_X11_failure_X11 : ∀ w ∈ wsX110, w ∈ wsX11_failure := xx_pl _ [2, 3, 4, 5, 6, 7, 8, 9, 10, 11, 12, 13, 14, 15, 16, 17] (by decide +kernel)
set_option maxRecDepth 20000 in
theorem u_X11_failure_X0 : ∀ w ∈ wsX00, w ∈ wsX11_failure := xx_pl _ [18, 19, 20, 21] (by decide +kernel)
def f_X11_failure (explorer_failedObject : Int32) (explorer_failedRule : Int32) (explorer_failedLimit : Int32) (v1 : Int32) : Option (Int32) :=
  if v1 = 0 then (some explorer_failedObject) else (if v1 = 1 then (some explorer_failedRule) else (if v1 = 2 then (some explorer_failedLimit) else (some (-2))))
set_option maxHeartbeats 4000000 in
set_option maxRecDepth 100000 in
theorem k_X11_failure (l : Launch) (D : va_G) (G : Nat → ClassId) (fu : Nat) (h : Nat) (h_order : Nat) (h_system : Nat) (h_rules : Nat) (h_savedOrder : Nat) (h_savedSystem : Nat) (h_savedRules : Nat) (h_peaks : Nat) (h_leftPaths : Nat) (h_rightPaths : Nat) (h_text : Nat) (h_labellings : Nat) (h_input : Nat) (h_explorer : Nat) (h_arrays : Nat) (a_reach : Nat) (h_explorer_draft : Nat) (snapshotSaved : Int32) (explorer_failedObject : Int32) (explorer_failedRule : Int32) (explorer_failedLimit : Int32)  (v1 : Int32) (out : Int32) (hf : f_X11_failure explorer_failedObject explorer_failedRule explorer_failedLimit v1 = some out) : xMet l yX11_failure wsX11_failure (rM 0 0) D G [.ref h, .int v1] [[(h, .inr (10, [.ref h_order, .ref h_system, .ref h_rules, .ref h_savedOrder, .ref h_savedSystem, .ref h_savedRules, .int snapshotSaved, .ref h_peaks, .ref h_leftPaths, .ref h_rightPaths, .ref h_text, .ref h_labellings, .ref h_input, .ref h_explorer, .ref h_arrays, .ref a_reach]))], [(h_explorer, .inr (0, [.ref h_explorer_draft, .int explorer_failedObject, .int explorer_failedRule, .int explorer_failedLimit]))]] (xQi D [[(h, .inr (10, [.ref h_order, .ref h_system, .ref h_rules, .ref h_savedOrder, .ref h_savedSystem, .ref h_savedRules, .int snapshotSaved, .ref h_peaks, .ref h_leftPaths, .ref h_rightPaths, .ref h_text, .ref h_labellings, .ref h_input, .ref h_explorer, .ref h_arrays, .ref a_reach]))], [(h_explorer, .inr (0, [.ref h_explorer_draft, .int explorer_failedObject, .int explorer_failedRule, .int explorer_failedLimit]))]] out) := by
  refine x_ent (cc := cX11_failure) (maxL := 2) (by decide) rfl (Nat.le_of_ble_eq_true rfl) ?_
  intro p e s m blw meth c aa ls args Q H locs hQ hx hb hr hml hown hts hlocks hE hN hl hP hS
  have hown : s.vm.findClass RX11 = some m.cls := hown
  have hl : lv_has ls 2 [(0, .ref h), (1, .int v1)] := hl
  refine lv_iload_n hx hb dX11_failure_0 rfl (lv_at hl 1 rfl) ?_
  by_cases c_0 : v1 = 0
  · have hf := it_pos c_0 hf
    rw [c_0]
    refine lv_tableIn (tgt := 28) hx hb dX11_failure_1 (by decide) (by decide) rfl (by decide) ?_
    refine lv_aload_n hx hb dX11_failure_28 rfl (lv_at hl 0 rfl) ?_
    refine x_get hx hb hts u_X11_failure_X11 hown hE hP 0 rfl rfl 13 (by decide) (hts (.fieldLink RX11 84 "DecreasingDiagrams" "explorer" "LDecreasingDiagrams$Explorer;") (List.mem_of_getElem? (i := 1) rfl)) rfl dX11_failure_29 ?_
    refine x_getN hx hb hts u_X11_failure_X0 hown hE hP 1 rfl rfl 1 (by decide) (hE.2 (.fieldLinkNest RX11 300 "DecreasingDiagrams$Explorer" "failedObject" "I" RX11) (List.mem_of_getElem? (i := 47) rfl)) rfl dX11_failure_32 ?_
    have hf := Option.some.inj hf
    rewrite [← hQ, ← hf]
    exact x_iret hx hb hr hlocks hP hS dX11_failure_35
  have hf := it_neg c_0 hf
  by_cases c_1 : v1 = 1
  · have hf := it_pos c_1 hf
    rw [c_1]
    refine lv_tableIn (tgt := 36) hx hb dX11_failure_1 (by decide) (by decide) rfl (by decide) ?_
    refine lv_aload_n hx hb dX11_failure_36 rfl (lv_at hl 0 rfl) ?_
    refine x_get hx hb hts u_X11_failure_X11 hown hE hP 0 rfl rfl 13 (by decide) (hts (.fieldLink RX11 84 "DecreasingDiagrams" "explorer" "LDecreasingDiagrams$Explorer;") (List.mem_of_getElem? (i := 1) rfl)) rfl dX11_failure_37 ?_
    refine x_getN hx hb hts u_X11_failure_X0 hown hE hP 1 rfl rfl 2 (by decide) (hE.2 (.fieldLinkNest RX11 303 "DecreasingDiagrams$Explorer" "failedRule" "I" RX11) (List.mem_of_getElem? (i := 48) rfl)) rfl dX11_failure_40 ?_
    have hf := Option.some.inj hf
    rewrite [← hQ, ← hf]
    exact x_iret hx hb hr hlocks hP hS dX11_failure_43
  have hf := it_neg c_1 hf
  by_cases c_2 : v1 = 2
  · have hf := it_pos c_2 hf
    rw [c_2]
    refine lv_tableIn (tgt := 44) hx hb dX11_failure_1 (by decide) (by decide) rfl (by decide) ?_
    refine lv_aload_n hx hb dX11_failure_44 rfl (lv_at hl 0 rfl) ?_
    refine x_get hx hb hts u_X11_failure_X11 hown hE hP 0 rfl rfl 13 (by decide) (hts (.fieldLink RX11 84 "DecreasingDiagrams" "explorer" "LDecreasingDiagrams$Explorer;") (List.mem_of_getElem? (i := 1) rfl)) rfl dX11_failure_45 ?_
    refine x_getN hx hb hts u_X11_failure_X0 hown hE hP 1 rfl rfl 3 (by decide) (hE.2 (.fieldLinkNest RX11 306 "DecreasingDiagrams$Explorer" "failedLimit" "I" RX11) (List.mem_of_getElem? (i := 49) rfl)) rfl dX11_failure_48 ?_
    have hf := Option.some.inj hf
    rewrite [← hQ, ← hf]
    exact x_iret hx hb hr hlocks hP hS dX11_failure_51
  have hf := it_neg c_2 hf
  refine lv_tableOut (tgt := 52) hx hb dX11_failure_1 (sw_out c_0 c_1 c_2) (by decide) ?_
  refine lv_bipush (v := -2) hx hb dX11_failure_52 (by decide) ?_
  have hf := Option.some.inj hf
  rewrite [← hQ, ← hf]
  exact x_iret hx hb hr hlocks hP hS dX11_failure_54

set_option maxRecDepth 20000 in
theorem u_X1_append_X1 : ∀ w ∈ wsX10, w ∈ wsX1_append := xx_pl _ [3, 4] (by decide +kernel)
def f_X1_append (length : Int32) (bytes : (Nat → Int32)) (v1 : Int32) : Option ((Nat → Int32) × Int32) :=
  if 20 ≤ length then (some (bytes, length)) else (ck length 20 (lt (upd bytes length.toNatClampNeg v1) (fun bytes_18 => lt (length + 1) (fun length_26 => some (bytes_18, length_26)))))
set_option maxHeartbeats 4000000 in
set_option maxRecDepth 100000 in
theorem k_X1_append (l : Launch) (D : va_G) (G : Nat → ClassId) (fu : Nat) (h : Nat) (a_bytes : Nat) (length : Int32) (bytes : (Nat → Int32))  (v1 : Int32) (out : (Nat → Int32) × Int32) (hf : f_X1_append length bytes v1 = some out) : xMet l yX1_append wsX1_append (rM 0 0) D G [.ref h, .int v1] [[(h, .inr (1, [.int length, .ref a_bytes]))], [(a_bytes, .inl (G 0, 20, .inl bytes))]] (xQv D [[(h, .inr (1, [.int out.2, .ref a_bytes]))], [(a_bytes, .inl (G 0, 20, .inl out.1))]]) := by
  refine x_ent (cc := cX1_append) (maxL := 2) (by decide) rfl (Nat.le_of_ble_eq_true rfl) ?_
  intro p e s m blw meth c aa ls args Q H locs hQ hx hb hr hml hown hts hlocks hE hN hl hP hS
  have hown : s.vm.findClass RX1 = some m.cls := hown
  have hl : lv_has ls 2 [(0, .ref h), (1, .int v1)] := hl
  refine lv_aload_n hx hb dX1_append_0 rfl (lv_at hl 0 rfl) ?_
  refine x_get hx hb hts u_X1_append_X1 hown hE hP 0 rfl rfl 0 (by decide) (hts (.fieldLink RX1 9 "DecreasingDiagrams$InputLine" "length" "I") (List.mem_of_getElem? (i := 1) rfl)) rfl dX1_append_1 ?_
  refine lv_bipush (v := 20) hx hb dX1_append_4 (by decide) ?_
  refine lv_icmp_ge (tgt := 29) hx hb dX1_append_6 (by decide) (fun c_6 => ?_) (fun c_6 => ?_)
  · have hf := it_pos c_6 hf
    have hf := Option.some.inj hf
    rewrite [← hQ, ← hf]
    exact x_vret hx hb hr hlocks hP hS dX1_append_29
  · have hf := it_neg c_6 hf
    refine lv_aload_n hx hb dX1_append_9 rfl (lv_at hl 0 rfl) ?_
    refine x_get hx hb hts u_X1_append_X1 hown hE hP 0 rfl rfl 1 (by decide) (hts (.fieldLink RX1 15 "DecreasingDiagrams$InputLine" "bytes" "[I") (List.mem_of_getElem? (i := 2) rfl)) rfl dX1_append_10 ?_
    refine lv_aload_n hx hb dX1_append_13 rfl (lv_at hl 0 rfl) ?_
    refine x_get hx hb hts u_X1_append_X1 hown hE hP 0 rfl rfl 0 (by decide) (hts (.fieldLink RX1 9 "DecreasingDiagrams$InputLine" "length" "I") (List.mem_of_getElem? (i := 1) rfl)) rfl dX1_append_14 ?_
    refine lv_iload_n hx hb dX1_append_17 rfl (lv_at hl 1 rfl) ?_
    obtain ⟨hi, hf⟩ := ck_some hf
    obtain ⟨bytes_18, e_bytes_18, hf⟩ := lt_some hf
    refine x_iast (I' := [[(h, .inr (1, [.int length, .ref a_bytes]))], [(a_bytes, .inl (G 0, 20, .inl bytes_18))]]) hx hb hE hP hN hS 1 rfl hi e_bytes_18 rfl dX1_append_18 (fun H locs hP hS => ?_)
    refine lv_aload_n hx hb dX1_append_19 rfl (lv_at hl 0 rfl) ?_
    refine lv_dup hx hb dX1_append_20 rfl ?_
    refine x_get hx hb hts u_X1_append_X1 hown hE hP 0 rfl rfl 0 (by decide) (hts (.fieldLink RX1 9 "DecreasingDiagrams$InputLine" "length" "I") (List.mem_of_getElem? (i := 1) rfl)) rfl dX1_append_21 ?_
    refine lv_iconst (v := 1) hx hb dX1_append_24 (by decide) ?_
    refine lv_iadd hx hb dX1_append_25 ?_
    obtain ⟨length_26, e_length_26, hf⟩ := lt_some hf
    refine x_put (w := .int length_26) (ty := .int) (I' := [[(h, .inr (1, [.int length_26, .ref a_bytes]))], [(a_bytes, .inl (G 0, 20, .inl bytes_18))]]) hx hb hts u_X1_append_X1 tyX1 tyX1_ok nmX1 hown hE hP hN hS 0 rfl rfl 0 (by decide) (hts (.fieldLink RX1 9 "DecreasingDiagrams$InputLine" "length" "I") (List.mem_of_getElem? (i := 1) rfl)) rfl (congrArg Value.int e_length_26) (by decide +kernel) rfl rfl (Nat.le_of_ble_eq_true rfl) rfl dX1_append_26 (fun H locs hP hS => ?_)
    have hf := Option.some.inj hf
    rewrite [← hQ, ← hf]
    exact x_vret hx hb hr hlocks hP hS dX1_append_29

set_option maxRecDepth 20000 in
theorem u_X11_feed_X11 : ∀ w ∈ wsX110, w ∈ wsX11_feed := xx_pl _ [8, 9, 10, 11, 12, 13, 14, 15, 16, 17, 18, 19, 20, 21, 22, 23] (by decide +kernel)
set_option maxRecDepth 20000 in
theorem u_X11_feed_X1 : ∀ w ∈ wsX10, w ∈ wsX11_feed := xx_pl _ [24, 25] (by decide +kernel)
def f_X11_feed (input_length : Int32) (input_bytes : (Nat → Int32)) (v1 : Int32) : Option (Int32 × (Nat → Int32) × Int32) :=
  if v1 < 1 then (some ((-1), input_bytes, input_length)) else (if v1 ≤ 127 then (if input_length < 20 then ((f_X1_append input_length input_bytes v1).bind (fun r_33 => some (r_33.2, r_33.1, r_33.2))) else (some ((-3), input_bytes, input_length))) else (some ((-1), input_bytes, input_length)))
set_option maxHeartbeats 4000000 in
set_option maxRecDepth 100000 in
theorem k_X11_feed (l : Launch) (D : va_G) (G : Nat → ClassId) (fu : Nat) (h : Nat) (h_order : Nat) (h_system : Nat) (h_rules : Nat) (h_savedOrder : Nat) (h_savedSystem : Nat) (h_savedRules : Nat) (h_peaks : Nat) (h_leftPaths : Nat) (h_rightPaths : Nat) (h_text : Nat) (h_labellings : Nat) (h_input : Nat) (h_explorer : Nat) (h_arrays : Nat) (a_reach : Nat) (a_input_bytes : Nat) (snapshotSaved : Int32) (input_length : Int32) (input_bytes : (Nat → Int32))  (v1 : Int32) (out : Int32 × (Nat → Int32) × Int32) (hf : f_X11_feed input_length input_bytes v1 = some out) : xMet l yX11_feed wsX11_feed (rM 1 21) D G [.ref h, .int v1] [[(h, .inr (10, [.ref h_order, .ref h_system, .ref h_rules, .ref h_savedOrder, .ref h_savedSystem, .ref h_savedRules, .int snapshotSaved, .ref h_peaks, .ref h_leftPaths, .ref h_rightPaths, .ref h_text, .ref h_labellings, .ref h_input, .ref h_explorer, .ref h_arrays, .ref a_reach]))], [(h_input, .inr (1, [.int input_length, .ref a_input_bytes]))], [(a_input_bytes, .inl (G 0, 20, .inl input_bytes))]] (xQi D [[(h, .inr (10, [.ref h_order, .ref h_system, .ref h_rules, .ref h_savedOrder, .ref h_savedSystem, .ref h_savedRules, .int snapshotSaved, .ref h_peaks, .ref h_leftPaths, .ref h_rightPaths, .ref h_text, .ref h_labellings, .ref h_input, .ref h_explorer, .ref h_arrays, .ref a_reach]))], [(h_input, .inr (1, [.int out.2.2, .ref a_input_bytes]))], [(a_input_bytes, .inl (G 0, 20, .inl out.2.1))]] out.1) := by
  refine x_ent (cc := cX11_feed) (maxL := 2) (by decide) rfl (Nat.le_of_ble_eq_true rfl) ?_
  intro p e s m blw meth c aa ls args Q H locs hQ hx hb hr hml hown hts hlocks hE hN hl hP hS
  have hown : s.vm.findClass RX11 = some m.cls := hown
  have hl : lv_has ls 2 [(0, .ref h), (1, .int v1)] := hl
  refine lv_iload_n hx hb dX11_feed_0 rfl (lv_at hl 1 rfl) ?_
  refine lv_iconst (v := 1) hx hb dX11_feed_1 (by decide) ?_
  refine lv_icmp_lt (tgt := 11) hx hb dX11_feed_2 (by decide) (fun c_2 => ?_) (fun c_2 => ?_)
  · have hf := it_pos c_2 hf
    refine lv_iconst (v := -1) hx hb dX11_feed_11 (by decide) ?_
    have hf := Option.some.inj hf
    rewrite [← hQ, ← hf]
    exact x_iret hx hb hr hlocks hP hS dX11_feed_12
  · have hf := it_neg c_2 hf
    refine lv_iload_n hx hb dX11_feed_5 rfl (lv_at hl 1 rfl) ?_
    refine lv_bipush (v := 127) hx hb dX11_feed_6 (by decide) ?_
    refine lv_icmp_le (tgt := 13) hx hb dX11_feed_8 (by decide) (fun c_8 => ?_) (fun c_8 => ?_)
    · have hf := it_pos c_8 hf
      refine lv_aload_n hx hb dX11_feed_13 rfl (lv_at hl 0 rfl) ?_
      refine x_get hx hb hts u_X11_feed_X11 hown hE hP 0 rfl rfl 12 (by decide) (hts (.fieldLink RX11 77 "DecreasingDiagrams" "input" "LDecreasingDiagrams$InputLine;") (List.mem_of_getElem? (i := 1) rfl)) rfl dX11_feed_14 ?_
      refine x_getN hx hb hts u_X11_feed_X1 hown hE hP 1 rfl rfl 0 (by decide) (hE.2 (.fieldLinkNest RX11 271 "DecreasingDiagrams$InputLine" "length" "I" RX11) (List.mem_of_getElem? (i := 43) rfl)) rfl dX11_feed_17 ?_
      refine lv_bipush (v := 20) hx hb dX11_feed_20 (by decide) ?_
      refine lv_icmp_lt (tgt := 28) hx hb dX11_feed_22 (by decide) (fun c_22 => ?_) (fun c_22 => ?_)
      · have hf := it_pos c_22 hf
        refine lv_aload_n hx hb dX11_feed_28 rfl (lv_at hl 0 rfl) ?_
        refine x_get hx hb hts u_X11_feed_X11 hown hE hP 0 rfl rfl 12 (by decide) (hts (.fieldLink RX11 77 "DecreasingDiagrams" "input" "LDecreasingDiagrams$InputLine;") (List.mem_of_getElem? (i := 1) rfl)) rfl dX11_feed_29 ?_
        refine lv_iload_n hx hb dX11_feed_32 rfl (lv_at hl 1 rfl) ?_
        obtain ⟨r_33, hr_33, hf⟩ := bd_some hf
        refine x_gov (ps := [1, 2]) (qs := [0]) (n := 3) (I' := [[(h, .inr (10, [.ref h_order, .ref h_system, .ref h_rules, .ref h_savedOrder, .ref h_savedSystem, .ref h_savedRules, .int snapshotSaved, .ref h_peaks, .ref h_leftPaths, .ref h_rightPaths, .ref h_text, .ref h_labellings, .ref h_input, .ref h_explorer, .ref h_arrays, .ref a_reach]))], [(h_input, .inr (1, [.int r_33.2, .ref a_input_bytes]))], [(a_input_bytes, .inl (G 0, 20, .inl r_33.1))]]) (x_runVN (As := [.int v1]) (rest := []) (ps := [1, 2]) ⟨hx, hb, hml, hown, hts⟩ (k_X1_append l D G fu h_input a_input_bytes input_length input_bytes v1 r_33 hr_33) ⟨va_cnB 1 hts gX11_feed_X1_append_n272 rfl rfl rfl (hE.2 (.methodLinkNest RX11 272 yX1_append RX11) (List.mem_of_getElem? (i := 92) rfl)) (hts (.initialized RX1) (List.mem_of_getElem? (i := 3) rfl)) (by decide +kernel) ⟨Nat.le_of_ble_eq_true rfl, Nat.le_of_ble_eq_true rfl⟩, (hts (.instanceMethod yX1_append) (List.mem_of_getElem? (i := 2) rfl)), (hts (.selects RX1 yX1_append yX1_append) (List.mem_of_getElem? (i := 4) rfl))⟩ hE hP hN rfl (by decide) 1 rfl rfl rfl hl.1 (Nat.le_of_ble_eq_true rfl) dX11_feed_33 ⟨Nat.zero_le _, Nat.zero_le _⟩) hP hN hS rfl rfl rfl rfl rfl (by decide) (fun H locs hP hS => ?_)
        refine lv_aload_n hx hb dX11_feed_36 rfl (lv_at hl 0 rfl) ?_
        refine x_get hx hb hts u_X11_feed_X11 hown hE hP 0 rfl rfl 12 (by decide) (hts (.fieldLink RX11 77 "DecreasingDiagrams" "input" "LDecreasingDiagrams$InputLine;") (List.mem_of_getElem? (i := 1) rfl)) rfl dX11_feed_37 ?_
        refine x_getN hx hb hts u_X11_feed_X1 hown hE hP 1 rfl rfl 0 (by decide) (hE.2 (.fieldLinkNest RX11 271 "DecreasingDiagrams$InputLine" "length" "I" RX11) (List.mem_of_getElem? (i := 43) rfl)) rfl dX11_feed_40 ?_
        have hf := Option.some.inj hf
        rewrite [← hQ, ← hf]
        exact x_iret hx hb hr hlocks hP hS dX11_feed_43
      · have hf := it_neg c_22 hf
        refine lv_bipush (v := -3) hx hb dX11_feed_25 (by decide) ?_
        have hf := Option.some.inj hf
        rewrite [← hQ, ← hf]
        exact x_iret hx hb hr hlocks hP hS dX11_feed_27
    · have hf := it_neg c_8 hf
      refine lv_iconst (v := -1) hx hb dX11_feed_11 (by decide) ?_
      have hf := Option.some.inj hf
      rewrite [← hQ, ← hf]
      exact x_iret hx hb hr hlocks hP hS dX11_feed_12

set_option maxRecDepth 20000 in
theorem u_X11_searchError_X11 : ∀ w ∈ wsX110, w ∈ wsX11_searchError := xx_pl _ [2, 3, 4, 5, 6, 7, 8, 9, 10, 11, 12, 13, 14, 15, 16, 17] (by decide +kernel)
set_option maxRecDepth 20000 in
theorem u_X11_searchError_X3 : ∀ w ∈ wsX30, w ∈ wsX11_searchError := xx_pl _ [18, 19, 20, 21, 22, 23] (by decide +kernel)
def f_X11_searchError (system_steps : Int32) (v1 : Int32) : Option (Int32) :=
  if v1 < 1 then (some (-1)) else (if v1 ≤ 3 then (if system_steps ≤ 8 then (some 0) else (some (-5))) else (some (-1)))
set_option maxHeartbeats 4000000 in
set_option maxRecDepth 100000 in
theorem k_X11_searchError (l : Launch) (D : va_G) (G : Nat → ClassId) (fu : Nat) (h : Nat) (h_order : Nat) (h_system : Nat) (h_rules : Nat) (h_savedOrder : Nat) (h_savedSystem : Nat) (h_savedRules : Nat) (h_peaks : Nat) (h_leftPaths : Nat) (h_rightPaths : Nat) (h_text : Nat) (h_labellings : Nat) (h_input : Nat) (h_explorer : Nat) (h_arrays : Nat) (a_reach : Nat) (a_system_words : Nat) (a_system_sources : Nat) (a_system_targets : Nat) (a_system_labels : Nat) (snapshotSaved : Int32) (system_objects : Int32) (system_steps : Int32)  (v1 : Int32) (out : Int32) (hf : f_X11_searchError system_steps v1 = some out) : xMet l yX11_searchError wsX11_searchError (rM 0 0) D G [.ref h, .int v1] [[(h, .inr (10, [.ref h_order, .ref h_system, .ref h_rules, .ref h_savedOrder, .ref h_savedSystem, .ref h_savedRules, .int snapshotSaved, .ref h_peaks, .ref h_leftPaths, .ref h_rightPaths, .ref h_text, .ref h_labellings, .ref h_input, .ref h_explorer, .ref h_arrays, .ref a_reach]))], [(h_system, .inr (3, [.int system_objects, .ref a_system_words, .int system_steps, .ref a_system_sources, .ref a_system_targets, .ref a_system_labels]))]] (xQi D [[(h, .inr (10, [.ref h_order, .ref h_system, .ref h_rules, .ref h_savedOrder, .ref h_savedSystem, .ref h_savedRules, .int snapshotSaved, .ref h_peaks, .ref h_leftPaths, .ref h_rightPaths, .ref h_text, .ref h_labellings, .ref h_input, .ref h_explorer, .ref h_arrays, .ref a_reach]))], [(h_system, .inr (3, [.int system_objects, .ref a_system_words, .int system_steps, .ref a_system_sources, .ref a_system_targets, .ref a_system_labels]))]] out) := by
  refine x_ent (cc := cX11_searchError) (maxL := 2) (by decide) rfl (Nat.le_of_ble_eq_true rfl) ?_
  intro p e s m blw meth c aa ls args Q H locs hQ hx hb hr hml hown hts hlocks hE hN hl hP hS
  have hown : s.vm.findClass RX11 = some m.cls := hown
  have hl : lv_has ls 2 [(0, .ref h), (1, .int v1)] := hl
  refine lv_iload_n hx hb dX11_searchError_0 rfl (lv_at hl 1 rfl) ?_
  refine lv_iconst (v := 1) hx hb dX11_searchError_1 (by decide) ?_
  refine lv_icmp_lt (tgt := 10) hx hb dX11_searchError_2 (by decide) (fun c_2 => ?_) (fun c_2 => ?_)
  · have hf := it_pos c_2 hf
    refine lv_iconst (v := -1) hx hb dX11_searchError_10 (by decide) ?_
    have hf := Option.some.inj hf
    rewrite [← hQ, ← hf]
    exact x_iret hx hb hr hlocks hP hS dX11_searchError_11
  · have hf := it_neg c_2 hf
    refine lv_iload_n hx hb dX11_searchError_5 rfl (lv_at hl 1 rfl) ?_
    refine lv_iconst (v := 3) hx hb dX11_searchError_6 (by decide) ?_
    refine lv_icmp_le (tgt := 12) hx hb dX11_searchError_7 (by decide) (fun c_7 => ?_) (fun c_7 => ?_)
    · have hf := it_pos c_7 hf
      refine lv_aload_n hx hb dX11_searchError_12 rfl (lv_at hl 0 rfl) ?_
      refine x_get hx hb hts u_X11_searchError_X11 hown hE hP 0 rfl rfl 1 (by decide) (hts (.fieldLink RX11 19 "DecreasingDiagrams" "system" "LDecreasingDiagrams$LabelledSystem;") (List.mem_of_getElem? (i := 1) rfl)) rfl dX11_searchError_13 ?_
      refine x_getN hx hb hts u_X11_searchError_X3 hown hE hP 1 rfl rfl 2 (by decide) (hE.2 (.fieldLinkNest RX11 142 "DecreasingDiagrams$LabelledSystem" "steps" "I" RX11) (List.mem_of_getElem? (i := 11) rfl)) rfl dX11_searchError_16 ?_
      refine lv_bipush (v := 8) hx hb dX11_searchError_19 (by decide) ?_
      refine lv_icmp_le (tgt := 29) hx hb dX11_searchError_21 (by decide) (fun c_21 => ?_) (fun c_21 => ?_)
      · have hf := it_pos c_21 hf
        refine lv_iconst (v := 0) hx hb dX11_searchError_29 (by decide) ?_
        have hf := Option.some.inj hf
        rewrite [← hQ, ← hf]
        exact x_iret hx hb hr hlocks hP hS dX11_searchError_30
      · have hf := it_neg c_21 hf
        refine lv_bipush (v := -5) hx hb dX11_searchError_24 (by decide) ?_
        refine lv_goto (tgt := 30) hx hb dX11_searchError_26 (by decide) ?_
        have hf := Option.some.inj hf
        rewrite [← hQ, ← hf]
        exact x_iret hx hb hr hlocks hP hS dX11_searchError_30
    · have hf := it_neg c_7 hf
      refine lv_iconst (v := -1) hx hb dX11_searchError_10 (by decide) ?_
      have hf := Option.some.inj hf
      rewrite [← hQ, ← hf]
      exact x_iret hx hb hr hlocks hP hS dX11_searchError_11

set_option maxRecDepth 20000 in
theorem u_X7_firstFailing_X7 : ∀ w ∈ wsX70, w ∈ wsX7_firstFailing := xx_pl _ [25, 26, 27] (by decide +kernel)
def f_X7_firstFailing_L2 (fu : Nat) (p1_objects : Int32) (p1_steps : Int32) (count : Int32) (p1_labels : (Nat → Int32)) (p1_sources : (Nat → Int32)) (p1_targets : (Nat → Int32)) (p2_below : (Nat → Int32)) (firsts : (Nat → Int32)) (seconds : (Nat → Int32)) (rec_2 : Int32 → Option (Int32)) (v3 : Int32) : Option (Int32) :=
  if count ≤ v3 then (some (-2)) else ((f_X7_decreases fu p1_objects p1_steps p1_labels p1_sources p1_targets p2_below firsts seconds v3).bind (fun r_14 => if ¬ r_14 = 0 then (lt (v3 + 1) (fun v3_22 => rec_2 v3_22)) else (some v3)))
def f_X7_firstFailing (fu : Nat) (p1_objects : Int32) (p1_steps : Int32) (count : Int32) (p1_labels : (Nat → Int32)) (p1_sources : (Nat → Int32)) (p1_targets : (Nat → Int32)) (p2_below : (Nat → Int32)) (firsts : (Nat → Int32)) (seconds : (Nat → Int32)) : Option (Int32) :=
  lt (0 : Int32) (fun v3_1 => lp (τ := Int32 → Option (Int32)) (fun _ => none) (f_X7_firstFailing_L2 fu p1_objects p1_steps count p1_labels p1_sources p1_targets p2_below firsts seconds) fu v3_1)
set_option maxHeartbeats 4000000 in
set_option maxRecDepth 100000 in
theorem k_X7_firstFailing (l : Launch) (D : va_G) (G : Nat → ClassId) (fu : Nat) (h : Nat) (h_p1 : Nat) (h_p2 : Nat) (a_p1_words : Nat) (a_p1_sources : Nat) (a_p1_targets : Nat) (a_p1_labels : Nat) (a_p2_pairs : Nat) (a_p2_below : Nat) (a_firsts : Nat) (a_seconds : Nat) (p1_objects : Int32) (p1_steps : Int32) (count : Int32) (p1_labels : (Nat → Int32)) (p1_sources : (Nat → Int32)) (p1_targets : (Nat → Int32)) (p2_below : (Nat → Int32)) (firsts : (Nat → Int32)) (seconds : (Nat → Int32))   (out : Int32) (hf : f_X7_firstFailing fu p1_objects p1_steps count p1_labels p1_sources p1_targets p2_below firsts seconds = some out) : xMet l yX7_firstFailing wsX7_firstFailing (rM 4 102) D G [.ref h, .ref h_p1, .ref h_p2] [[(h_p1, .inr (3, [.int p1_objects, .ref a_p1_words, .int p1_steps, .ref a_p1_sources, .ref a_p1_targets, .ref a_p1_labels]))], [(a_p1_labels, .inl (G 0, 32, .inl p1_labels))], [(a_p1_sources, .inl (G 0, 32, .inl p1_sources))], [(a_p1_targets, .inl (G 0, 32, .inl p1_targets))], [(h_p2, .inr (2, [.ref a_p2_pairs, .ref a_p2_below]))], [(a_p2_below, .inl (G 0, 8, .inl p2_below))], [(h, .inr (7, [.int count, .ref a_firsts, .ref a_seconds]))], [(a_firsts, .inl (G 0, 496, .inl firsts))], [(a_seconds, .inl (G 0, 496, .inl seconds))]] (xQi D [[(h_p1, .inr (3, [.int p1_objects, .ref a_p1_words, .int p1_steps, .ref a_p1_sources, .ref a_p1_targets, .ref a_p1_labels]))], [(a_p1_labels, .inl (G 0, 32, .inl p1_labels))], [(a_p1_sources, .inl (G 0, 32, .inl p1_sources))], [(a_p1_targets, .inl (G 0, 32, .inl p1_targets))], [(h_p2, .inr (2, [.ref a_p2_pairs, .ref a_p2_below]))], [(a_p2_below, .inl (G 0, 8, .inl p2_below))], [(h, .inr (7, [.int count, .ref a_firsts, .ref a_seconds]))], [(a_firsts, .inl (G 0, 496, .inl firsts))], [(a_seconds, .inl (G 0, 496, .inl seconds))]] out) := by
  refine x_ent (cc := cX7_firstFailing) (maxL := 4) (by decide) rfl (Nat.le_of_ble_eq_true rfl) ?_
  intro p e s m blw meth c aa ls args Q H locs hQ hx hb hr hml hown hts hlocks hE hN hl hP hS
  have hown : s.vm.findClass RX7 = some m.cls := hown
  have hl : lv_has ls 4 [(0, .ref h), (1, .ref h_p1), (2, .ref h_p2)] := hl
  have L2 : ∀ (n_2 : Nat) (v3 : Int32) (H : Heap) (locs : List Loc) (ls : Array Slot), xW D aa [[(h_p1, .inr (3, [.int p1_objects, .ref a_p1_words, .int p1_steps, .ref a_p1_sources, .ref a_p1_targets, .ref a_p1_labels]))], [(a_p1_labels, .inl (G 0, 32, .inl p1_labels))], [(a_p1_sources, .inl (G 0, 32, .inl p1_sources))], [(a_p1_targets, .inl (G 0, 32, .inl p1_targets))], [(h_p2, .inr (2, [.ref a_p2_pairs, .ref a_p2_below]))], [(a_p2_below, .inl (G 0, 8, .inl p2_below))], [(h, .inr (7, [.int count, .ref a_firsts, .ref a_seconds]))], [(a_firsts, .inl (G 0, 496, .inl firsts))], [(a_seconds, .inl (G 0, 496, .inl seconds))]] H → va_S (xA aa) s.heap H locs → lv_has ls 4 [(0, .ref h), (1, .ref h_p1), (2, .ref h_p2), (3, .int v3)] → lp (τ := Int32 → Option (Int32)) (fun _ => none) (f_X7_firstFailing_L2 fu p1_objects p1_steps count p1_labels p1_sources p1_targets p2_below firsts seconds) n_2 v3 = some out → W p l e (rM 4 102) s m args blw meth c H locs 0 0 Q (F0 m 2 ls []) := by
    intro    n_2
    induction n_2 with
    | zero =>
      intro v3 H locs ls hP hS hl hf
      exact no_some hf
    | succ n_2 ih_2 =>
      intro v3 H locs ls hP hS hl hf
      have hf : f_X7_firstFailing_L2 fu p1_objects p1_steps count p1_labels p1_sources p1_targets p2_below firsts seconds (lp (τ := Int32 → Option (Int32)) (fun _ => none) (f_X7_firstFailing_L2 fu p1_objects p1_steps count p1_labels p1_sources p1_targets p2_below firsts seconds) n_2) v3 = some out := hf
      refine lv_iload_n hx hb dX7_firstFailing_2 rfl (lv_at hl 3 rfl) ?_
      refine lv_aload_n hx hb dX7_firstFailing_3 rfl (lv_at hl 0 rfl) ?_
      refine x_get hx hb hts u_X7_firstFailing_X7 hown hE hP 6 rfl rfl 0 (by decide) (hts (.fieldLink RX7 9 "DecreasingDiagrams$Peaks" "count" "I") (List.mem_of_getElem? (i := 1) rfl)) rfl dX7_firstFailing_4 ?_
      refine lv_icmp_ge (tgt := 28) hx hb dX7_firstFailing_7 (by decide) (fun c_7 => ?_) (fun c_7 => ?_)
      · have hf := it_pos c_7 hf
        refine lv_bipush (v := -2) hx hb dX7_firstFailing_28 (by decide) ?_
        have hf := Option.some.inj hf
        rewrite [← hQ, ← hf]
        exact x_iret hx hb hr hlocks hP hS dX7_firstFailing_30
      · have hf := it_neg c_7 hf
        refine lv_aload_n hx hb dX7_firstFailing_10 rfl (lv_at hl 0 rfl) ?_
        refine lv_iload_n hx hb dX7_firstFailing_11 rfl (lv_at hl 3 rfl) ?_
        refine lv_aload_n hx hb dX7_firstFailing_12 rfl (lv_at hl 1 rfl) ?_
        refine lv_aload_n hx hb dX7_firstFailing_13 rfl (lv_at hl 2 rfl) ?_
        obtain ⟨r_14, hr_14, hf⟩ := bd_some hf
        refine x_goi0 (ps := [0, 1, 2, 3, 4, 5, 6, 7, 8]) (x_runV (As := [.int v3, .ref h_p1, .ref h_p2]) (rest := []) (ps := [0, 1, 2, 3, 4, 5, 6, 7, 8]) ⟨hx, hb, hml, hown, hts⟩ (k_X7_decreases l D G fu h h_p1 h_p2 a_p1_words a_p1_sources a_p1_targets a_p1_labels a_p2_pairs a_p2_below a_firsts a_seconds p1_objects p1_steps count p1_labels p1_sources p1_targets p2_below firsts seconds v3 r_14 hr_14) (cwV 3 hts gX7_firstFailing_X7_decreases rfl rfl rfl (by decide +kernel) ⟨Nat.le_of_ble_eq_true rfl, Nat.le_of_ble_eq_true rfl⟩) hE hP hN rfl (by decide) 6 rfl rfl rfl hl.1 (Nat.le_of_ble_eq_true rfl) dX7_firstFailing_14 ⟨Nat.zero_le _, Nat.zero_le _⟩) hP hN hS rfl (fun H locs hP hS => ?_)
        refine lv_if_ne (tgt := 22) hx hb dX7_firstFailing_17 (by decide) (fun c_17 => ?_) (fun c_17 => ?_)
        · have hf := it_pos c_17 hf
          obtain ⟨v3_22, e_v3_22, hf⟩ := lt_some hf
          refine lv_iinc (v := v3_22) (lv' := [(3, .int v3_22), (0, .ref h), (1, .ref h_p1), (2, .ref h_p2)]) hx hb dX7_firstFailing_22 hl (k := 3) rfl (by rw [e_v3_22]; rfl) (by decide) rfl (fun ls hl => ?_)
          refine lv_goto (tgt := 2) hx hb dX7_firstFailing_25 (by decide) ?_
          exact ih_2 v3_22 H locs ls hP hS (lv_sub hl [1, 2, 3, 0] rfl) hf
        · have hf := it_neg (fun h => h c_17) hf
          refine lv_iload_n hx hb dX7_firstFailing_20 rfl (lv_at hl 3 rfl) ?_
          have hf := Option.some.inj hf
          rewrite [← hQ, ← hf]
          exact x_iret hx hb hr hlocks hP hS dX7_firstFailing_21
  refine lv_iconst (v := 0) hx hb dX7_firstFailing_0 (by decide) ?_
  obtain ⟨v3_1, e_v3_1, hf⟩ := lt_some hf
  refine x_istore_n (v := v3_1) (lv' := [(3, .int v3_1), (0, .ref h), (1, .ref h_p1), (2, .ref h_p2)]) hx hb dX7_firstFailing_1 e_v3_1 rfl hl (by decide) rfl (fun ls hl => ?_)
  exact L2    fu v3_1 H locs ls hP hS (lv_sub hl [1, 2, 3, 0] rfl) hf

set_option maxRecDepth 20000 in
theorem u_X4_advance_X4 : ∀ w ∈ wsX40, w ∈ wsX4_advance := xx_pl _ [2, 3, 4, 5, 6] (by decide +kernel)
set_option maxRecDepth 20000 in
theorem u_X4_advance_X3 : ∀ w ∈ wsX30, w ∈ wsX4_advance := xx_pl _ [7, 8, 9, 10, 11, 12] (by decide +kernel)
def f_X4_advance_J29  (v2 : Int32) (trial_labels : (Nat → Int32)) : Option ((Nat → Int32)) :=
  ck v2 32 (ck v2 32 (lt (upd trial_labels v2.toNatClampNeg ((trial_labels v2.toNatClampNeg) + 1)) (fun trial_labels_41 => some trial_labels_41)))
def f_X4_advance_L10 (v1 : Int32) (rec_10 : Int32 → (Nat → Int32) → Option ((Nat → Int32))) (v2 : Int32) (trial_labels : (Nat → Int32)) : Option ((Nat → Int32)) :=
  if v2 < 0 then (some trial_labels) else (ck v2 32 (if v1 ≤ ((trial_labels v2.toNatClampNeg) + 1) then (ck v2 32 (lt (upd trial_labels v2.toNatClampNeg 0) (fun trial_labels_52 => lt (v2 + (-1)) (fun v2_53 => rec_10 v2_53 trial_labels_52)))) else (f_X4_advance_J29 v2 trial_labels)))
def f_X4_advance (fu : Nat) (trial_steps : Int32) (trial_labels : (Nat → Int32)) (v1 : Int32) : Option ((Nat → Int32)) :=
  lt (trial_steps - 1) (fun v2_9 => lp (τ := Int32 → (Nat → Int32) → Option ((Nat → Int32))) (fun _ _ => none) (f_X4_advance_L10 v1) fu v2_9 trial_labels)
set_option maxHeartbeats 4000000 in
set_option maxRecDepth 100000 in
theorem k_X4_advance (l : Launch) (D : va_G) (G : Nat → ClassId) (fu : Nat) (h : Nat) (h_trial : Nat) (h_natural : Nat) (h_trialPeaks : Nat) (a_found : Nat) (a_trial_words : Nat) (a_trial_sources : Nat) (a_trial_targets : Nat) (a_trial_labels : Nat) (foundSteps : Int32) (trial_objects : Int32) (trial_steps : Int32) (trial_labels : (Nat → Int32))  (v1 : Int32) (out : (Nat → Int32)) (hf : f_X4_advance fu trial_steps trial_labels v1 = some out) : xMet l yX4_advance wsX4_advance (rM 0 0) D G [.ref h, .int v1] [[(h, .inr (4, [.ref h_trial, .ref h_natural, .ref h_trialPeaks, .ref a_found, .int foundSteps]))], [(h_trial, .inr (3, [.int trial_objects, .ref a_trial_words, .int trial_steps, .ref a_trial_sources, .ref a_trial_targets, .ref a_trial_labels]))], [(a_trial_labels, .inl (G 0, 32, .inl trial_labels))]] (xQv D [[(h, .inr (4, [.ref h_trial, .ref h_natural, .ref h_trialPeaks, .ref a_found, .int foundSteps]))], [(h_trial, .inr (3, [.int trial_objects, .ref a_trial_words, .int trial_steps, .ref a_trial_sources, .ref a_trial_targets, .ref a_trial_labels]))], [(a_trial_labels, .inl (G 0, 32, .inl out))]]) := by
  refine x_ent (cc := cX4_advance) (maxL := 3) (by decide) rfl (Nat.le_of_ble_eq_true rfl) ?_
  intro p e s m blw meth c aa ls args Q H locs hQ hx hb hr hml hown hts hlocks hE hN hl hP hS
  have hown : s.vm.findClass RX4 = some m.cls := hown
  have hl : lv_has ls 3 [(0, .ref h), (1, .int v1)] := hl
  have J29 : ∀ (v2 : Int32) (trial_labels : (Nat → Int32)) (H : Heap) (locs : List Loc) (ls : Array Slot), xW D aa [[(h, .inr (4, [.ref h_trial, .ref h_natural, .ref h_trialPeaks, .ref a_found, .int foundSteps]))], [(h_trial, .inr (3, [.int trial_objects, .ref a_trial_words, .int trial_steps, .ref a_trial_sources, .ref a_trial_targets, .ref a_trial_labels]))], [(a_trial_labels, .inl (G 0, 32, .inl trial_labels))]] H → va_S (xA aa) s.heap H locs → lv_has ls 3 [(0, .ref h), (2, .int v2)] → f_X4_advance_J29  v2 trial_labels = some out → W p l e (rM 0 0) s m args blw meth c H locs 0 0 Q (F0 m 29 ls []) := by
    intro v2 trial_labels  H locs ls  hP hS hl hf
    refine lv_aload_n hx hb dX4_advance_29 rfl (lv_at hl 0 rfl) ?_
    refine x_get hx hb hts u_X4_advance_X4 hown hE hP 0 rfl rfl 0 (by decide) (hts (.fieldLink RX4 12 "DecreasingDiagrams$LabellingSearch" "trial" "LDecreasingDiagrams$LabelledSystem;") (List.mem_of_getElem? (i := 1) rfl)) rfl dX4_advance_30 ?_
    refine x_getN hx hb hts u_X4_advance_X3 hown hE hP 1 rfl rfl 5 (by decide) (hE.2 (.fieldLinkNest RX4 51 "DecreasingDiagrams$LabelledSystem" "labels" "[I" RX11) (List.mem_of_getElem? (i := 19) rfl)) rfl dX4_advance_33 ?_
    refine lv_iload_n hx hb dX4_advance_36 rfl (lv_at hl 1 rfl) ?_
    refine lv_dup2_11 hx hb dX4_advance_37 rfl rfl ?_
    obtain ⟨hi, hf⟩ := ck_some hf
    refine x_iald hx hb hE hP 2 rfl hi dX4_advance_38 ?_
    refine lv_iconst (v := 1) hx hb dX4_advance_39 (by decide) ?_
    refine lv_iadd hx hb dX4_advance_40 ?_
    obtain ⟨hi, hf⟩ := ck_some hf
    obtain ⟨trial_labels_41, e_trial_labels_41, hf⟩ := lt_some hf
    refine x_iast (I' := [[(h, .inr (4, [.ref h_trial, .ref h_natural, .ref h_trialPeaks, .ref a_found, .int foundSteps]))], [(h_trial, .inr (3, [.int trial_objects, .ref a_trial_words, .int trial_steps, .ref a_trial_sources, .ref a_trial_targets, .ref a_trial_labels]))], [(a_trial_labels, .inl (G 0, 32, .inl trial_labels_41))]]) hx hb hE hP hN hS 2 rfl hi e_trial_labels_41 rfl dX4_advance_41 (fun H locs hP hS => ?_)
    have hf := Option.some.inj hf
    rewrite [← hQ, ← hf]
    exact x_vret hx hb hr hlocks hP hS dX4_advance_42
  have L10 : ∀ (n_10 : Nat) (v2 : Int32) (trial_labels : (Nat → Int32)) (H : Heap) (locs : List Loc) (ls : Array Slot), xW D aa [[(h, .inr (4, [.ref h_trial, .ref h_natural, .ref h_trialPeaks, .ref a_found, .int foundSteps]))], [(h_trial, .inr (3, [.int trial_objects, .ref a_trial_words, .int trial_steps, .ref a_trial_sources, .ref a_trial_targets, .ref a_trial_labels]))], [(a_trial_labels, .inl (G 0, 32, .inl trial_labels))]] H → va_S (xA aa) s.heap H locs → lv_has ls 3 [(0, .ref h), (1, .int v1), (2, .int v2)] → lp (τ := Int32 → (Nat → Int32) → Option ((Nat → Int32))) (fun _ _ => none) (f_X4_advance_L10 v1) n_10 v2 trial_labels = some out → W p l e (rM 0 0) s m args blw meth c H locs 0 0 Q (F0 m 10 ls []) := by
    intro    n_10
    induction n_10 with
    | zero =>
      intro v2 trial_labels H locs ls hP hS hl hf
      exact no_some hf
    | succ n_10 ih_10 =>
      intro v2 trial_labels H locs ls hP hS hl hf
      have hf : f_X4_advance_L10 v1 (lp (τ := Int32 → (Nat → Int32) → Option ((Nat → Int32))) (fun _ _ => none) (f_X4_advance_L10 v1) n_10) v2 trial_labels = some out := hf
      refine lv_iload_n hx hb dX4_advance_10 rfl (lv_at hl 2 rfl) ?_
      refine lv_if_lt (tgt := 59) hx hb dX4_advance_11 (by decide) (fun c_11 => ?_) (fun c_11 => ?_)
      · have hf := it_pos c_11 hf
        have hf := Option.some.inj hf
        rewrite [← hQ, ← hf]
        exact x_vret hx hb hr hlocks hP hS dX4_advance_59
      · have hf := it_neg c_11 hf
        refine lv_aload_n hx hb dX4_advance_14 rfl (lv_at hl 0 rfl) ?_
        refine x_get hx hb hts u_X4_advance_X4 hown hE hP 0 rfl rfl 0 (by decide) (hts (.fieldLink RX4 12 "DecreasingDiagrams$LabellingSearch" "trial" "LDecreasingDiagrams$LabelledSystem;") (List.mem_of_getElem? (i := 1) rfl)) rfl dX4_advance_15 ?_
        refine x_getN hx hb hts u_X4_advance_X3 hown hE hP 1 rfl rfl 5 (by decide) (hE.2 (.fieldLinkNest RX4 51 "DecreasingDiagrams$LabelledSystem" "labels" "[I" RX11) (List.mem_of_getElem? (i := 19) rfl)) rfl dX4_advance_18 ?_
        refine lv_iload_n hx hb dX4_advance_21 rfl (lv_at hl 2 rfl) ?_
        obtain ⟨hi, hf⟩ := ck_some hf
        refine x_iald hx hb hE hP 2 rfl hi dX4_advance_22 ?_
        refine lv_iconst (v := 1) hx hb dX4_advance_23 (by decide) ?_
        refine lv_iadd hx hb dX4_advance_24 ?_
        refine lv_iload_n hx hb dX4_advance_25 rfl (lv_at hl 1 rfl) ?_
        refine lv_icmp_ge (tgt := 43) hx hb dX4_advance_26 (by decide) (fun c_26 => ?_) (fun c_26 => ?_)
        · have hf := it_pos c_26 hf
          refine lv_aload_n hx hb dX4_advance_43 rfl (lv_at hl 0 rfl) ?_
          refine x_get hx hb hts u_X4_advance_X4 hown hE hP 0 rfl rfl 0 (by decide) (hts (.fieldLink RX4 12 "DecreasingDiagrams$LabellingSearch" "trial" "LDecreasingDiagrams$LabelledSystem;") (List.mem_of_getElem? (i := 1) rfl)) rfl dX4_advance_44 ?_
          refine x_getN hx hb hts u_X4_advance_X3 hown hE hP 1 rfl rfl 5 (by decide) (hE.2 (.fieldLinkNest RX4 51 "DecreasingDiagrams$LabelledSystem" "labels" "[I" RX11) (List.mem_of_getElem? (i := 19) rfl)) rfl dX4_advance_47 ?_
          refine lv_iload_n hx hb dX4_advance_50 rfl (lv_at hl 2 rfl) ?_
          refine lv_iconst (v := 0) hx hb dX4_advance_51 (by decide) ?_
          obtain ⟨hi, hf⟩ := ck_some hf
          obtain ⟨trial_labels_52, e_trial_labels_52, hf⟩ := lt_some hf
          refine x_iast (I' := [[(h, .inr (4, [.ref h_trial, .ref h_natural, .ref h_trialPeaks, .ref a_found, .int foundSteps]))], [(h_trial, .inr (3, [.int trial_objects, .ref a_trial_words, .int trial_steps, .ref a_trial_sources, .ref a_trial_targets, .ref a_trial_labels]))], [(a_trial_labels, .inl (G 0, 32, .inl trial_labels_52))]]) hx hb hE hP hN hS 2 rfl hi e_trial_labels_52 rfl dX4_advance_52 (fun H locs hP hS => ?_)
          obtain ⟨v2_53, e_v2_53, hf⟩ := lt_some hf
          refine lv_iinc (v := v2_53) (lv' := [(2, .int v2_53), (0, .ref h), (1, .int v1)]) hx hb dX4_advance_53 hl (k := 2) rfl (by rw [e_v2_53]; rfl) (by decide) rfl (fun ls hl => ?_)
          refine lv_goto (tgt := 10) hx hb dX4_advance_56 (by decide) ?_
          exact ih_10 v2_53 trial_labels_52 H locs ls hP hS (lv_sub hl [1, 2, 0] rfl) hf
        · have hf := it_neg c_26 hf
          exact J29 v2 trial_labels  H locs ls  hP hS (lv_sub hl [0, 2] rfl) hf
  refine lv_aload_n hx hb dX4_advance_0 rfl (lv_at hl 0 rfl) ?_
  refine x_get hx hb hts u_X4_advance_X4 hown hE hP 0 rfl rfl 0 (by decide) (hts (.fieldLink RX4 12 "DecreasingDiagrams$LabellingSearch" "trial" "LDecreasingDiagrams$LabelledSystem;") (List.mem_of_getElem? (i := 1) rfl)) rfl dX4_advance_1 ?_
  refine x_getN hx hb hts u_X4_advance_X3 hown hE hP 1 rfl rfl 2 (by decide) (hE.2 (.fieldLinkNest RX4 60 "DecreasingDiagrams$LabelledSystem" "steps" "I" RX11) (List.mem_of_getElem? (i := 9) rfl)) rfl dX4_advance_4 ?_
  refine lv_iconst (v := 1) hx hb dX4_advance_7 (by decide) ?_
  refine lv_isub hx hb dX4_advance_8 ?_
  obtain ⟨v2_9, e_v2_9, hf⟩ := lt_some hf
  refine x_istore_n (v := v2_9) (lv' := [(2, .int v2_9), (0, .ref h), (1, .int v1)]) hx hb dX4_advance_9 e_v2_9 rfl hl (by decide) rfl (fun ls hl => ?_)
  exact L10    fu v2_9 trial_labels H locs ls hP hS (lv_sub hl [1, 2, 0] rfl) hf

set_option maxRecDepth 20000 in
theorem u_X11_firstFailure_X11 : ∀ w ∈ wsX110, w ∈ wsX11_firstFailure := xx_pl _ [34, 35, 36, 37, 38, 39, 40, 41, 42, 43, 44, 45, 46, 47, 48, 49] (by decide +kernel)
def f_X11_firstFailure (fu : Nat) (system_objects : Int32) (system_steps : Int32) (order_below : (Nat → Int32)) (peaks_firsts : (Nat → Int32)) (peaks_seconds : (Nat → Int32)) (system_labels : (Nat → Int32)) (system_sources : (Nat → Int32)) (system_targets : (Nat → Int32)) : Option (Int32 × Int32 × (Nat → Int32) × (Nat → Int32)) :=
  (f_X7_collect fu system_steps system_sources peaks_firsts peaks_seconds).bind (fun r_8 => (f_X7_firstFailing fu system_objects system_steps r_8.1 system_labels system_sources system_targets order_below r_8.2.1 r_8.2.2).bind (fun r_23 => some (r_23, r_8.1, r_8.2.1, r_8.2.2)))
set_option maxHeartbeats 4000000 in
set_option maxRecDepth 100000 in
theorem k_X11_firstFailure (l : Launch) (D : va_G) (G : Nat → ClassId) (fu : Nat) (h : Nat) (h_order : Nat) (h_system : Nat) (h_rules : Nat) (h_savedOrder : Nat) (h_savedSystem : Nat) (h_savedRules : Nat) (h_peaks : Nat) (h_leftPaths : Nat) (h_rightPaths : Nat) (h_text : Nat) (h_labellings : Nat) (h_input : Nat) (h_explorer : Nat) (h_arrays : Nat) (a_reach : Nat) (a_order_pairs : Nat) (a_order_below : Nat) (a_peaks_firsts : Nat) (a_peaks_seconds : Nat) (a_system_words : Nat) (a_system_sources : Nat) (a_system_targets : Nat) (a_system_labels : Nat) (snapshotSaved : Int32) (peaks_count : Int32) (system_objects : Int32) (system_steps : Int32) (order_below : (Nat → Int32)) (peaks_firsts : (Nat → Int32)) (peaks_seconds : (Nat → Int32)) (system_labels : (Nat → Int32)) (system_sources : (Nat → Int32)) (system_targets : (Nat → Int32))   (out : Int32 × Int32 × (Nat → Int32) × (Nat → Int32)) (hf : f_X11_firstFailure fu system_objects system_steps order_below peaks_firsts peaks_seconds system_labels system_sources system_targets = some out) : xMet l yX11_firstFailure wsX11_firstFailure (rM 5 125) D G [.ref h] [[(h, .inr (10, [.ref h_order, .ref h_system, .ref h_rules, .ref h_savedOrder, .ref h_savedSystem, .ref h_savedRules, .int snapshotSaved, .ref h_peaks, .ref h_leftPaths, .ref h_rightPaths, .ref h_text, .ref h_labellings, .ref h_input, .ref h_explorer, .ref h_arrays, .ref a_reach]))], [(h_order, .inr (2, [.ref a_order_pairs, .ref a_order_below]))], [(a_order_below, .inl (G 0, 8, .inl order_below))], [(h_peaks, .inr (7, [.int peaks_count, .ref a_peaks_firsts, .ref a_peaks_seconds]))], [(a_peaks_firsts, .inl (G 0, 496, .inl peaks_firsts))], [(a_peaks_seconds, .inl (G 0, 496, .inl peaks_seconds))], [(h_system, .inr (3, [.int system_objects, .ref a_system_words, .int system_steps, .ref a_system_sources, .ref a_system_targets, .ref a_system_labels]))], [(a_system_labels, .inl (G 0, 32, .inl system_labels))], [(a_system_sources, .inl (G 0, 32, .inl system_sources))], [(a_system_targets, .inl (G 0, 32, .inl system_targets))]] (xQi D [[(h, .inr (10, [.ref h_order, .ref h_system, .ref h_rules, .ref h_savedOrder, .ref h_savedSystem, .ref h_savedRules, .int snapshotSaved, .ref h_peaks, .ref h_leftPaths, .ref h_rightPaths, .ref h_text, .ref h_labellings, .ref h_input, .ref h_explorer, .ref h_arrays, .ref a_reach]))], [(h_order, .inr (2, [.ref a_order_pairs, .ref a_order_below]))], [(a_order_below, .inl (G 0, 8, .inl order_below))], [(h_peaks, .inr (7, [.int out.2.1, .ref a_peaks_firsts, .ref a_peaks_seconds]))], [(a_peaks_firsts, .inl (G 0, 496, .inl out.2.2.1))], [(a_peaks_seconds, .inl (G 0, 496, .inl out.2.2.2))], [(h_system, .inr (3, [.int system_objects, .ref a_system_words, .int system_steps, .ref a_system_sources, .ref a_system_targets, .ref a_system_labels]))], [(a_system_labels, .inl (G 0, 32, .inl system_labels))], [(a_system_sources, .inl (G 0, 32, .inl system_sources))], [(a_system_targets, .inl (G 0, 32, .inl system_targets))]] out.1) := by
  refine x_ent (cc := cX11_firstFailure) (maxL := 1) (by decide) rfl (Nat.le_of_ble_eq_true rfl) ?_
  intro p e s m blw meth c aa ls args Q H locs hQ hx hb hr hml hown hts hlocks hE hN hl hP hS
  have hown : s.vm.findClass RX11 = some m.cls := hown
  have hl : lv_has ls 1 [(0, .ref h)] := hl
  refine lv_aload_n hx hb dX11_firstFailure_0 rfl (lv_at hl 0 rfl) ?_
  refine x_get hx hb hts u_X11_firstFailure_X11 hown hE hP 0 rfl rfl 7 (by decide) (hts (.fieldLink RX11 46 "DecreasingDiagrams" "peaks" "LDecreasingDiagrams$Peaks;") (List.mem_of_getElem? (i := 1) rfl)) rfl dX11_firstFailure_1 ?_
  refine lv_aload_n hx hb dX11_firstFailure_4 rfl (lv_at hl 0 rfl) ?_
  refine x_get hx hb hts u_X11_firstFailure_X11 hown hE hP 0 rfl rfl 1 (by decide) (hts (.fieldLink RX11 19 "DecreasingDiagrams" "system" "LDecreasingDiagrams$LabelledSystem;") (List.mem_of_getElem? (i := 2) rfl)) rfl dX11_firstFailure_5 ?_
  obtain ⟨r_8, hr_8, hf⟩ := bd_some hf
  refine x_gov (ps := [6, 8, 3, 4, 5]) (qs := [0, 1, 2, 7, 9]) (n := 10) (I' := [[(h, .inr (10, [.ref h_order, .ref h_system, .ref h_rules, .ref h_savedOrder, .ref h_savedSystem, .ref h_savedRules, .int snapshotSaved, .ref h_peaks, .ref h_leftPaths, .ref h_rightPaths, .ref h_text, .ref h_labellings, .ref h_input, .ref h_explorer, .ref h_arrays, .ref a_reach]))], [(h_order, .inr (2, [.ref a_order_pairs, .ref a_order_below]))], [(a_order_below, .inl (G 0, 8, .inl order_below))], [(h_peaks, .inr (7, [.int r_8.1, .ref a_peaks_firsts, .ref a_peaks_seconds]))], [(a_peaks_firsts, .inl (G 0, 496, .inl r_8.2.1))], [(a_peaks_seconds, .inl (G 0, 496, .inl r_8.2.2))], [(h_system, .inr (3, [.int system_objects, .ref a_system_words, .int system_steps, .ref a_system_sources, .ref a_system_targets, .ref a_system_labels]))], [(a_system_labels, .inl (G 0, 32, .inl system_labels))], [(a_system_sources, .inl (G 0, 32, .inl system_sources))], [(a_system_targets, .inl (G 0, 32, .inl system_targets))]]) (x_runVN (As := [.ref h_system]) (rest := []) (ps := [6, 8, 3, 4, 5]) ⟨hx, hb, hml, hown, hts⟩ (k_X7_collect l D G fu h_peaks h_system a_system_words a_system_sources a_system_targets a_system_labels a_peaks_firsts a_peaks_seconds system_objects system_steps peaks_count system_sources peaks_firsts peaks_seconds r_8 hr_8) ⟨va_cnB 1 hts gX11_firstFailure_X7_collect_n195 rfl rfl rfl (hE.2 (.methodLinkNest RX11 195 yX7_collect RX11) (List.mem_of_getElem? (i := 73) rfl)) (hts (.initialized RX7) (List.mem_of_getElem? (i := 5) rfl)) (by decide +kernel) ⟨Nat.le_of_ble_eq_true rfl, Nat.le_of_ble_eq_true rfl⟩, (hts (.instanceMethod yX7_collect) (List.mem_of_getElem? (i := 4) rfl)), (hts (.selects RX7 yX7_collect yX7_collect) (List.mem_of_getElem? (i := 6) rfl))⟩ hE hP hN rfl (by decide) 3 rfl rfl rfl hl.1 (Nat.le_of_ble_eq_true rfl) dX11_firstFailure_8 ⟨Nat.zero_le _, Nat.zero_le _⟩) hP hN hS rfl rfl rfl rfl rfl (by decide) (fun H locs hP hS => ?_)
  refine lv_aload_n hx hb dX11_firstFailure_11 rfl (lv_at hl 0 rfl) ?_
  refine x_get hx hb hts u_X11_firstFailure_X11 hown hE hP 0 rfl rfl 7 (by decide) (hts (.fieldLink RX11 46 "DecreasingDiagrams" "peaks" "LDecreasingDiagrams$Peaks;") (List.mem_of_getElem? (i := 1) rfl)) rfl dX11_firstFailure_12 ?_
  refine lv_aload_n hx hb dX11_firstFailure_15 rfl (lv_at hl 0 rfl) ?_
  refine x_get hx hb hts u_X11_firstFailure_X11 hown hE hP 0 rfl rfl 1 (by decide) (hts (.fieldLink RX11 19 "DecreasingDiagrams" "system" "LDecreasingDiagrams$LabelledSystem;") (List.mem_of_getElem? (i := 2) rfl)) rfl dX11_firstFailure_16 ?_
  refine lv_aload_n hx hb dX11_firstFailure_19 rfl (lv_at hl 0 rfl) ?_
  refine x_get hx hb hts u_X11_firstFailure_X11 hown hE hP 0 rfl rfl 0 (by decide) (hts (.fieldLink RX11 12 "DecreasingDiagrams" "order" "LDecreasingDiagrams$LabelOrder;") (List.mem_of_getElem? (i := 3) rfl)) rfl dX11_firstFailure_20 ?_
  obtain ⟨r_23, hr_23, hf⟩ := bd_some hf
  refine x_goi0 (ps := [6, 7, 8, 9, 1, 2, 3, 4, 5]) (x_runVN (As := [.ref h_system, .ref h_order]) (rest := []) (ps := [6, 7, 8, 9, 1, 2, 3, 4, 5]) ⟨hx, hb, hml, hown, hts⟩ (k_X7_firstFailing l D G fu h_peaks h_system h_order a_system_words a_system_sources a_system_targets a_system_labels a_order_pairs a_order_below a_peaks_firsts a_peaks_seconds system_objects system_steps r_8.1 system_labels system_sources system_targets order_below r_8.2.1 r_8.2.2 r_23 hr_23) ⟨va_cnB 2 hts gX11_firstFailure_X7_firstFailing_n231 rfl rfl rfl (hE.2 (.methodLinkNest RX11 231 yX7_firstFailing RX11) (List.mem_of_getElem? (i := 83) rfl)) (hts (.initialized RX7) (List.mem_of_getElem? (i := 5) rfl)) (by decide +kernel) ⟨Nat.le_of_ble_eq_true rfl, Nat.le_of_ble_eq_true rfl⟩, (hts (.instanceMethod yX7_firstFailing) (List.mem_of_getElem? (i := 11) rfl)), (hts (.selects RX7 yX7_firstFailing yX7_firstFailing) (List.mem_of_getElem? (i := 12) rfl))⟩ hE hP hN rfl (by decide) 3 rfl rfl rfl hl.1 (Nat.le_of_ble_eq_true rfl) dX11_firstFailure_23 ⟨Nat.zero_le _, Nat.zero_le _⟩) hP hN hS rfl (fun H locs hP hS => ?_)
  have hf := Option.some.inj hf
  rewrite [← hQ, ← hf]
  exact x_iret hx hb hr hlocks hP hS dX11_firstFailure_26

set_option maxRecDepth 20000 in
theorem u_X11_foundLabel_X11 : ∀ w ∈ wsX110, w ∈ wsX11_foundLabel := xx_pl _ [2, 3, 4, 5, 6, 7, 8, 9, 10, 11, 12, 13, 14, 15, 16, 17] (by decide +kernel)
set_option maxRecDepth 20000 in
theorem u_X11_foundLabel_X4 : ∀ w ∈ wsX40, w ∈ wsX11_foundLabel := xx_pl _ [18, 19, 20, 21, 22] (by decide +kernel)
def f_X11_foundLabel (labellings_foundSteps : Int32) (labellings_found : (Nat → Int32)) (v1 : Int32) : Option (Int32) :=
  if v1 < 0 then (some (-2)) else (if labellings_foundSteps ≤ v1 then (some (-2)) else (ck v1 8 (some (labellings_found v1.toNatClampNeg))))
set_option maxHeartbeats 4000000 in
set_option maxRecDepth 100000 in
theorem k_X11_foundLabel (l : Launch) (D : va_G) (G : Nat → ClassId) (fu : Nat) (h : Nat) (h_order : Nat) (h_system : Nat) (h_rules : Nat) (h_savedOrder : Nat) (h_savedSystem : Nat) (h_savedRules : Nat) (h_peaks : Nat) (h_leftPaths : Nat) (h_rightPaths : Nat) (h_text : Nat) (h_labellings : Nat) (h_input : Nat) (h_explorer : Nat) (h_arrays : Nat) (a_reach : Nat) (h_labellings_trial : Nat) (h_labellings_natural : Nat) (h_labellings_trialPeaks : Nat) (a_labellings_found : Nat) (snapshotSaved : Int32) (labellings_foundSteps : Int32) (labellings_found : (Nat → Int32))  (v1 : Int32) (out : Int32) (hf : f_X11_foundLabel labellings_foundSteps labellings_found v1 = some out) : xMet l yX11_foundLabel wsX11_foundLabel (rM 0 0) D G [.ref h, .int v1] [[(h, .inr (10, [.ref h_order, .ref h_system, .ref h_rules, .ref h_savedOrder, .ref h_savedSystem, .ref h_savedRules, .int snapshotSaved, .ref h_peaks, .ref h_leftPaths, .ref h_rightPaths, .ref h_text, .ref h_labellings, .ref h_input, .ref h_explorer, .ref h_arrays, .ref a_reach]))], [(h_labellings, .inr (4, [.ref h_labellings_trial, .ref h_labellings_natural, .ref h_labellings_trialPeaks, .ref a_labellings_found, .int labellings_foundSteps]))], [(a_labellings_found, .inl (G 0, 8, .inl labellings_found))]] (xQi D [[(h, .inr (10, [.ref h_order, .ref h_system, .ref h_rules, .ref h_savedOrder, .ref h_savedSystem, .ref h_savedRules, .int snapshotSaved, .ref h_peaks, .ref h_leftPaths, .ref h_rightPaths, .ref h_text, .ref h_labellings, .ref h_input, .ref h_explorer, .ref h_arrays, .ref a_reach]))], [(h_labellings, .inr (4, [.ref h_labellings_trial, .ref h_labellings_natural, .ref h_labellings_trialPeaks, .ref a_labellings_found, .int labellings_foundSteps]))], [(a_labellings_found, .inl (G 0, 8, .inl labellings_found))]] out) := by
  refine x_ent (cc := cX11_foundLabel) (maxL := 2) (by decide) rfl (Nat.le_of_ble_eq_true rfl) ?_
  intro p e s m blw meth c aa ls args Q H locs hQ hx hb hr hml hown hts hlocks hE hN hl hP hS
  have hown : s.vm.findClass RX11 = some m.cls := hown
  have hl : lv_has ls 2 [(0, .ref h), (1, .int v1)] := hl
  refine lv_iload_n hx hb dX11_foundLabel_0 rfl (lv_at hl 1 rfl) ?_
  refine lv_if_lt (tgt := 27) hx hb dX11_foundLabel_1 (by decide) (fun c_1 => ?_) (fun c_1 => ?_)
  · have hf := it_pos c_1 hf
    refine lv_bipush (v := -2) hx hb dX11_foundLabel_27 (by decide) ?_
    have hf := Option.some.inj hf
    rewrite [← hQ, ← hf]
    exact x_iret hx hb hr hlocks hP hS dX11_foundLabel_29
  · have hf := it_neg c_1 hf
    refine lv_iload_n hx hb dX11_foundLabel_4 rfl (lv_at hl 1 rfl) ?_
    refine lv_aload_n hx hb dX11_foundLabel_5 rfl (lv_at hl 0 rfl) ?_
    refine x_get hx hb hts u_X11_foundLabel_X11 hown hE hP 0 rfl rfl 11 (by decide) (hts (.fieldLink RX11 70 "DecreasingDiagrams" "labellings" "LDecreasingDiagrams$LabellingSearch;") (List.mem_of_getElem? (i := 1) rfl)) rfl dX11_foundLabel_6 ?_
    refine x_getN hx hb hts u_X11_foundLabel_X4 hown hE hP 1 rfl rfl 4 (by decide) (hE.2 (.fieldLinkNest RX11 265 "DecreasingDiagrams$LabellingSearch" "foundSteps" "I" RX11) (List.mem_of_getElem? (i := 41) rfl)) rfl dX11_foundLabel_9 ?_
    refine lv_icmp_ge (tgt := 27) hx hb dX11_foundLabel_12 (by decide) (fun c_12 => ?_) (fun c_12 => ?_)
    · have hf := it_pos c_12 hf
      refine lv_bipush (v := -2) hx hb dX11_foundLabel_27 (by decide) ?_
      have hf := Option.some.inj hf
      rewrite [← hQ, ← hf]
      exact x_iret hx hb hr hlocks hP hS dX11_foundLabel_29
    · have hf := it_neg c_12 hf
      refine lv_aload_n hx hb dX11_foundLabel_15 rfl (lv_at hl 0 rfl) ?_
      refine x_get hx hb hts u_X11_foundLabel_X11 hown hE hP 0 rfl rfl 11 (by decide) (hts (.fieldLink RX11 70 "DecreasingDiagrams" "labellings" "LDecreasingDiagrams$LabellingSearch;") (List.mem_of_getElem? (i := 1) rfl)) rfl dX11_foundLabel_16 ?_
      refine x_getN hx hb hts u_X11_foundLabel_X4 hown hE hP 1 rfl rfl 3 (by decide) (hE.2 (.fieldLinkNest RX11 268 "DecreasingDiagrams$LabellingSearch" "found" "[I" RX11) (List.mem_of_getElem? (i := 40) rfl)) rfl dX11_foundLabel_19 ?_
      refine lv_iload_n hx hb dX11_foundLabel_22 rfl (lv_at hl 1 rfl) ?_
      obtain ⟨hi, hf⟩ := ck_some hf
      refine x_iald hx hb hE hP 2 rfl hi dX11_foundLabel_23 ?_
      refine lv_goto (tgt := 29) hx hb dX11_foundLabel_24 (by decide) ?_
      have hf := Option.some.inj hf
      rewrite [← hQ, ← hf]
      exact x_iret hx hb hr hlocks hP hS dX11_foundLabel_29

def f_X11_isConfluent (fu : Nat) (system_objects : Int32) (system_steps : Int32) (reach : (Nat → Int32)) (system_labels : (Nat → Int32)) (system_sources : (Nat → Int32)) (system_targets : (Nat → Int32)) : Option (Int32 × (Nat → Int32)) :=
  (f_X11_firstCounterexample fu system_objects system_steps reach system_labels system_sources system_targets).bind (fun r_1 => if ¬ r_1.1 = (-2) then (some (0, r_1.2)) else (some (1, r_1.2)))
set_option maxHeartbeats 4000000 in
set_option maxRecDepth 100000 in
theorem k_X11_isConfluent (l : Launch) (D : va_G) (G : Nat → ClassId) (fu : Nat) (h : Nat) (h_order : Nat) (h_system : Nat) (h_rules : Nat) (h_savedOrder : Nat) (h_savedSystem : Nat) (h_savedRules : Nat) (h_peaks : Nat) (h_leftPaths : Nat) (h_rightPaths : Nat) (h_text : Nat) (h_labellings : Nat) (h_input : Nat) (h_explorer : Nat) (h_arrays : Nat) (a_reach : Nat) (a_system_words : Nat) (a_system_sources : Nat) (a_system_targets : Nat) (a_system_labels : Nat) (snapshotSaved : Int32) (system_objects : Int32) (system_steps : Int32) (reach : (Nat → Int32)) (system_labels : (Nat → Int32)) (system_sources : (Nat → Int32)) (system_targets : (Nat → Int32))   (out : Int32 × (Nat → Int32)) (hf : f_X11_isConfluent fu system_objects system_steps reach system_labels system_sources system_targets = some out) : xMet l yX11_isConfluent wsX11_isConfluent (rM 4 93) D G [.ref h] [[(h, .inr (10, [.ref h_order, .ref h_system, .ref h_rules, .ref h_savedOrder, .ref h_savedSystem, .ref h_savedRules, .int snapshotSaved, .ref h_peaks, .ref h_leftPaths, .ref h_rightPaths, .ref h_text, .ref h_labellings, .ref h_input, .ref h_explorer, .ref h_arrays, .ref a_reach]))], [(a_reach, .inl (G 0, 16, .inl reach))], [(h_system, .inr (3, [.int system_objects, .ref a_system_words, .int system_steps, .ref a_system_sources, .ref a_system_targets, .ref a_system_labels]))], [(a_system_labels, .inl (G 0, 32, .inl system_labels))], [(a_system_sources, .inl (G 0, 32, .inl system_sources))], [(a_system_targets, .inl (G 0, 32, .inl system_targets))]] (xQi D [[(h, .inr (10, [.ref h_order, .ref h_system, .ref h_rules, .ref h_savedOrder, .ref h_savedSystem, .ref h_savedRules, .int snapshotSaved, .ref h_peaks, .ref h_leftPaths, .ref h_rightPaths, .ref h_text, .ref h_labellings, .ref h_input, .ref h_explorer, .ref h_arrays, .ref a_reach]))], [(a_reach, .inl (G 0, 16, .inl out.2))], [(h_system, .inr (3, [.int system_objects, .ref a_system_words, .int system_steps, .ref a_system_sources, .ref a_system_targets, .ref a_system_labels]))], [(a_system_labels, .inl (G 0, 32, .inl system_labels))], [(a_system_sources, .inl (G 0, 32, .inl system_sources))], [(a_system_targets, .inl (G 0, 32, .inl system_targets))]] out.1) := by
  refine x_ent (cc := cX11_isConfluent) (maxL := 1) (by decide) rfl (Nat.le_of_ble_eq_true rfl) ?_
  intro p e s m blw meth c aa ls args Q H locs hQ hx hb hr hml hown hts hlocks hE hN hl hP hS
  have hown : s.vm.findClass RX11 = some m.cls := hown
  have hl : lv_has ls 1 [(0, .ref h)] := hl
  refine lv_aload_n hx hb dX11_isConfluent_0 rfl (lv_at hl 0 rfl) ?_
  obtain ⟨r_1, hr_1, hf⟩ := bd_some hf
  refine x_goi (ps := [0, 1, 2, 3, 4, 5]) (qs := []) (n := 6) (I' := [[(h, .inr (10, [.ref h_order, .ref h_system, .ref h_rules, .ref h_savedOrder, .ref h_savedSystem, .ref h_savedRules, .int snapshotSaved, .ref h_peaks, .ref h_leftPaths, .ref h_rightPaths, .ref h_text, .ref h_labellings, .ref h_input, .ref h_explorer, .ref h_arrays, .ref a_reach]))], [(a_reach, .inl (G 0, 16, .inl r_1.2))], [(h_system, .inr (3, [.int system_objects, .ref a_system_words, .int system_steps, .ref a_system_sources, .ref a_system_targets, .ref a_system_labels]))], [(a_system_labels, .inl (G 0, 32, .inl system_labels))], [(a_system_sources, .inl (G 0, 32, .inl system_sources))], [(a_system_targets, .inl (G 0, 32, .inl system_targets))]]) (x_runV (As := []) (rest := []) (ps := [0, 1, 2, 3, 4, 5]) ⟨hx, hb, hml, hown, hts⟩ (k_X11_firstCounterexample l D G fu h h_order h_system h_rules h_savedOrder h_savedSystem h_savedRules h_peaks h_leftPaths h_rightPaths h_text h_labellings h_input h_explorer h_arrays a_reach a_system_words a_system_sources a_system_targets a_system_labels snapshotSaved system_objects system_steps reach system_labels system_sources system_targets r_1 hr_1) (cwV 0 hts gX11_isConfluent_X11_firstCounterexample rfl rfl rfl (by decide +kernel) ⟨Nat.le_of_ble_eq_true rfl, Nat.le_of_ble_eq_true rfl⟩) hE hP hN rfl (by decide) 0 rfl rfl rfl hl.1 (Nat.le_of_ble_eq_true rfl) dX11_isConfluent_1 ⟨Nat.zero_le _, Nat.zero_le _⟩) hP hN hS rfl rfl rfl rfl rfl (by decide) (fun H locs hP hS => ?_)
  refine lv_bipush (v := -2) hx hb dX11_isConfluent_4 (by decide) ?_
  refine lv_icmp_ne (tgt := 13) hx hb dX11_isConfluent_6 (by decide) (fun c_6 => ?_) (fun c_6 => ?_)
  · have hf := it_pos c_6 hf
    refine lv_iconst (v := 0) hx hb dX11_isConfluent_13 (by decide) ?_
    have hf := Option.some.inj hf
    rewrite [← hQ, ← hf]
    exact x_iret hx hb hr hlocks hP hS dX11_isConfluent_14
  · have hf := it_neg (fun h => h c_6) hf
    refine lv_iconst (v := 1) hx hb dX11_isConfluent_9 (by decide) ?_
    refine lv_goto (tgt := 14) hx hb dX11_isConfluent_10 (by decide) ?_
    have hf := Option.some.inj hf
    rewrite [← hQ, ← hf]
    exact x_iret hx hb hr hlocks hP hS dX11_isConfluent_14

set_option maxRecDepth 20000 in
theorem u_X11_isDecreasing_X11 : ∀ w ∈ wsX110, w ∈ wsX11_isDecreasing := xx_pl _ [33, 34, 35, 36, 37, 38, 39, 40, 41, 42, 43, 44, 45, 46, 47, 48] (by decide +kernel)
def f_X11_isDecreasing (fu : Nat) (system_objects : Int32) (system_steps : Int32) (order_below : (Nat → Int32)) (peaks_firsts : (Nat → Int32)) (peaks_seconds : (Nat → Int32)) (system_labels : (Nat → Int32)) (system_sources : (Nat → Int32)) (system_targets : (Nat → Int32)) (v1 : Int32) : Option (Int32 × Int32 × (Nat → Int32) × (Nat → Int32)) :=
  (f_X7_collect fu system_steps system_sources peaks_firsts peaks_seconds).bind (fun r_8 => (f_X7_has r_8.1 v1).bind (fun r_16 => if ¬ r_16 = 0 then ((f_X7_decreases fu system_objects system_steps system_labels system_sources system_targets order_below r_8.2.1 r_8.2.2 v1).bind (fun r_37 => if r_37 = 0 then (some (0, r_8.1, r_8.2.1, r_8.2.2)) else (some (1, r_8.1, r_8.2.1, r_8.2.2)))) else (some ((-1), r_8.1, r_8.2.1, r_8.2.2))))
set_option maxHeartbeats 4000000 in
set_option maxRecDepth 100000 in
theorem k_X11_isDecreasing (l : Launch) (D : va_G) (G : Nat → ClassId) (fu : Nat) (h : Nat) (h_order : Nat) (h_system : Nat) (h_rules : Nat) (h_savedOrder : Nat) (h_savedSystem : Nat) (h_savedRules : Nat) (h_peaks : Nat) (h_leftPaths : Nat) (h_rightPaths : Nat) (h_text : Nat) (h_labellings : Nat) (h_input : Nat) (h_explorer : Nat) (h_arrays : Nat) (a_reach : Nat) (a_order_pairs : Nat) (a_order_below : Nat) (a_peaks_firsts : Nat) (a_peaks_seconds : Nat) (a_system_words : Nat) (a_system_sources : Nat) (a_system_targets : Nat) (a_system_labels : Nat) (snapshotSaved : Int32) (peaks_count : Int32) (system_objects : Int32) (system_steps : Int32) (order_below : (Nat → Int32)) (peaks_firsts : (Nat → Int32)) (peaks_seconds : (Nat → Int32)) (system_labels : (Nat → Int32)) (system_sources : (Nat → Int32)) (system_targets : (Nat → Int32))  (v1 : Int32) (out : Int32 × Int32 × (Nat → Int32) × (Nat → Int32)) (hf : f_X11_isDecreasing fu system_objects system_steps order_below peaks_firsts peaks_seconds system_labels system_sources system_targets v1 = some out) : xMet l yX11_isDecreasing wsX11_isDecreasing (rM 4 102) D G [.ref h, .int v1] [[(h, .inr (10, [.ref h_order, .ref h_system, .ref h_rules, .ref h_savedOrder, .ref h_savedSystem, .ref h_savedRules, .int snapshotSaved, .ref h_peaks, .ref h_leftPaths, .ref h_rightPaths, .ref h_text, .ref h_labellings, .ref h_input, .ref h_explorer, .ref h_arrays, .ref a_reach]))], [(h_order, .inr (2, [.ref a_order_pairs, .ref a_order_below]))], [(a_order_below, .inl (G 0, 8, .inl order_below))], [(h_peaks, .inr (7, [.int peaks_count, .ref a_peaks_firsts, .ref a_peaks_seconds]))], [(a_peaks_firsts, .inl (G 0, 496, .inl peaks_firsts))], [(a_peaks_seconds, .inl (G 0, 496, .inl peaks_seconds))], [(h_system, .inr (3, [.int system_objects, .ref a_system_words, .int system_steps, .ref a_system_sources, .ref a_system_targets, .ref a_system_labels]))], [(a_system_labels, .inl (G 0, 32, .inl system_labels))], [(a_system_sources, .inl (G 0, 32, .inl system_sources))], [(a_system_targets, .inl (G 0, 32, .inl system_targets))]] (xQi D [[(h, .inr (10, [.ref h_order, .ref h_system, .ref h_rules, .ref h_savedOrder, .ref h_savedSystem, .ref h_savedRules, .int snapshotSaved, .ref h_peaks, .ref h_leftPaths, .ref h_rightPaths, .ref h_text, .ref h_labellings, .ref h_input, .ref h_explorer, .ref h_arrays, .ref a_reach]))], [(h_order, .inr (2, [.ref a_order_pairs, .ref a_order_below]))], [(a_order_below, .inl (G 0, 8, .inl order_below))], [(h_peaks, .inr (7, [.int out.2.1, .ref a_peaks_firsts, .ref a_peaks_seconds]))], [(a_peaks_firsts, .inl (G 0, 496, .inl out.2.2.1))], [(a_peaks_seconds, .inl (G 0, 496, .inl out.2.2.2))], [(h_system, .inr (3, [.int system_objects, .ref a_system_words, .int system_steps, .ref a_system_sources, .ref a_system_targets, .ref a_system_labels]))], [(a_system_labels, .inl (G 0, 32, .inl system_labels))], [(a_system_sources, .inl (G 0, 32, .inl system_sources))], [(a_system_targets, .inl (G 0, 32, .inl system_targets))]] out.1) := by
  refine x_ent (cc := cX11_isDecreasing) (maxL := 2) (by decide) rfl (Nat.le_of_ble_eq_true rfl) ?_
  intro p e s m blw meth c aa ls args Q H locs hQ hx hb hr hml hown hts hlocks hE hN hl hP hS
  have hown : s.vm.findClass RX11 = some m.cls := hown
  have hl : lv_has ls 2 [(0, .ref h), (1, .int v1)] := hl
  refine lv_aload_n hx hb dX11_isDecreasing_0 rfl (lv_at hl 0 rfl) ?_
  refine x_get hx hb hts u_X11_isDecreasing_X11 hown hE hP 0 rfl rfl 7 (by decide) (hts (.fieldLink RX11 46 "DecreasingDiagrams" "peaks" "LDecreasingDiagrams$Peaks;") (List.mem_of_getElem? (i := 1) rfl)) rfl dX11_isDecreasing_1 ?_
  refine lv_aload_n hx hb dX11_isDecreasing_4 rfl (lv_at hl 0 rfl) ?_
  refine x_get hx hb hts u_X11_isDecreasing_X11 hown hE hP 0 rfl rfl 1 (by decide) (hts (.fieldLink RX11 19 "DecreasingDiagrams" "system" "LDecreasingDiagrams$LabelledSystem;") (List.mem_of_getElem? (i := 2) rfl)) rfl dX11_isDecreasing_5 ?_
  obtain ⟨r_8, hr_8, hf⟩ := bd_some hf
  refine x_gov (ps := [6, 8, 3, 4, 5]) (qs := [0, 1, 2, 7, 9]) (n := 10) (I' := [[(h, .inr (10, [.ref h_order, .ref h_system, .ref h_rules, .ref h_savedOrder, .ref h_savedSystem, .ref h_savedRules, .int snapshotSaved, .ref h_peaks, .ref h_leftPaths, .ref h_rightPaths, .ref h_text, .ref h_labellings, .ref h_input, .ref h_explorer, .ref h_arrays, .ref a_reach]))], [(h_order, .inr (2, [.ref a_order_pairs, .ref a_order_below]))], [(a_order_below, .inl (G 0, 8, .inl order_below))], [(h_peaks, .inr (7, [.int r_8.1, .ref a_peaks_firsts, .ref a_peaks_seconds]))], [(a_peaks_firsts, .inl (G 0, 496, .inl r_8.2.1))], [(a_peaks_seconds, .inl (G 0, 496, .inl r_8.2.2))], [(h_system, .inr (3, [.int system_objects, .ref a_system_words, .int system_steps, .ref a_system_sources, .ref a_system_targets, .ref a_system_labels]))], [(a_system_labels, .inl (G 0, 32, .inl system_labels))], [(a_system_sources, .inl (G 0, 32, .inl system_sources))], [(a_system_targets, .inl (G 0, 32, .inl system_targets))]]) (x_runVN (As := [.ref h_system]) (rest := []) (ps := [6, 8, 3, 4, 5]) ⟨hx, hb, hml, hown, hts⟩ (k_X7_collect l D G fu h_peaks h_system a_system_words a_system_sources a_system_targets a_system_labels a_peaks_firsts a_peaks_seconds system_objects system_steps peaks_count system_sources peaks_firsts peaks_seconds r_8 hr_8) ⟨va_cnB 1 hts gX11_isDecreasing_X7_collect_n195 rfl rfl rfl (hE.2 (.methodLinkNest RX11 195 yX7_collect RX11) (List.mem_of_getElem? (i := 73) rfl)) (hts (.initialized RX7) (List.mem_of_getElem? (i := 5) rfl)) (by decide +kernel) ⟨Nat.le_of_ble_eq_true rfl, Nat.le_of_ble_eq_true rfl⟩, (hts (.instanceMethod yX7_collect) (List.mem_of_getElem? (i := 4) rfl)), (hts (.selects RX7 yX7_collect yX7_collect) (List.mem_of_getElem? (i := 6) rfl))⟩ hE hP hN rfl (by decide) 3 rfl rfl rfl hl.1 (Nat.le_of_ble_eq_true rfl) dX11_isDecreasing_8 ⟨Nat.zero_le _, Nat.zero_le _⟩) hP hN hS rfl rfl rfl rfl rfl (by decide) (fun H locs hP hS => ?_)
  refine lv_aload_n hx hb dX11_isDecreasing_11 rfl (lv_at hl 0 rfl) ?_
  refine x_get hx hb hts u_X11_isDecreasing_X11 hown hE hP 0 rfl rfl 7 (by decide) (hts (.fieldLink RX11 46 "DecreasingDiagrams" "peaks" "LDecreasingDiagrams$Peaks;") (List.mem_of_getElem? (i := 1) rfl)) rfl dX11_isDecreasing_12 ?_
  refine lv_iload_n hx hb dX11_isDecreasing_15 rfl (lv_at hl 1 rfl) ?_
  obtain ⟨r_16, hr_16, hf⟩ := bd_some hf
  refine x_goi0 (ps := [3]) (x_runVN (As := [.int v1]) (rest := []) (ps := [3]) ⟨hx, hb, hml, hown, hts⟩ (k_X7_has l D G fu h_peaks a_peaks_firsts a_peaks_seconds r_8.1 v1 r_16 hr_16) ⟨va_cnB 1 hts gX11_isDecreasing_X7_has_n208 rfl rfl rfl (hE.2 (.methodLinkNest RX11 208 yX7_has RX11) (List.mem_of_getElem? (i := 74) rfl)) (hts (.initialized RX7) (List.mem_of_getElem? (i := 5) rfl)) (by decide +kernel) ⟨Nat.le_of_ble_eq_true rfl, Nat.le_of_ble_eq_true rfl⟩, (hts (.instanceMethod yX7_has) (List.mem_of_getElem? (i := 11) rfl)), (hts (.selects RX7 yX7_has yX7_has) (List.mem_of_getElem? (i := 12) rfl))⟩ hE hP hN rfl (by decide) 3 rfl rfl rfl hl.1 (Nat.le_of_ble_eq_true rfl) dX11_isDecreasing_16 ⟨Nat.zero_le _, Nat.zero_le _⟩) hP hN hS rfl (fun H locs hP hS => ?_)
  refine lv_if_ne (tgt := 24) hx hb dX11_isDecreasing_19 (by decide) (fun c_19 => ?_) (fun c_19 => ?_)
  · have hf := it_pos c_19 hf
    refine lv_aload_n hx hb dX11_isDecreasing_24 rfl (lv_at hl 0 rfl) ?_
    refine x_get hx hb hts u_X11_isDecreasing_X11 hown hE hP 0 rfl rfl 7 (by decide) (hts (.fieldLink RX11 46 "DecreasingDiagrams" "peaks" "LDecreasingDiagrams$Peaks;") (List.mem_of_getElem? (i := 1) rfl)) rfl dX11_isDecreasing_25 ?_
    refine lv_iload_n hx hb dX11_isDecreasing_28 rfl (lv_at hl 1 rfl) ?_
    refine lv_aload_n hx hb dX11_isDecreasing_29 rfl (lv_at hl 0 rfl) ?_
    refine x_get hx hb hts u_X11_isDecreasing_X11 hown hE hP 0 rfl rfl 1 (by decide) (hts (.fieldLink RX11 19 "DecreasingDiagrams" "system" "LDecreasingDiagrams$LabelledSystem;") (List.mem_of_getElem? (i := 2) rfl)) rfl dX11_isDecreasing_30 ?_
    refine lv_aload_n hx hb dX11_isDecreasing_33 rfl (lv_at hl 0 rfl) ?_
    refine x_get hx hb hts u_X11_isDecreasing_X11 hown hE hP 0 rfl rfl 0 (by decide) (hts (.fieldLink RX11 12 "DecreasingDiagrams" "order" "LDecreasingDiagrams$LabelOrder;") (List.mem_of_getElem? (i := 3) rfl)) rfl dX11_isDecreasing_34 ?_
    obtain ⟨r_37, hr_37, hf⟩ := bd_some hf
    refine x_goi0 (ps := [6, 7, 8, 9, 1, 2, 3, 4, 5]) (x_runVN (As := [.int v1, .ref h_system, .ref h_order]) (rest := []) (ps := [6, 7, 8, 9, 1, 2, 3, 4, 5]) ⟨hx, hb, hml, hown, hts⟩ (k_X7_decreases l D G fu h_peaks h_system h_order a_system_words a_system_sources a_system_targets a_system_labels a_order_pairs a_order_below a_peaks_firsts a_peaks_seconds system_objects system_steps r_8.1 system_labels system_sources system_targets order_below r_8.2.1 r_8.2.2 v1 r_37 hr_37) ⟨va_cnB 3 hts gX11_isDecreasing_X7_decreases_n214 rfl rfl rfl (hE.2 (.methodLinkNest RX11 214 yX7_decreases RX11) (List.mem_of_getElem? (i := 75) rfl)) (hts (.initialized RX7) (List.mem_of_getElem? (i := 5) rfl)) (by decide +kernel) ⟨Nat.le_of_ble_eq_true rfl, Nat.le_of_ble_eq_true rfl⟩, (hts (.instanceMethod yX7_decreases) (List.mem_of_getElem? (i := 14) rfl)), (hts (.selects RX7 yX7_decreases yX7_decreases) (List.mem_of_getElem? (i := 15) rfl))⟩ hE hP hN rfl (by decide) 3 rfl rfl rfl hl.1 (Nat.le_of_ble_eq_true rfl) dX11_isDecreasing_37 ⟨Nat.zero_le _, Nat.zero_le _⟩) hP hN hS rfl (fun H locs hP hS => ?_)
    refine lv_if_eq (tgt := 47) hx hb dX11_isDecreasing_40 (by decide) (fun c_40 => ?_) (fun c_40 => ?_)
    · have hf := it_pos c_40 hf
      refine lv_iconst (v := 0) hx hb dX11_isDecreasing_47 (by decide) ?_
      have hf := Option.some.inj hf
      rewrite [← hQ, ← hf]
      exact x_iret hx hb hr hlocks hP hS dX11_isDecreasing_48
    · have hf := it_neg c_40 hf
      refine lv_iconst (v := 1) hx hb dX11_isDecreasing_43 (by decide) ?_
      refine lv_goto (tgt := 48) hx hb dX11_isDecreasing_44 (by decide) ?_
      have hf := Option.some.inj hf
      rewrite [← hQ, ← hf]
      exact x_iret hx hb hr hlocks hP hS dX11_isDecreasing_48
  · have hf := it_neg (fun h => h c_19) hf
    refine lv_iconst (v := -1) hx hb dX11_isDecreasing_22 (by decide) ?_
    have hf := Option.some.inj hf
    rewrite [← hQ, ← hf]
    exact x_iret hx hb hr hlocks hP hS dX11_isDecreasing_23

set_option maxRecDepth 20000 in
theorem u_X11_isGreater_X11 : ∀ w ∈ wsX110, w ∈ wsX11_isGreater := xx_pl _ [13, 14, 15, 16, 17, 18, 19, 20, 21, 22, 23, 24, 25, 26, 27, 28] (by decide +kernel)
def f_X11_isGreater (order_below : (Nat → Int32)) (v1 : Int32) (v2 : Int32) : Option (Int32) :=
  (f_X11_isLabel v1).bind (fun r_1 => if r_1 = 0 then (some (-1)) else ((f_X11_isLabel v2).bind (fun r_8 => if ¬ r_8 = 0 then ((f_X2_isAbove order_below v1 v2).bind (fun r_22 => if r_22 = 0 then (some 0) else (some 1))) else (some (-1)))))
set_option maxHeartbeats 4000000 in
set_option maxRecDepth 100000 in
theorem k_X11_isGreater (l : Launch) (D : va_G) (G : Nat → ClassId) (fu : Nat) (h : Nat) (h_order : Nat) (h_system : Nat) (h_rules : Nat) (h_savedOrder : Nat) (h_savedSystem : Nat) (h_savedRules : Nat) (h_peaks : Nat) (h_leftPaths : Nat) (h_rightPaths : Nat) (h_text : Nat) (h_labellings : Nat) (h_input : Nat) (h_explorer : Nat) (h_arrays : Nat) (a_reach : Nat) (a_order_pairs : Nat) (a_order_below : Nat) (snapshotSaved : Int32) (order_below : (Nat → Int32))  (v1 : Int32) (v2 : Int32) (out : Int32) (hf : f_X11_isGreater order_below v1 v2 = some out) : xMet l yX11_isGreater wsX11_isGreater (rM 2 43) D G [.ref h, .int v1, .int v2] [[(h, .inr (10, [.ref h_order, .ref h_system, .ref h_rules, .ref h_savedOrder, .ref h_savedSystem, .ref h_savedRules, .int snapshotSaved, .ref h_peaks, .ref h_leftPaths, .ref h_rightPaths, .ref h_text, .ref h_labellings, .ref h_input, .ref h_explorer, .ref h_arrays, .ref a_reach]))], [(h_order, .inr (2, [.ref a_order_pairs, .ref a_order_below]))], [(a_order_below, .inl (G 0, 8, .inl order_below))]] (xQi D [[(h, .inr (10, [.ref h_order, .ref h_system, .ref h_rules, .ref h_savedOrder, .ref h_savedSystem, .ref h_savedRules, .int snapshotSaved, .ref h_peaks, .ref h_leftPaths, .ref h_rightPaths, .ref h_text, .ref h_labellings, .ref h_input, .ref h_explorer, .ref h_arrays, .ref a_reach]))], [(h_order, .inr (2, [.ref a_order_pairs, .ref a_order_below]))], [(a_order_below, .inl (G 0, 8, .inl order_below))]] out) := by
  refine x_ent (cc := cX11_isGreater) (maxL := 3) (by decide) rfl (Nat.le_of_ble_eq_true rfl) ?_
  intro p e s m blw meth c aa ls args Q H locs hQ hx hb hr hml hown hts hlocks hE hN hl hP hS
  have hown : s.vm.findClass RX11 = some m.cls := hown
  have hl : lv_has ls 3 [(0, .ref h), (1, .int v1), (2, .int v2)] := hl
  refine lv_iload_n hx hb dX11_isGreater_0 rfl (lv_at hl 1 rfl) ?_
  obtain ⟨r_1, hr_1, hf⟩ := bd_some hf
  refine x_goi0 (ps := []) (x_runS (As := [.int v1]) (rest := []) (ps := []) ⟨hx, hb, hml, hown, hts⟩ (k_X11_isLabel l D G fu v1 r_1 hr_1) (va_cwS 1 hts gX11_isGreater_X11_isLabel rfl rfl rfl (by decide +kernel) ⟨Nat.le_of_ble_eq_true rfl, Nat.le_of_ble_eq_true rfl⟩) hE hP hN rfl (by decide) rfl hl.1 (Nat.le_of_ble_eq_true rfl) dX11_isGreater_1 ⟨Nat.zero_le _, Nat.zero_le _⟩) hP hN hS rfl (fun H locs hP hS => ?_)
  refine lv_if_eq (tgt := 14) hx hb dX11_isGreater_4 (by decide) (fun c_4 => ?_) (fun c_4 => ?_)
  · have hf := it_pos c_4 hf
    refine lv_iconst (v := -1) hx hb dX11_isGreater_14 (by decide) ?_
    have hf := Option.some.inj hf
    rewrite [← hQ, ← hf]
    exact x_iret hx hb hr hlocks hP hS dX11_isGreater_15
  · have hf := it_neg c_4 hf
    refine lv_iload_n hx hb dX11_isGreater_7 rfl (lv_at hl 2 rfl) ?_
    obtain ⟨r_8, hr_8, hf⟩ := bd_some hf
    refine x_goi0 (ps := []) (x_runS (As := [.int v2]) (rest := []) (ps := []) ⟨hx, hb, hml, hown, hts⟩ (k_X11_isLabel l D G fu v2 r_8 hr_8) (va_cwS 1 hts gX11_isGreater_X11_isLabel rfl rfl rfl (by decide +kernel) ⟨Nat.le_of_ble_eq_true rfl, Nat.le_of_ble_eq_true rfl⟩) hE hP hN rfl (by decide) rfl hl.1 (Nat.le_of_ble_eq_true rfl) dX11_isGreater_8 ⟨Nat.zero_le _, Nat.zero_le _⟩) hP hN hS rfl (fun H locs hP hS => ?_)
    refine lv_if_ne (tgt := 16) hx hb dX11_isGreater_11 (by decide) (fun c_11 => ?_) (fun c_11 => ?_)
    · have hf := it_pos c_11 hf
      refine lv_aload_n hx hb dX11_isGreater_16 rfl (lv_at hl 0 rfl) ?_
      refine x_get hx hb hts u_X11_isGreater_X11 hown hE hP 0 rfl rfl 0 (by decide) (hts (.fieldLink RX11 12 "DecreasingDiagrams" "order" "LDecreasingDiagrams$LabelOrder;") (List.mem_of_getElem? (i := 1) rfl)) rfl dX11_isGreater_17 ?_
      refine lv_iload_n hx hb dX11_isGreater_20 rfl (lv_at hl 1 rfl) ?_
      refine lv_iload_n hx hb dX11_isGreater_21 rfl (lv_at hl 2 rfl) ?_
      obtain ⟨r_22, hr_22, hf⟩ := bd_some hf
      refine x_goi0 (ps := [1, 2]) (x_runVN (As := [.int v1, .int v2]) (rest := []) (ps := [1, 2]) ⟨hx, hb, hml, hown, hts⟩ (k_X2_isAbove l D G fu h_order a_order_pairs a_order_below order_below v1 v2 r_22 hr_22) ⟨va_cnB 2 hts gX11_isGreater_X2_isAbove_n103 rfl rfl rfl (hE.2 (.methodLinkNest RX11 103 yX2_isAbove RX11) (List.mem_of_getElem? (i := 53) rfl)) (hts (.initialized RX2) (List.mem_of_getElem? (i := 7) rfl)) (by decide +kernel) ⟨Nat.le_of_ble_eq_true rfl, Nat.le_of_ble_eq_true rfl⟩, (hts (.instanceMethod yX2_isAbove) (List.mem_of_getElem? (i := 6) rfl)), (hts (.selects RX2 yX2_isAbove yX2_isAbove) (List.mem_of_getElem? (i := 8) rfl))⟩ hE hP hN rfl (by decide) 1 rfl rfl rfl hl.1 (Nat.le_of_ble_eq_true rfl) dX11_isGreater_22 ⟨Nat.zero_le _, Nat.zero_le _⟩) hP hN hS rfl (fun H locs hP hS => ?_)
      refine lv_if_eq (tgt := 32) hx hb dX11_isGreater_25 (by decide) (fun c_25 => ?_) (fun c_25 => ?_)
      · have hf := it_pos c_25 hf
        refine lv_iconst (v := 0) hx hb dX11_isGreater_32 (by decide) ?_
        have hf := Option.some.inj hf
        rewrite [← hQ, ← hf]
        exact x_iret hx hb hr hlocks hP hS dX11_isGreater_33
      · have hf := it_neg c_25 hf
        refine lv_iconst (v := 1) hx hb dX11_isGreater_28 (by decide) ?_
        refine lv_goto (tgt := 33) hx hb dX11_isGreater_29 (by decide) ?_
        have hf := Option.some.inj hf
        rewrite [← hQ, ← hf]
        exact x_iret hx hb hr hlocks hP hS dX11_isGreater_33
    · have hf := it_neg (fun h => h c_11) hf
      refine lv_iconst (v := -1) hx hb dX11_isGreater_14 (by decide) ?_
      have hf := Option.some.inj hf
      rewrite [← hQ, ← hf]
      exact x_iret hx hb hr hlocks hP hS dX11_isGreater_15

set_option maxRecDepth 20000 in
theorem u_X11_isLocallyConfluent_X11 : ∀ w ∈ wsX110, w ∈ wsX11_isLocallyConfluent := xx_pl _ [28, 29, 30, 31, 32, 33, 34, 35, 36, 37, 38, 39, 40, 41, 42, 43] (by decide +kernel)
set_option maxRecDepth 20000 in
theorem u_X11_isLocallyConfluent_X7 : ∀ w ∈ wsX70, w ∈ wsX11_isLocallyConfluent := xx_pl _ [44, 45, 46] (by decide +kernel)
set_option maxRecDepth 20000 in
theorem u_X11_isLocallyConfluent_X3 : ∀ w ∈ wsX30, w ∈ wsX11_isLocallyConfluent := xx_pl _ [47, 48, 49, 50, 51, 52] (by decide +kernel)
def f_X11_isLocallyConfluent_L24 (peaks_count : Int32) (peaks_firsts : (Nat → Int32)) (peaks_seconds : (Nat → Int32)) (reach : (Nat → Int32)) (system_targets : (Nat → Int32)) (rec_24 : Int32 → Option (Int32 × Int32 × (Nat → Int32) × (Nat → Int32) × (Nat → Int32))) (v1 : Int32) : Option (Int32 × Int32 × (Nat → Int32) × (Nat → Int32) × (Nat → Int32)) :=
  if peaks_count ≤ v1 then (some (1, peaks_count, peaks_firsts, peaks_seconds, reach)) else (ck v1 496 (ck (peaks_firsts v1.toNatClampNeg) 32 (lt (system_targets (peaks_firsts v1.toNatClampNeg).toNatClampNeg) (fun v2_52 => ck v1 496 (ck (peaks_seconds v1.toNatClampNeg) 32 (lt (system_targets (peaks_seconds v1.toNatClampNeg).toNatClampNeg) (fun v3_70 => ck v2_52 16 (ck v3_70 16 (if ¬ ((reach v2_52.toNatClampNeg) &&& (reach v3_70.toNatClampNeg)) = 0 then (lt (v1 + 1) (fun v1_89 => rec_24 v1_89)) else (some (0, peaks_count, peaks_firsts, peaks_seconds, reach)))))))))))
def f_X11_isLocallyConfluent (fu : Nat) (system_objects : Int32) (system_steps : Int32) (peaks_firsts : (Nat → Int32)) (peaks_seconds : (Nat → Int32)) (reach : (Nat → Int32)) (system_labels : (Nat → Int32)) (system_sources : (Nat → Int32)) (system_targets : (Nat → Int32)) : Option (Int32 × Int32 × (Nat → Int32) × (Nat → Int32) × (Nat → Int32)) :=
  (f_X3_fillReach fu system_objects system_steps reach system_labels system_sources system_targets 16).bind (fun r_8 => (f_X7_collect fu system_steps system_sources peaks_firsts peaks_seconds).bind (fun r_19 => lt (0 : Int32) (fun v1_23 => lp (τ := Int32 → Option (Int32 × Int32 × (Nat → Int32) × (Nat → Int32) × (Nat → Int32))) (fun _ => none) (f_X11_isLocallyConfluent_L24 r_19.1 r_19.2.1 r_19.2.2 r_8 system_targets) fu v1_23)))
set_option maxHeartbeats 4000000 in
set_option maxRecDepth 100000 in
theorem k_X11_isLocallyConfluent (l : Launch) (D : va_G) (G : Nat → ClassId) (fu : Nat) (h : Nat) (h_order : Nat) (h_system : Nat) (h_rules : Nat) (h_savedOrder : Nat) (h_savedSystem : Nat) (h_savedRules : Nat) (h_peaks : Nat) (h_leftPaths : Nat) (h_rightPaths : Nat) (h_text : Nat) (h_labellings : Nat) (h_input : Nat) (h_explorer : Nat) (h_arrays : Nat) (a_reach : Nat) (a_peaks_firsts : Nat) (a_peaks_seconds : Nat) (a_system_words : Nat) (a_system_sources : Nat) (a_system_targets : Nat) (a_system_labels : Nat) (snapshotSaved : Int32) (peaks_count : Int32) (system_objects : Int32) (system_steps : Int32) (peaks_firsts : (Nat → Int32)) (peaks_seconds : (Nat → Int32)) (reach : (Nat → Int32)) (system_labels : (Nat → Int32)) (system_sources : (Nat → Int32)) (system_targets : (Nat → Int32))   (out : Int32 × Int32 × (Nat → Int32) × (Nat → Int32) × (Nat → Int32)) (hf : f_X11_isLocallyConfluent fu system_objects system_steps peaks_firsts peaks_seconds reach system_labels system_sources system_targets = some out) : xMet l yX11_isLocallyConfluent wsX11_isLocallyConfluent (rM 3 71) D G [.ref h] [[(h, .inr (10, [.ref h_order, .ref h_system, .ref h_rules, .ref h_savedOrder, .ref h_savedSystem, .ref h_savedRules, .int snapshotSaved, .ref h_peaks, .ref h_leftPaths, .ref h_rightPaths, .ref h_text, .ref h_labellings, .ref h_input, .ref h_explorer, .ref h_arrays, .ref a_reach]))], [(h_peaks, .inr (7, [.int peaks_count, .ref a_peaks_firsts, .ref a_peaks_seconds]))], [(a_peaks_firsts, .inl (G 0, 496, .inl peaks_firsts))], [(a_peaks_seconds, .inl (G 0, 496, .inl peaks_seconds))], [(a_reach, .inl (G 0, 16, .inl reach))], [(h_system, .inr (3, [.int system_objects, .ref a_system_words, .int system_steps, .ref a_system_sources, .ref a_system_targets, .ref a_system_labels]))], [(a_system_labels, .inl (G 0, 32, .inl system_labels))], [(a_system_sources, .inl (G 0, 32, .inl system_sources))], [(a_system_targets, .inl (G 0, 32, .inl system_targets))]] (xQi D [[(h, .inr (10, [.ref h_order, .ref h_system, .ref h_rules, .ref h_savedOrder, .ref h_savedSystem, .ref h_savedRules, .int snapshotSaved, .ref h_peaks, .ref h_leftPaths, .ref h_rightPaths, .ref h_text, .ref h_labellings, .ref h_input, .ref h_explorer, .ref h_arrays, .ref a_reach]))], [(h_peaks, .inr (7, [.int out.2.1, .ref a_peaks_firsts, .ref a_peaks_seconds]))], [(a_peaks_firsts, .inl (G 0, 496, .inl out.2.2.1))], [(a_peaks_seconds, .inl (G 0, 496, .inl out.2.2.2.1))], [(a_reach, .inl (G 0, 16, .inl out.2.2.2.2))], [(h_system, .inr (3, [.int system_objects, .ref a_system_words, .int system_steps, .ref a_system_sources, .ref a_system_targets, .ref a_system_labels]))], [(a_system_labels, .inl (G 0, 32, .inl system_labels))], [(a_system_sources, .inl (G 0, 32, .inl system_sources))], [(a_system_targets, .inl (G 0, 32, .inl system_targets))]] out.1) := by
  refine x_ent (cc := cX11_isLocallyConfluent) (maxL := 4) (by decide) rfl (Nat.le_of_ble_eq_true rfl) ?_
  intro p e s m blw meth c aa ls args Q H locs hQ hx hb hr hml hown hts hlocks hE hN hl hP hS
  have hown : s.vm.findClass RX11 = some m.cls := hown
  have hl : lv_has ls 4 [(0, .ref h)] := hl
  have L24 : ∀ (peaks_count : Int32) (peaks_firsts : (Nat → Int32)) (peaks_seconds : (Nat → Int32)) (reach : (Nat → Int32)), ∀ (n_24 : Nat) (v1 : Int32) (H : Heap) (locs : List Loc) (ls : Array Slot), xW D aa [[(h, .inr (10, [.ref h_order, .ref h_system, .ref h_rules, .ref h_savedOrder, .ref h_savedSystem, .ref h_savedRules, .int snapshotSaved, .ref h_peaks, .ref h_leftPaths, .ref h_rightPaths, .ref h_text, .ref h_labellings, .ref h_input, .ref h_explorer, .ref h_arrays, .ref a_reach]))], [(h_peaks, .inr (7, [.int peaks_count, .ref a_peaks_firsts, .ref a_peaks_seconds]))], [(a_peaks_firsts, .inl (G 0, 496, .inl peaks_firsts))], [(a_peaks_seconds, .inl (G 0, 496, .inl peaks_seconds))], [(a_reach, .inl (G 0, 16, .inl reach))], [(h_system, .inr (3, [.int system_objects, .ref a_system_words, .int system_steps, .ref a_system_sources, .ref a_system_targets, .ref a_system_labels]))], [(a_system_labels, .inl (G 0, 32, .inl system_labels))], [(a_system_sources, .inl (G 0, 32, .inl system_sources))], [(a_system_targets, .inl (G 0, 32, .inl system_targets))]] H → va_S (xA aa) s.heap H locs → lv_has ls 4 [(0, .ref h), (1, .int v1)] → lp (τ := Int32 → Option (Int32 × Int32 × (Nat → Int32) × (Nat → Int32) × (Nat → Int32))) (fun _ => none) (f_X11_isLocallyConfluent_L24 peaks_count peaks_firsts peaks_seconds reach system_targets) n_24 v1 = some out → W p l e (rM 3 71) s m args blw meth c H locs 0 0 Q (F0 m 24 ls []) := by
    intro peaks_count peaks_firsts peaks_seconds reach   n_24
    induction n_24 with
    | zero =>
      intro v1 H locs ls hP hS hl hf
      exact no_some hf
    | succ n_24 ih_24 =>
      intro v1 H locs ls hP hS hl hf
      have hf : f_X11_isLocallyConfluent_L24 peaks_count peaks_firsts peaks_seconds reach system_targets (lp (τ := Int32 → Option (Int32 × Int32 × (Nat → Int32) × (Nat → Int32) × (Nat → Int32))) (fun _ => none) (f_X11_isLocallyConfluent_L24 peaks_count peaks_firsts peaks_seconds reach system_targets) n_24) v1 = some out := hf
      refine lv_iload_n hx hb dX11_isLocallyConfluent_24 rfl (lv_at hl 1 rfl) ?_
      refine lv_aload_n hx hb dX11_isLocallyConfluent_25 rfl (lv_at hl 0 rfl) ?_
      refine x_get hx hb hts u_X11_isLocallyConfluent_X11 hown hE hP 0 rfl rfl 7 (by decide) (hts (.fieldLink RX11 46 "DecreasingDiagrams" "peaks" "LDecreasingDiagrams$Peaks;") (List.mem_of_getElem? (i := 3) rfl)) rfl dX11_isLocallyConfluent_26 ?_
      refine x_getN hx hb hts u_X11_isLocallyConfluent_X7 hown hE hP 1 rfl rfl 0 (by decide) (hE.2 (.fieldLinkNest RX11 199 "DecreasingDiagrams$Peaks" "count" "I" RX11) (List.mem_of_getElem? (i := 28) rfl)) rfl dX11_isLocallyConfluent_29 ?_
      refine lv_icmp_ge (tgt := 95) hx hb dX11_isLocallyConfluent_32 (by decide) (fun c_32 => ?_) (fun c_32 => ?_)
      · have hf := it_pos c_32 hf
        refine lv_iconst (v := 1) hx hb dX11_isLocallyConfluent_95 (by decide) ?_
        have hf := Option.some.inj hf
        rewrite [← hQ, ← hf]
        exact x_iret hx hb hr hlocks hP hS dX11_isLocallyConfluent_96
      · have hf := it_neg c_32 hf
        refine lv_aload_n hx hb dX11_isLocallyConfluent_35 rfl (lv_at hl 0 rfl) ?_
        refine x_get hx hb hts u_X11_isLocallyConfluent_X11 hown hE hP 0 rfl rfl 1 (by decide) (hts (.fieldLink RX11 19 "DecreasingDiagrams" "system" "LDecreasingDiagrams$LabelledSystem;") (List.mem_of_getElem? (i := 1) rfl)) rfl dX11_isLocallyConfluent_36 ?_
        refine x_getN hx hb hts u_X11_isLocallyConfluent_X3 hown hE hP 5 rfl rfl 4 (by decide) (hE.2 (.fieldLinkNest RX11 158 "DecreasingDiagrams$LabelledSystem" "targets" "[I" RX11) (List.mem_of_getElem? (i := 17) rfl)) rfl dX11_isLocallyConfluent_39 ?_
        refine lv_aload_n hx hb dX11_isLocallyConfluent_42 rfl (lv_at hl 0 rfl) ?_
        refine x_get hx hb hts u_X11_isLocallyConfluent_X11 hown hE hP 0 rfl rfl 7 (by decide) (hts (.fieldLink RX11 46 "DecreasingDiagrams" "peaks" "LDecreasingDiagrams$Peaks;") (List.mem_of_getElem? (i := 3) rfl)) rfl dX11_isLocallyConfluent_43 ?_
        refine x_getN hx hb hts u_X11_isLocallyConfluent_X7 hown hE hP 1 rfl rfl 1 (by decide) (hE.2 (.fieldLinkNest RX11 202 "DecreasingDiagrams$Peaks" "firsts" "[I" RX11) (List.mem_of_getElem? (i := 29) rfl)) rfl dX11_isLocallyConfluent_46 ?_
        refine lv_iload_n hx hb dX11_isLocallyConfluent_49 rfl (lv_at hl 1 rfl) ?_
        obtain ⟨hi, hf⟩ := ck_some hf
        refine x_iald hx hb hE hP 2 rfl hi dX11_isLocallyConfluent_50 ?_
        obtain ⟨hi, hf⟩ := ck_some hf
        refine x_iald hx hb hE hP 8 rfl hi dX11_isLocallyConfluent_51 ?_
        obtain ⟨v2_52, e_v2_52, hf⟩ := lt_some hf
        refine x_istore_n (v := v2_52) (lv' := [(2, .int v2_52), (0, .ref h), (1, .int v1)]) hx hb dX11_isLocallyConfluent_52 e_v2_52 rfl hl (by decide) rfl (fun ls hl => ?_)
        refine lv_aload_n hx hb dX11_isLocallyConfluent_53 rfl (lv_at hl 1 rfl) ?_
        refine x_get hx hb hts u_X11_isLocallyConfluent_X11 hown hE hP 0 rfl rfl 1 (by decide) (hts (.fieldLink RX11 19 "DecreasingDiagrams" "system" "LDecreasingDiagrams$LabelledSystem;") (List.mem_of_getElem? (i := 1) rfl)) rfl dX11_isLocallyConfluent_54 ?_
        refine x_getN hx hb hts u_X11_isLocallyConfluent_X3 hown hE hP 5 rfl rfl 4 (by decide) (hE.2 (.fieldLinkNest RX11 158 "DecreasingDiagrams$LabelledSystem" "targets" "[I" RX11) (List.mem_of_getElem? (i := 17) rfl)) rfl dX11_isLocallyConfluent_57 ?_
        refine lv_aload_n hx hb dX11_isLocallyConfluent_60 rfl (lv_at hl 1 rfl) ?_
        refine x_get hx hb hts u_X11_isLocallyConfluent_X11 hown hE hP 0 rfl rfl 7 (by decide) (hts (.fieldLink RX11 46 "DecreasingDiagrams" "peaks" "LDecreasingDiagrams$Peaks;") (List.mem_of_getElem? (i := 3) rfl)) rfl dX11_isLocallyConfluent_61 ?_
        refine x_getN hx hb hts u_X11_isLocallyConfluent_X7 hown hE hP 1 rfl rfl 2 (by decide) (hE.2 (.fieldLinkNest RX11 205 "DecreasingDiagrams$Peaks" "seconds" "[I" RX11) (List.mem_of_getElem? (i := 30) rfl)) rfl dX11_isLocallyConfluent_64 ?_
        refine lv_iload_n hx hb dX11_isLocallyConfluent_67 rfl (lv_at hl 2 rfl) ?_
        obtain ⟨hi, hf⟩ := ck_some hf
        refine x_iald hx hb hE hP 3 rfl hi dX11_isLocallyConfluent_68 ?_
        obtain ⟨hi, hf⟩ := ck_some hf
        refine x_iald hx hb hE hP 8 rfl hi dX11_isLocallyConfluent_69 ?_
        obtain ⟨v3_70, e_v3_70, hf⟩ := lt_some hf
        refine x_istore_n (v := v3_70) (lv' := [(3, .int v3_70), (2, .int v2_52), (0, .ref h), (1, .int v1)]) hx hb dX11_isLocallyConfluent_70 e_v3_70 rfl hl (by decide) rfl (fun ls hl => ?_)
        refine lv_aload_n hx hb dX11_isLocallyConfluent_71 rfl (lv_at hl 2 rfl) ?_
        refine x_get hx hb hts u_X11_isLocallyConfluent_X11 hown hE hP 0 rfl rfl 15 (by decide) (hts (.fieldLink RX11 95 "DecreasingDiagrams" "reach" "[I") (List.mem_of_getElem? (i := 2) rfl)) rfl dX11_isLocallyConfluent_72 ?_
        refine lv_iload_n hx hb dX11_isLocallyConfluent_75 rfl (lv_at hl 1 rfl) ?_
        obtain ⟨hi, hf⟩ := ck_some hf
        refine x_iald hx hb hE hP 4 rfl hi dX11_isLocallyConfluent_76 ?_
        refine lv_aload_n hx hb dX11_isLocallyConfluent_77 rfl (lv_at hl 2 rfl) ?_
        refine x_get hx hb hts u_X11_isLocallyConfluent_X11 hown hE hP 0 rfl rfl 15 (by decide) (hts (.fieldLink RX11 95 "DecreasingDiagrams" "reach" "[I") (List.mem_of_getElem? (i := 2) rfl)) rfl dX11_isLocallyConfluent_78 ?_
        refine lv_iload_n hx hb dX11_isLocallyConfluent_81 rfl (lv_at hl 0 rfl) ?_
        obtain ⟨hi, hf⟩ := ck_some hf
        refine x_iald hx hb hE hP 4 rfl hi dX11_isLocallyConfluent_82 ?_
        refine lv_iand hx hb dX11_isLocallyConfluent_83 ?_
        refine lv_if_ne (tgt := 89) hx hb dX11_isLocallyConfluent_84 (by decide) (fun c_84 => ?_) (fun c_84 => ?_)
        · have hf := it_pos c_84 hf
          obtain ⟨v1_89, e_v1_89, hf⟩ := lt_some hf
          refine lv_iinc (v := v1_89) (lv' := [(1, .int v1_89), (3, .int v3_70), (2, .int v2_52), (0, .ref h)]) hx hb dX11_isLocallyConfluent_89 hl (k := 3) rfl (by rw [e_v1_89]; rfl) (by decide) rfl (fun ls hl => ?_)
          refine lv_goto (tgt := 24) hx hb dX11_isLocallyConfluent_92 (by decide) ?_
          exact ih_24 v1_89 H locs ls hP hS (lv_sub hl [3, 0] rfl) hf
        · have hf := it_neg (fun h => h c_84) hf
          refine lv_iconst (v := 0) hx hb dX11_isLocallyConfluent_87 (by decide) ?_
          have hf := Option.some.inj hf
          rewrite [← hQ, ← hf]
          exact x_iret hx hb hr hlocks hP hS dX11_isLocallyConfluent_88
  refine lv_aload_n hx hb dX11_isLocallyConfluent_0 rfl (lv_at hl 0 rfl) ?_
  refine x_get hx hb hts u_X11_isLocallyConfluent_X11 hown hE hP 0 rfl rfl 1 (by decide) (hts (.fieldLink RX11 19 "DecreasingDiagrams" "system" "LDecreasingDiagrams$LabelledSystem;") (List.mem_of_getElem? (i := 1) rfl)) rfl dX11_isLocallyConfluent_1 ?_
  refine lv_aload_n hx hb dX11_isLocallyConfluent_4 rfl (lv_at hl 0 rfl) ?_
  refine x_get hx hb hts u_X11_isLocallyConfluent_X11 hown hE hP 0 rfl rfl 15 (by decide) (hts (.fieldLink RX11 95 "DecreasingDiagrams" "reach" "[I") (List.mem_of_getElem? (i := 2) rfl)) rfl dX11_isLocallyConfluent_5 ?_
  obtain ⟨r_8, hr_8, hf⟩ := bd_some hf
  refine x_gov (ps := [4, 5, 6, 7, 8]) (qs := [0, 1, 2, 3]) (n := 9) (I' := [[(h, .inr (10, [.ref h_order, .ref h_system, .ref h_rules, .ref h_savedOrder, .ref h_savedSystem, .ref h_savedRules, .int snapshotSaved, .ref h_peaks, .ref h_leftPaths, .ref h_rightPaths, .ref h_text, .ref h_labellings, .ref h_input, .ref h_explorer, .ref h_arrays, .ref a_reach]))], [(h_peaks, .inr (7, [.int peaks_count, .ref a_peaks_firsts, .ref a_peaks_seconds]))], [(a_peaks_firsts, .inl (G 0, 496, .inl peaks_firsts))], [(a_peaks_seconds, .inl (G 0, 496, .inl peaks_seconds))], [(a_reach, .inl (G 0, 16, .inl r_8))], [(h_system, .inr (3, [.int system_objects, .ref a_system_words, .int system_steps, .ref a_system_sources, .ref a_system_targets, .ref a_system_labels]))], [(a_system_labels, .inl (G 0, 32, .inl system_labels))], [(a_system_sources, .inl (G 0, 32, .inl system_sources))], [(a_system_targets, .inl (G 0, 32, .inl system_targets))]]) (x_runVN (As := [.ref a_reach]) (rest := []) (ps := [4, 5, 6, 7, 8]) ⟨hx, hb, hml, hown, hts⟩ (k_X3_fillReach l D G fu h_system a_reach a_system_words a_system_sources a_system_targets a_system_labels system_objects system_steps reach system_labels system_sources system_targets 16 r_8 hr_8) ⟨va_cnB 1 hts gX11_isLocallyConfluent_X3_fillReach_n191 rfl rfl rfl (hE.2 (.methodLinkNest RX11 191 yX3_fillReach RX11) (List.mem_of_getElem? (i := 72) rfl)) (hts (.initialized RX3) (List.mem_of_getElem? (i := 5) rfl)) (by decide +kernel) ⟨Nat.le_of_ble_eq_true rfl, Nat.le_of_ble_eq_true rfl⟩, (hts (.instanceMethod yX3_fillReach) (List.mem_of_getElem? (i := 4) rfl)), (hts (.selects RX3 yX3_fillReach yX3_fillReach) (List.mem_of_getElem? (i := 6) rfl))⟩ hE hP hN rfl (by decide) 5 rfl rfl rfl hl.1 (Nat.le_of_ble_eq_true rfl) dX11_isLocallyConfluent_8 ⟨Nat.zero_le _, Nat.zero_le _⟩) hP hN hS rfl rfl rfl rfl rfl (by decide) (fun H locs hP hS => ?_)
  refine lv_aload_n hx hb dX11_isLocallyConfluent_11 rfl (lv_at hl 0 rfl) ?_
  refine x_get hx hb hts u_X11_isLocallyConfluent_X11 hown hE hP 0 rfl rfl 7 (by decide) (hts (.fieldLink RX11 46 "DecreasingDiagrams" "peaks" "LDecreasingDiagrams$Peaks;") (List.mem_of_getElem? (i := 3) rfl)) rfl dX11_isLocallyConfluent_12 ?_
  refine lv_aload_n hx hb dX11_isLocallyConfluent_15 rfl (lv_at hl 0 rfl) ?_
  refine x_get hx hb hts u_X11_isLocallyConfluent_X11 hown hE hP 0 rfl rfl 1 (by decide) (hts (.fieldLink RX11 19 "DecreasingDiagrams" "system" "LDecreasingDiagrams$LabelledSystem;") (List.mem_of_getElem? (i := 1) rfl)) rfl dX11_isLocallyConfluent_16 ?_
  obtain ⟨r_19, hr_19, hf⟩ := bd_some hf
  refine x_gov (ps := [5, 7, 1, 2, 3]) (qs := [0, 4, 6, 8]) (n := 9) (I' := [[(h, .inr (10, [.ref h_order, .ref h_system, .ref h_rules, .ref h_savedOrder, .ref h_savedSystem, .ref h_savedRules, .int snapshotSaved, .ref h_peaks, .ref h_leftPaths, .ref h_rightPaths, .ref h_text, .ref h_labellings, .ref h_input, .ref h_explorer, .ref h_arrays, .ref a_reach]))], [(h_peaks, .inr (7, [.int r_19.1, .ref a_peaks_firsts, .ref a_peaks_seconds]))], [(a_peaks_firsts, .inl (G 0, 496, .inl r_19.2.1))], [(a_peaks_seconds, .inl (G 0, 496, .inl r_19.2.2))], [(a_reach, .inl (G 0, 16, .inl r_8))], [(h_system, .inr (3, [.int system_objects, .ref a_system_words, .int system_steps, .ref a_system_sources, .ref a_system_targets, .ref a_system_labels]))], [(a_system_labels, .inl (G 0, 32, .inl system_labels))], [(a_system_sources, .inl (G 0, 32, .inl system_sources))], [(a_system_targets, .inl (G 0, 32, .inl system_targets))]]) (x_runVN (As := [.ref h_system]) (rest := []) (ps := [5, 7, 1, 2, 3]) ⟨hx, hb, hml, hown, hts⟩ (k_X7_collect l D G fu h_peaks h_system a_system_words a_system_sources a_system_targets a_system_labels a_peaks_firsts a_peaks_seconds system_objects system_steps peaks_count system_sources peaks_firsts peaks_seconds r_19 hr_19) ⟨va_cnB 1 hts gX11_isLocallyConfluent_X7_collect_n195 rfl rfl rfl (hE.2 (.methodLinkNest RX11 195 yX7_collect RX11) (List.mem_of_getElem? (i := 73) rfl)) (hts (.initialized RX7) (List.mem_of_getElem? (i := 22) rfl)) (by decide +kernel) ⟨Nat.le_of_ble_eq_true rfl, Nat.le_of_ble_eq_true rfl⟩, (hts (.instanceMethod yX7_collect) (List.mem_of_getElem? (i := 21) rfl)), (hts (.selects RX7 yX7_collect yX7_collect) (List.mem_of_getElem? (i := 23) rfl))⟩ hE hP hN rfl (by decide) 1 rfl rfl rfl hl.1 (Nat.le_of_ble_eq_true rfl) dX11_isLocallyConfluent_19 ⟨Nat.zero_le _, Nat.zero_le _⟩) hP hN hS rfl rfl rfl rfl rfl (by decide) (fun H locs hP hS => ?_)
  refine lv_iconst (v := 0) hx hb dX11_isLocallyConfluent_22 (by decide) ?_
  obtain ⟨v1_23, e_v1_23, hf⟩ := lt_some hf
  refine x_istore_n (v := v1_23) (lv' := [(1, .int v1_23), (0, .ref h)]) hx hb dX11_isLocallyConfluent_23 e_v1_23 rfl hl (by decide) rfl (fun ls hl => ?_)
  exact L24 r_19.1 r_19.2.1 r_19.2.2 r_8   fu v1_23 H locs ls hP hS (lv_sub hl [1, 0] rfl) hf
