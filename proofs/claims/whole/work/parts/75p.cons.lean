set_option maxRecDepth 20000 in
theorem u_X1_init_X1 : ∀ w ∈ wsX10, w ∈ wsX1_init := xx_pl _ [7, 8] (by decide +kernel)
set_option maxHeartbeats 4000000 in
set_option maxRecDepth 100000 in
theorem k_X1_init (l : Launch) (D : va_G) (G : Nat → ClassId) (h sz : Nat) : cMet l yX1_init wsX1_init { frames := 1, cells := 1, slots := 20, locals := 12 } D G h sz 1 [.int 0, .null] (pX1 G h) 1 20 := by
  refine c_ent (cc := cX1_init) (by decide) rfl rfl ?_
  intro p e s m below meth c A ls args Q H locs hsz hAe hQ hx hb hr hml hown hts hlocks hin hE hl hA hP hD hS
  have hl : lv_has ls 1 [(0, .ref h)] := hl
  rw [← hQ]
  refine lv_aload_n hx hb dX1_init_0 rfl (lv_at hl 0 rfl) ?_
  refine W.objInit hx hb hown (hts (.methodLink RX1 3 objectInit) (List.mem_of_getElem? (i := 1) rfl)) (hts (.instanceMethod objectInit) (List.mem_of_getElem? (i := 2) rfl)) (hts (.code objectInit ⟨#[0xb1]⟩ 1 none) (List.mem_of_getElem? (i := 3) rfl)) rfl (by rw [hml]; exact hl.1) rfl dX1_init_1 (Nat.le_of_ble_eq_true rfl) (Nat.le_of_ble_eq_true rfl) ?_
  refine W.eq (g2 := F0 m 4 ls []) rfl ?_
  have hP : va_P D vwCl ((h, .inr (1, [.int 0, .null])) :: ([] : va_W)) H := hP
  have hD : va_D A ((h, .inr (1, [.int 0, .null])) :: ([] : va_W)) := hD
  refine lv_aload_n hx hb dX1_init_4 rfl (lv_at hl 0 rfl) ?_
  refine lv_iconst (v := 0) hx hb dX1_init_5 (by decide) ?_
  refine va_put (D := D) (ci := 1) (v := .int 0) (ty := .int) (C := RX1) (T := TX1) (N := 2) hx hb hts u_X1_init_X1 tyX1 tyX1_ok nmX1 hown hE.1.1 hP hD hS 0 rfl rfl 0 (by decide) (hts (.fieldLink RX1 9 "DecreasingDiagrams$InputLine" "length" "I") (List.mem_of_getElem? (i := 4) rfl)) (fun _ h9 => h9) rfl (by decide +kernel) rfl rfl (Nat.le_of_ble_eq_true rfl) dX1_init_6 (fun H locs hP hD hS => ?_)
  have hP : va_P D vwCl ((h, .inr (1, [.int 0, .null])) :: ([] : va_W)) H := hP
  have hD : va_D A ((h, .inr (1, [.int 0, .null])) :: ([] : va_W)) := hD
  refine lv_aload_n hx hb dX1_init_9 rfl (lv_at hl 0 rfl) ?_
  refine lv_bipush (v := 20) hx hb dX1_init_10 (by decide) ?_
  refine c_newa (n := 20) (N' := 20) (c2 := 1) (s2 := 20) hx hb (hts (.arrayClass .int) (List.mem_of_getElem? (i := 5) rfl)) hE hP hD hS hA (by decide) (by decide) (Nat.le_of_ble_eq_true rfl) (Nat.le_of_ble_eq_true rfl) (Nat.le_of_ble_eq_true rfl) rfl rfl dX1_init_12 (fun q12 H hP hD hS => ?_)
  have hP : va_P D vwCl ((h, .inr (1, [.int 0, .null])) :: (([] : va_W) ++ [(q12, .inl (G 0, 20, .inl (fun _ => 0)))])) H := hP
  have hD : va_D A ((h, .inr (1, [.int 0, .null])) :: (([] : va_W) ++ [(q12, .inl (G 0, 20, .inl (fun _ => 0)))])) := hD
  refine va_putF (D := D) (ci := 1) (v := .ref q12) (ty := .array .int) (C := RX1) (T := TX1) (N := 2) hx hb hts u_X1_init_X1 tyX1 tyX1_ok nmX1 hown hE.1.1 hP hD hS 0 rfl rfl 1 (by decide) (hts (.fieldLink RX1 15 "DecreasingDiagrams$InputLine" "bytes" "[I") (List.mem_of_getElem? (i := 6) rfl)) (fun _ h9 => h9) rfl hin rfl (by decide +kernel) rfl rfl (Nat.le_of_ble_eq_true rfl) dX1_init_14 (fun H locs hP hD hS => ?_)
  have hP : va_P D vwCl ((h, .inr (1, [.int 0, .ref q12])) :: (([] : va_W) ++ [(q12, .inl (G 0, 20, .inl (fun _ => 0)))])) H := hP
  have hD : va_D A ((h, .inr (1, [.int 0, .ref q12])) :: (([] : va_W) ++ [(q12, .inl (G 0, 20, .inl (fun _ => 0)))])) := hD
  exact c_ret hx hb hr hlocks hsz hAe hP hD hS ⟨vv 0 [q12], rfl⟩ dX1_init_17
set_option maxRecDepth 20000 in
theorem u_X2_init_X2 : ∀ w ∈ wsX20, w ∈ wsX2_init := xx_pl _ [7, 8] (by decide +kernel)
set_option maxHeartbeats 4000000 in
set_option maxRecDepth 100000 in
theorem k_X2_init (l : Launch) (D : va_G) (G : Nat → ClassId) (h sz : Nat) : cMet l yX2_init wsX2_init { frames := 1, cells := 2, slots := 16, locals := 12 } D G h sz 2 [.null, .null] (pX2 G h) 2 16 := by
  refine c_ent (cc := cX2_init) (by decide) rfl rfl ?_
  intro p e s m below meth c A ls args Q H locs hsz hAe hQ hx hb hr hml hown hts hlocks hin hE hl hA hP hD hS
  have hl : lv_has ls 1 [(0, .ref h)] := hl
  rw [← hQ]
  refine lv_aload_n hx hb dX2_init_0 rfl (lv_at hl 0 rfl) ?_
  refine W.objInit hx hb hown (hts (.methodLink RX2 3 objectInit) (List.mem_of_getElem? (i := 1) rfl)) (hts (.instanceMethod objectInit) (List.mem_of_getElem? (i := 2) rfl)) (hts (.code objectInit ⟨#[0xb1]⟩ 1 none) (List.mem_of_getElem? (i := 3) rfl)) rfl (by rw [hml]; exact hl.1) rfl dX2_init_1 (Nat.le_of_ble_eq_true rfl) (Nat.le_of_ble_eq_true rfl) ?_
  refine W.eq (g2 := F0 m 4 ls []) rfl ?_
  have hP : va_P D vwCl ((h, .inr (2, [.null, .null])) :: ([] : va_W)) H := hP
  have hD : va_D A ((h, .inr (2, [.null, .null])) :: ([] : va_W)) := hD
  refine lv_aload_n hx hb dX2_init_4 rfl (lv_at hl 0 rfl) ?_
  refine lv_bipush (v := 8) hx hb dX2_init_5 (by decide) ?_
  refine c_newa (n := 8) (N' := 8) (c2 := 1) (s2 := 8) hx hb (hts (.arrayClass .int) (List.mem_of_getElem? (i := 4) rfl)) hE hP hD hS hA (by decide) (by decide) (Nat.le_of_ble_eq_true rfl) (Nat.le_of_ble_eq_true rfl) (Nat.le_of_ble_eq_true rfl) rfl rfl dX2_init_7 (fun q7 H hP hD hS => ?_)
  have hP : va_P D vwCl ((h, .inr (2, [.null, .null])) :: (([] : va_W) ++ [(q7, .inl (G 0, 8, .inl (fun _ => 0)))])) H := hP
  have hD : va_D A ((h, .inr (2, [.null, .null])) :: (([] : va_W) ++ [(q7, .inl (G 0, 8, .inl (fun _ => 0)))])) := hD
  refine va_putF (D := D) (ci := 2) (v := .ref q7) (ty := .array .int) (C := RX2) (T := TX2) (N := 2) hx hb hts u_X2_init_X2 tyX2 tyX2_ok nmX2 hown hE.1.1 hP hD hS 0 rfl rfl 0 (by decide) (hts (.fieldLink RX2 9 "DecreasingDiagrams$LabelOrder" "pairs" "[I") (List.mem_of_getElem? (i := 5) rfl)) (fun _ h9 => h9) rfl hin rfl (by decide +kernel) rfl rfl (Nat.le_of_ble_eq_true rfl) dX2_init_9 (fun H locs hP hD hS => ?_)
  have hP : va_P D vwCl ((h, .inr (2, [.ref q7, .null])) :: (([] : va_W) ++ [(q7, .inl (G 0, 8, .inl (fun _ => 0)))])) H := hP
  have hD : va_D A ((h, .inr (2, [.ref q7, .null])) :: (([] : va_W) ++ [(q7, .inl (G 0, 8, .inl (fun _ => 0)))])) := hD
  refine lv_aload_n hx hb dX2_init_12 rfl (lv_at hl 0 rfl) ?_
  refine lv_bipush (v := 8) hx hb dX2_init_13 (by decide) ?_
  refine c_newa (n := 8) (N' := 8) (c2 := 2) (s2 := 16) hx hb (hts (.arrayClass .int) (List.mem_of_getElem? (i := 4) rfl)) hE hP hD hS hA (by decide) (by decide) (Nat.le_of_ble_eq_true rfl) (Nat.le_of_ble_eq_true rfl) (Nat.le_of_ble_eq_true rfl) rfl rfl dX2_init_15 (fun q15 H hP hD hS => ?_)
  have hP : va_P D vwCl ((h, .inr (2, [.ref q7, .null])) :: ((([] : va_W) ++ [(q7, .inl (G 0, 8, .inl (fun _ => 0)))]) ++ [(q15, .inl (G 0, 8, .inl (fun _ => 0)))])) H := hP
  have hD : va_D A ((h, .inr (2, [.ref q7, .null])) :: ((([] : va_W) ++ [(q7, .inl (G 0, 8, .inl (fun _ => 0)))]) ++ [(q15, .inl (G 0, 8, .inl (fun _ => 0)))])) := hD
  refine va_putF (D := D) (ci := 2) (v := .ref q15) (ty := .array .int) (C := RX2) (T := TX2) (N := 2) hx hb hts u_X2_init_X2 tyX2 tyX2_ok nmX2 hown hE.1.1 hP hD hS 0 rfl rfl 1 (by decide) (hts (.fieldLink RX2 15 "DecreasingDiagrams$LabelOrder" "below" "[I") (List.mem_of_getElem? (i := 6) rfl)) (fun _ h9 => h9) rfl hin rfl (by decide +kernel) rfl rfl (Nat.le_of_ble_eq_true rfl) dX2_init_17 (fun H locs hP hD hS => ?_)
  have hP : va_P D vwCl ((h, .inr (2, [.ref q7, .ref q15])) :: ((([] : va_W) ++ [(q7, .inl (G 0, 8, .inl (fun _ => 0)))]) ++ [(q15, .inl (G 0, 8, .inl (fun _ => 0)))])) H := hP
  have hD : va_D A ((h, .inr (2, [.ref q7, .ref q15])) :: ((([] : va_W) ++ [(q7, .inl (G 0, 8, .inl (fun _ => 0)))]) ++ [(q15, .inl (G 0, 8, .inl (fun _ => 0)))])) := hD
  exact c_ret hx hb hr hlocks hsz hAe hP hD hS ⟨vv 0 [q7, q15], rfl⟩ dX2_init_20
set_option maxRecDepth 20000 in
theorem u_X3_init_X3 : ∀ w ∈ wsX30, w ∈ wsX3_init := xx_pl _ [11, 12, 13, 14, 15, 16] (by decide +kernel)
set_option maxHeartbeats 4000000 in
set_option maxRecDepth 100000 in
theorem k_X3_init (l : Launch) (D : va_G) (G : Nat → ClassId) (h sz : Nat) : cMet l yX3_init wsX3_init { frames := 1, cells := 4, slots := 112, locals := 12 } D G h sz 3 [.int 0, .null, .int 0, .null, .null, .null] (pX3 G h) 4 112 := by
  refine c_ent (cc := cX3_init) (by decide) rfl rfl ?_
  intro p e s m below meth c A ls args Q H locs hsz hAe hQ hx hb hr hml hown hts hlocks hin hE hl hA hP hD hS
  have hl : lv_has ls 1 [(0, .ref h)] := hl
  rw [← hQ]
  refine lv_aload_n hx hb dX3_init_0 rfl (lv_at hl 0 rfl) ?_
  refine W.objInit hx hb hown (hts (.methodLink RX3 3 objectInit) (List.mem_of_getElem? (i := 1) rfl)) (hts (.instanceMethod objectInit) (List.mem_of_getElem? (i := 2) rfl)) (hts (.code objectInit ⟨#[0xb1]⟩ 1 none) (List.mem_of_getElem? (i := 3) rfl)) rfl (by rw [hml]; exact hl.1) rfl dX3_init_1 (Nat.le_of_ble_eq_true rfl) (Nat.le_of_ble_eq_true rfl) ?_
  refine W.eq (g2 := F0 m 4 ls []) rfl ?_
  have hP : va_P D vwCl ((h, .inr (3, [.int 0, .null, .int 0, .null, .null, .null])) :: ([] : va_W)) H := hP
  have hD : va_D A ((h, .inr (3, [.int 0, .null, .int 0, .null, .null, .null])) :: ([] : va_W)) := hD
  refine lv_aload_n hx hb dX3_init_4 rfl (lv_at hl 0 rfl) ?_
  refine lv_iconst (v := 0) hx hb dX3_init_5 (by decide) ?_
  refine va_put (D := D) (ci := 3) (v := .int 0) (ty := .int) (C := RX3) (T := TX3) (N := 6) hx hb hts u_X3_init_X3 tyX3 tyX3_ok nmX3 hown hE.1.1 hP hD hS 0 rfl rfl 0 (by decide) (hts (.fieldLink RX3 9 "DecreasingDiagrams$LabelledSystem" "objects" "I") (List.mem_of_getElem? (i := 4) rfl)) (fun _ h9 => h9) rfl (by decide +kernel) rfl rfl (Nat.le_of_ble_eq_true rfl) dX3_init_6 (fun H locs hP hD hS => ?_)
  have hP : va_P D vwCl ((h, .inr (3, [.int 0, .null, .int 0, .null, .null, .null])) :: ([] : va_W)) H := hP
  have hD : va_D A ((h, .inr (3, [.int 0, .null, .int 0, .null, .null, .null])) :: ([] : va_W)) := hD
  refine lv_aload_n hx hb dX3_init_9 rfl (lv_at hl 0 rfl) ?_
  refine lv_bipush (v := 16) hx hb dX3_init_10 (by decide) ?_
  refine c_newa (n := 16) (N' := 16) (c2 := 1) (s2 := 16) hx hb (hts (.arrayClass .int) (List.mem_of_getElem? (i := 5) rfl)) hE hP hD hS hA (by decide) (by decide) (Nat.le_of_ble_eq_true rfl) (Nat.le_of_ble_eq_true rfl) (Nat.le_of_ble_eq_true rfl) rfl rfl dX3_init_12 (fun q12 H hP hD hS => ?_)
  have hP : va_P D vwCl ((h, .inr (3, [.int 0, .null, .int 0, .null, .null, .null])) :: (([] : va_W) ++ [(q12, .inl (G 0, 16, .inl (fun _ => 0)))])) H := hP
  have hD : va_D A ((h, .inr (3, [.int 0, .null, .int 0, .null, .null, .null])) :: (([] : va_W) ++ [(q12, .inl (G 0, 16, .inl (fun _ => 0)))])) := hD
  refine va_putF (D := D) (ci := 3) (v := .ref q12) (ty := .array .int) (C := RX3) (T := TX3) (N := 6) hx hb hts u_X3_init_X3 tyX3 tyX3_ok nmX3 hown hE.1.1 hP hD hS 0 rfl rfl 1 (by decide) (hts (.fieldLink RX3 15 "DecreasingDiagrams$LabelledSystem" "words" "[I") (List.mem_of_getElem? (i := 6) rfl)) (fun _ h9 => h9) rfl hin rfl (by decide +kernel) rfl rfl (Nat.le_of_ble_eq_true rfl) dX3_init_14 (fun H locs hP hD hS => ?_)
  have hP : va_P D vwCl ((h, .inr (3, [.int 0, .ref q12, .int 0, .null, .null, .null])) :: (([] : va_W) ++ [(q12, .inl (G 0, 16, .inl (fun _ => 0)))])) H := hP
  have hD : va_D A ((h, .inr (3, [.int 0, .ref q12, .int 0, .null, .null, .null])) :: (([] : va_W) ++ [(q12, .inl (G 0, 16, .inl (fun _ => 0)))])) := hD
  refine lv_aload_n hx hb dX3_init_17 rfl (lv_at hl 0 rfl) ?_
  refine lv_iconst (v := 0) hx hb dX3_init_18 (by decide) ?_
  refine va_put (D := D) (ci := 3) (v := .int 0) (ty := .int) (C := RX3) (T := TX3) (N := 6) hx hb hts u_X3_init_X3 tyX3 tyX3_ok nmX3 hown hE.1.1 hP hD hS 0 rfl rfl 2 (by decide) (hts (.fieldLink RX3 19 "DecreasingDiagrams$LabelledSystem" "steps" "I") (List.mem_of_getElem? (i := 7) rfl)) (fun _ h9 => h9) rfl (by decide +kernel) rfl rfl (Nat.le_of_ble_eq_true rfl) dX3_init_19 (fun H locs hP hD hS => ?_)
  have hP : va_P D vwCl ((h, .inr (3, [.int 0, .ref q12, .int 0, .null, .null, .null])) :: (([] : va_W) ++ [(q12, .inl (G 0, 16, .inl (fun _ => 0)))])) H := hP
  have hD : va_D A ((h, .inr (3, [.int 0, .ref q12, .int 0, .null, .null, .null])) :: (([] : va_W) ++ [(q12, .inl (G 0, 16, .inl (fun _ => 0)))])) := hD
  refine lv_aload_n hx hb dX3_init_22 rfl (lv_at hl 0 rfl) ?_
  refine lv_bipush (v := 32) hx hb dX3_init_23 (by decide) ?_
  refine c_newa (n := 32) (N' := 32) (c2 := 2) (s2 := 48) hx hb (hts (.arrayClass .int) (List.mem_of_getElem? (i := 5) rfl)) hE hP hD hS hA (by decide) (by decide) (Nat.le_of_ble_eq_true rfl) (Nat.le_of_ble_eq_true rfl) (Nat.le_of_ble_eq_true rfl) rfl rfl dX3_init_25 (fun q25 H hP hD hS => ?_)
  have hP : va_P D vwCl ((h, .inr (3, [.int 0, .ref q12, .int 0, .null, .null, .null])) :: ((([] : va_W) ++ [(q12, .inl (G 0, 16, .inl (fun _ => 0)))]) ++ [(q25, .inl (G 0, 32, .inl (fun _ => 0)))])) H := hP
  have hD : va_D A ((h, .inr (3, [.int 0, .ref q12, .int 0, .null, .null, .null])) :: ((([] : va_W) ++ [(q12, .inl (G 0, 16, .inl (fun _ => 0)))]) ++ [(q25, .inl (G 0, 32, .inl (fun _ => 0)))])) := hD
  refine va_putF (D := D) (ci := 3) (v := .ref q25) (ty := .array .int) (C := RX3) (T := TX3) (N := 6) hx hb hts u_X3_init_X3 tyX3 tyX3_ok nmX3 hown hE.1.1 hP hD hS 0 rfl rfl 3 (by decide) (hts (.fieldLink RX3 22 "DecreasingDiagrams$LabelledSystem" "sources" "[I") (List.mem_of_getElem? (i := 8) rfl)) (fun _ h9 => h9) rfl hin rfl (by decide +kernel) rfl rfl (Nat.le_of_ble_eq_true rfl) dX3_init_27 (fun H locs hP hD hS => ?_)
  have hP : va_P D vwCl ((h, .inr (3, [.int 0, .ref q12, .int 0, .ref q25, .null, .null])) :: ((([] : va_W) ++ [(q12, .inl (G 0, 16, .inl (fun _ => 0)))]) ++ [(q25, .inl (G 0, 32, .inl (fun _ => 0)))])) H := hP
  have hD : va_D A ((h, .inr (3, [.int 0, .ref q12, .int 0, .ref q25, .null, .null])) :: ((([] : va_W) ++ [(q12, .inl (G 0, 16, .inl (fun _ => 0)))]) ++ [(q25, .inl (G 0, 32, .inl (fun _ => 0)))])) := hD
  refine lv_aload_n hx hb dX3_init_30 rfl (lv_at hl 0 rfl) ?_
  refine lv_bipush (v := 32) hx hb dX3_init_31 (by decide) ?_
  refine c_newa (n := 32) (N' := 32) (c2 := 3) (s2 := 80) hx hb (hts (.arrayClass .int) (List.mem_of_getElem? (i := 5) rfl)) hE hP hD hS hA (by decide) (by decide) (Nat.le_of_ble_eq_true rfl) (Nat.le_of_ble_eq_true rfl) (Nat.le_of_ble_eq_true rfl) rfl rfl dX3_init_33 (fun q33 H hP hD hS => ?_)
  have hP : va_P D vwCl ((h, .inr (3, [.int 0, .ref q12, .int 0, .ref q25, .null, .null])) :: (((([] : va_W) ++ [(q12, .inl (G 0, 16, .inl (fun _ => 0)))]) ++ [(q25, .inl (G 0, 32, .inl (fun _ => 0)))]) ++ [(q33, .inl (G 0, 32, .inl (fun _ => 0)))])) H := hP
  have hD : va_D A ((h, .inr (3, [.int 0, .ref q12, .int 0, .ref q25, .null, .null])) :: (((([] : va_W) ++ [(q12, .inl (G 0, 16, .inl (fun _ => 0)))]) ++ [(q25, .inl (G 0, 32, .inl (fun _ => 0)))]) ++ [(q33, .inl (G 0, 32, .inl (fun _ => 0)))])) := hD
  refine va_putF (D := D) (ci := 3) (v := .ref q33) (ty := .array .int) (C := RX3) (T := TX3) (N := 6) hx hb hts u_X3_init_X3 tyX3 tyX3_ok nmX3 hown hE.1.1 hP hD hS 0 rfl rfl 4 (by decide) (hts (.fieldLink RX3 25 "DecreasingDiagrams$LabelledSystem" "targets" "[I") (List.mem_of_getElem? (i := 9) rfl)) (fun _ h9 => h9) rfl hin rfl (by decide +kernel) rfl rfl (Nat.le_of_ble_eq_true rfl) dX3_init_35 (fun H locs hP hD hS => ?_)
  have hP : va_P D vwCl ((h, .inr (3, [.int 0, .ref q12, .int 0, .ref q25, .ref q33, .null])) :: (((([] : va_W) ++ [(q12, .inl (G 0, 16, .inl (fun _ => 0)))]) ++ [(q25, .inl (G 0, 32, .inl (fun _ => 0)))]) ++ [(q33, .inl (G 0, 32, .inl (fun _ => 0)))])) H := hP
  have hD : va_D A ((h, .inr (3, [.int 0, .ref q12, .int 0, .ref q25, .ref q33, .null])) :: (((([] : va_W) ++ [(q12, .inl (G 0, 16, .inl (fun _ => 0)))]) ++ [(q25, .inl (G 0, 32, .inl (fun _ => 0)))]) ++ [(q33, .inl (G 0, 32, .inl (fun _ => 0)))])) := hD
  refine lv_aload_n hx hb dX3_init_38 rfl (lv_at hl 0 rfl) ?_
  refine lv_bipush (v := 32) hx hb dX3_init_39 (by decide) ?_
  refine c_newa (n := 32) (N' := 32) (c2 := 4) (s2 := 112) hx hb (hts (.arrayClass .int) (List.mem_of_getElem? (i := 5) rfl)) hE hP hD hS hA (by decide) (by decide) (Nat.le_of_ble_eq_true rfl) (Nat.le_of_ble_eq_true rfl) (Nat.le_of_ble_eq_true rfl) rfl rfl dX3_init_41 (fun q41 H hP hD hS => ?_)
  have hP : va_P D vwCl ((h, .inr (3, [.int 0, .ref q12, .int 0, .ref q25, .ref q33, .null])) :: ((((([] : va_W) ++ [(q12, .inl (G 0, 16, .inl (fun _ => 0)))]) ++ [(q25, .inl (G 0, 32, .inl (fun _ => 0)))]) ++ [(q33, .inl (G 0, 32, .inl (fun _ => 0)))]) ++ [(q41, .inl (G 0, 32, .inl (fun _ => 0)))])) H := hP
  have hD : va_D A ((h, .inr (3, [.int 0, .ref q12, .int 0, .ref q25, .ref q33, .null])) :: ((((([] : va_W) ++ [(q12, .inl (G 0, 16, .inl (fun _ => 0)))]) ++ [(q25, .inl (G 0, 32, .inl (fun _ => 0)))]) ++ [(q33, .inl (G 0, 32, .inl (fun _ => 0)))]) ++ [(q41, .inl (G 0, 32, .inl (fun _ => 0)))])) := hD
  refine va_putF (D := D) (ci := 3) (v := .ref q41) (ty := .array .int) (C := RX3) (T := TX3) (N := 6) hx hb hts u_X3_init_X3 tyX3 tyX3_ok nmX3 hown hE.1.1 hP hD hS 0 rfl rfl 5 (by decide) (hts (.fieldLink RX3 28 "DecreasingDiagrams$LabelledSystem" "labels" "[I") (List.mem_of_getElem? (i := 10) rfl)) (fun _ h9 => h9) rfl hin rfl (by decide +kernel) rfl rfl (Nat.le_of_ble_eq_true rfl) dX3_init_43 (fun H locs hP hD hS => ?_)
  have hP : va_P D vwCl ((h, .inr (3, [.int 0, .ref q12, .int 0, .ref q25, .ref q33, .ref q41])) :: ((((([] : va_W) ++ [(q12, .inl (G 0, 16, .inl (fun _ => 0)))]) ++ [(q25, .inl (G 0, 32, .inl (fun _ => 0)))]) ++ [(q33, .inl (G 0, 32, .inl (fun _ => 0)))]) ++ [(q41, .inl (G 0, 32, .inl (fun _ => 0)))])) H := hP
  have hD : va_D A ((h, .inr (3, [.int 0, .ref q12, .int 0, .ref q25, .ref q33, .ref q41])) :: ((((([] : va_W) ++ [(q12, .inl (G 0, 16, .inl (fun _ => 0)))]) ++ [(q25, .inl (G 0, 32, .inl (fun _ => 0)))]) ++ [(q33, .inl (G 0, 32, .inl (fun _ => 0)))]) ++ [(q41, .inl (G 0, 32, .inl (fun _ => 0)))])) := hD
  exact c_ret hx hb hr hlocks hsz hAe hP hD hS ⟨vv 0 [q12, q25, q33, q41], rfl⟩ dX3_init_46
set_option maxRecDepth 20000 in
theorem u_X6_init_X6 : ∀ w ∈ wsX60, w ∈ wsX6_init := xx_pl _ [7, 8] (by decide +kernel)
set_option maxHeartbeats 4000000 in
set_option maxRecDepth 100000 in
theorem k_X6_init (l : Launch) (D : va_G) (G : Nat → ClassId) (h sz : Nat) : cMet l yX6_init wsX6_init { frames := 1, cells := 1, slots := 202, locals := 12 } D G h sz 6 [.int 0, .null] (pX6 G h) 1 202 := by
  refine c_ent (cc := cX6_init) (by decide) rfl rfl ?_
  intro p e s m below meth c A ls args Q H locs hsz hAe hQ hx hb hr hml hown hts hlocks hin hE hl hA hP hD hS
  have hl : lv_has ls 1 [(0, .ref h)] := hl
  rw [← hQ]
  refine lv_aload_n hx hb dX6_init_0 rfl (lv_at hl 0 rfl) ?_
  refine W.objInit hx hb hown (hts (.methodLink RX6 1 objectInit) (List.mem_of_getElem? (i := 1) rfl)) (hts (.instanceMethod objectInit) (List.mem_of_getElem? (i := 2) rfl)) (hts (.code objectInit ⟨#[0xb1]⟩ 1 none) (List.mem_of_getElem? (i := 3) rfl)) rfl (by rw [hml]; exact hl.1) rfl dX6_init_1 (Nat.le_of_ble_eq_true rfl) (Nat.le_of_ble_eq_true rfl) ?_
  refine W.eq (g2 := F0 m 4 ls []) rfl ?_
  have hP : va_P D vwCl ((h, .inr (6, [.int 0, .null])) :: ([] : va_W)) H := hP
  have hD : va_D A ((h, .inr (6, [.int 0, .null])) :: ([] : va_W)) := hD
  refine lv_aload_n hx hb dX6_init_4 rfl (lv_at hl 0 rfl) ?_
  refine lv_iconst (v := 0) hx hb dX6_init_5 (by decide) ?_
  refine va_put (D := D) (ci := 6) (v := .int 0) (ty := .int) (C := RX6) (T := TX6) (N := 2) hx hb hts u_X6_init_X6 tyX6 tyX6_ok nmX6 hown hE.1.1 hP hD hS 0 rfl rfl 0 (by decide) (hts (.fieldLink RX6 7 "DecreasingDiagrams$OutputText" "length" "I") (List.mem_of_getElem? (i := 4) rfl)) (fun _ h9 => h9) rfl (by decide +kernel) rfl rfl (Nat.le_of_ble_eq_true rfl) dX6_init_6 (fun H locs hP hD hS => ?_)
  have hP : va_P D vwCl ((h, .inr (6, [.int 0, .null])) :: ([] : va_W)) H := hP
  have hD : va_D A ((h, .inr (6, [.int 0, .null])) :: ([] : va_W)) := hD
  refine lv_aload_n hx hb dX6_init_9 rfl (lv_at hl 0 rfl) ?_
  refine lv_sipush (v := 202) hx hb dX6_init_10 (by decide) ?_
  refine c_newc (n := 202) (N' := 202) (c2 := 1) (s2 := 202) hx hb (hts (.arrayClass .char) (List.mem_of_getElem? (i := 5) rfl)) hE hP hD hS hA (by decide) (by decide) (Nat.le_of_ble_eq_true rfl) (Nat.le_of_ble_eq_true rfl) (Nat.le_of_ble_eq_true rfl) rfl rfl dX6_init_13 (fun q13 H hP hD hS => ?_)
  have hP : va_P D vwCl ((h, .inr (6, [.int 0, .null])) :: (([] : va_W) ++ [(q13, .inl (G 3, 202, .inl (fun _ => 0)))])) H := hP
  have hD : va_D A ((h, .inr (6, [.int 0, .null])) :: (([] : va_W) ++ [(q13, .inl (G 3, 202, .inl (fun _ => 0)))])) := hD
  refine va_putF (D := D) (ci := 6) (v := .ref q13) (ty := .array .char) (C := RX6) (T := TX6) (N := 2) hx hb hts u_X6_init_X6 tyX6 tyX6_ok nmX6 hown hE.1.1 hP hD hS 0 rfl rfl 1 (by decide) (hts (.fieldLink RX6 13 "DecreasingDiagrams$OutputText" "signs" "[C") (List.mem_of_getElem? (i := 6) rfl)) (fun _ h9 => h9) rfl hin rfl (by decide +kernel) rfl rfl (Nat.le_of_ble_eq_true rfl) dX6_init_15 (fun H locs hP hD hS => ?_)
  have hP : va_P D vwCl ((h, .inr (6, [.int 0, .ref q13])) :: (([] : va_W) ++ [(q13, .inl (G 3, 202, .inl (fun _ => 0)))])) H := hP
  have hD : va_D A ((h, .inr (6, [.int 0, .ref q13])) :: (([] : va_W) ++ [(q13, .inl (G 3, 202, .inl (fun _ => 0)))])) := hD
  exact c_ret hx hb hr hlocks hsz hAe hP hD hS ⟨vv 0 [q13], rfl⟩ dX6_init_18
set_option maxRecDepth 20000 in
theorem u_X7_init_X7 : ∀ w ∈ wsX70, w ∈ wsX7_init := xx_pl _ [8, 9, 10] (by decide +kernel)
set_option maxHeartbeats 4000000 in
set_option maxRecDepth 100000 in
theorem k_X7_init (l : Launch) (D : va_G) (G : Nat → ClassId) (h sz : Nat) : cMet l yX7_init wsX7_init { frames := 1, cells := 2, slots := 992, locals := 12 } D G h sz 7 [.int 0, .null, .null] (pX7 G h) 2 992 := by
  refine c_ent (cc := cX7_init) (by decide) rfl rfl ?_
  intro p e s m below meth c A ls args Q H locs hsz hAe hQ hx hb hr hml hown hts hlocks hin hE hl hA hP hD hS
  have hl : lv_has ls 1 [(0, .ref h)] := hl
  rw [← hQ]
  refine lv_aload_n hx hb dX7_init_0 rfl (lv_at hl 0 rfl) ?_
  refine W.objInit hx hb hown (hts (.methodLink RX7 3 objectInit) (List.mem_of_getElem? (i := 1) rfl)) (hts (.instanceMethod objectInit) (List.mem_of_getElem? (i := 2) rfl)) (hts (.code objectInit ⟨#[0xb1]⟩ 1 none) (List.mem_of_getElem? (i := 3) rfl)) rfl (by rw [hml]; exact hl.1) rfl dX7_init_1 (Nat.le_of_ble_eq_true rfl) (Nat.le_of_ble_eq_true rfl) ?_
  refine W.eq (g2 := F0 m 4 ls []) rfl ?_
  have hP : va_P D vwCl ((h, .inr (7, [.int 0, .null, .null])) :: ([] : va_W)) H := hP
  have hD : va_D A ((h, .inr (7, [.int 0, .null, .null])) :: ([] : va_W)) := hD
  refine lv_aload_n hx hb dX7_init_4 rfl (lv_at hl 0 rfl) ?_
  refine lv_iconst (v := 0) hx hb dX7_init_5 (by decide) ?_
  refine va_put (D := D) (ci := 7) (v := .int 0) (ty := .int) (C := RX7) (T := TX7) (N := 3) hx hb hts u_X7_init_X7 tyX7 tyX7_ok nmX7 hown hE.1.1 hP hD hS 0 rfl rfl 0 (by decide) (hts (.fieldLink RX7 9 "DecreasingDiagrams$Peaks" "count" "I") (List.mem_of_getElem? (i := 4) rfl)) (fun _ h9 => h9) rfl (by decide +kernel) rfl rfl (Nat.le_of_ble_eq_true rfl) dX7_init_6 (fun H locs hP hD hS => ?_)
  have hP : va_P D vwCl ((h, .inr (7, [.int 0, .null, .null])) :: ([] : va_W)) H := hP
  have hD : va_D A ((h, .inr (7, [.int 0, .null, .null])) :: ([] : va_W)) := hD
  refine lv_aload_n hx hb dX7_init_9 rfl (lv_at hl 0 rfl) ?_
  refine lv_sipush (v := 496) hx hb dX7_init_10 (by decide) ?_
  refine c_newa (n := 496) (N' := 496) (c2 := 1) (s2 := 496) hx hb (hts (.arrayClass .int) (List.mem_of_getElem? (i := 5) rfl)) hE hP hD hS hA (by decide) (by decide) (Nat.le_of_ble_eq_true rfl) (Nat.le_of_ble_eq_true rfl) (Nat.le_of_ble_eq_true rfl) rfl rfl dX7_init_13 (fun q13 H hP hD hS => ?_)
  have hP : va_P D vwCl ((h, .inr (7, [.int 0, .null, .null])) :: (([] : va_W) ++ [(q13, .inl (G 0, 496, .inl (fun _ => 0)))])) H := hP
  have hD : va_D A ((h, .inr (7, [.int 0, .null, .null])) :: (([] : va_W) ++ [(q13, .inl (G 0, 496, .inl (fun _ => 0)))])) := hD
  refine va_putF (D := D) (ci := 7) (v := .ref q13) (ty := .array .int) (C := RX7) (T := TX7) (N := 3) hx hb hts u_X7_init_X7 tyX7 tyX7_ok nmX7 hown hE.1.1 hP hD hS 0 rfl rfl 1 (by decide) (hts (.fieldLink RX7 15 "DecreasingDiagrams$Peaks" "firsts" "[I") (List.mem_of_getElem? (i := 6) rfl)) (fun _ h9 => h9) rfl hin rfl (by decide +kernel) rfl rfl (Nat.le_of_ble_eq_true rfl) dX7_init_15 (fun H locs hP hD hS => ?_)
  have hP : va_P D vwCl ((h, .inr (7, [.int 0, .ref q13, .null])) :: (([] : va_W) ++ [(q13, .inl (G 0, 496, .inl (fun _ => 0)))])) H := hP
  have hD : va_D A ((h, .inr (7, [.int 0, .ref q13, .null])) :: (([] : va_W) ++ [(q13, .inl (G 0, 496, .inl (fun _ => 0)))])) := hD
  refine lv_aload_n hx hb dX7_init_18 rfl (lv_at hl 0 rfl) ?_
  refine lv_sipush (v := 496) hx hb dX7_init_19 (by decide) ?_
  refine c_newa (n := 496) (N' := 496) (c2 := 2) (s2 := 992) hx hb (hts (.arrayClass .int) (List.mem_of_getElem? (i := 5) rfl)) hE hP hD hS hA (by decide) (by decide) (Nat.le_of_ble_eq_true rfl) (Nat.le_of_ble_eq_true rfl) (Nat.le_of_ble_eq_true rfl) rfl rfl dX7_init_22 (fun q22 H hP hD hS => ?_)
  have hP : va_P D vwCl ((h, .inr (7, [.int 0, .ref q13, .null])) :: ((([] : va_W) ++ [(q13, .inl (G 0, 496, .inl (fun _ => 0)))]) ++ [(q22, .inl (G 0, 496, .inl (fun _ => 0)))])) H := hP
  have hD : va_D A ((h, .inr (7, [.int 0, .ref q13, .null])) :: ((([] : va_W) ++ [(q13, .inl (G 0, 496, .inl (fun _ => 0)))]) ++ [(q22, .inl (G 0, 496, .inl (fun _ => 0)))])) := hD
  refine va_putF (D := D) (ci := 7) (v := .ref q22) (ty := .array .int) (C := RX7) (T := TX7) (N := 3) hx hb hts u_X7_init_X7 tyX7 tyX7_ok nmX7 hown hE.1.1 hP hD hS 0 rfl rfl 2 (by decide) (hts (.fieldLink RX7 19 "DecreasingDiagrams$Peaks" "seconds" "[I") (List.mem_of_getElem? (i := 7) rfl)) (fun _ h9 => h9) rfl hin rfl (by decide +kernel) rfl rfl (Nat.le_of_ble_eq_true rfl) dX7_init_24 (fun H locs hP hD hS => ?_)
  have hP : va_P D vwCl ((h, .inr (7, [.int 0, .ref q13, .ref q22])) :: ((([] : va_W) ++ [(q13, .inl (G 0, 496, .inl (fun _ => 0)))]) ++ [(q22, .inl (G 0, 496, .inl (fun _ => 0)))])) H := hP
  have hD : va_D A ((h, .inr (7, [.int 0, .ref q13, .ref q22])) :: ((([] : va_W) ++ [(q13, .inl (G 0, 496, .inl (fun _ => 0)))]) ++ [(q22, .inl (G 0, 496, .inl (fun _ => 0)))])) := hD
  exact c_ret hx hb hr hlocks hsz hAe hP hD hS ⟨vv 0 [q13, q22], rfl⟩ dX7_init_27
set_option maxRecDepth 20000 in
theorem u_X8_init_X8 : ∀ w ∈ wsX80, w ∈ wsX8_init := xx_pl _ [8, 9, 10] (by decide +kernel)
set_option maxHeartbeats 4000000 in
set_option maxRecDepth 100000 in
theorem k_X8_init (l : Launch) (D : va_G) (G : Nat → ClassId) (h sz : Nat) : cMet l yX8_init wsX8_init { frames := 1, cells := 2, slots := 12, locals := 12 } D G h sz 8 [.int 0, .null, .null] (pX8 G h) 2 12 := by
  refine c_ent (cc := cX8_init) (by decide) rfl rfl ?_
  intro p e s m below meth c A ls args Q H locs hsz hAe hQ hx hb hr hml hown hts hlocks hin hE hl hA hP hD hS
  have hl : lv_has ls 1 [(0, .ref h)] := hl
  rw [← hQ]
  refine lv_aload_n hx hb dX8_init_0 rfl (lv_at hl 0 rfl) ?_
  refine W.objInit hx hb hown (hts (.methodLink RX8 3 objectInit) (List.mem_of_getElem? (i := 1) rfl)) (hts (.instanceMethod objectInit) (List.mem_of_getElem? (i := 2) rfl)) (hts (.code objectInit ⟨#[0xb1]⟩ 1 none) (List.mem_of_getElem? (i := 3) rfl)) rfl (by rw [hml]; exact hl.1) rfl dX8_init_1 (Nat.le_of_ble_eq_true rfl) (Nat.le_of_ble_eq_true rfl) ?_
  refine W.eq (g2 := F0 m 4 ls []) rfl ?_
  have hP : va_P D vwCl ((h, .inr (8, [.int 0, .null, .null])) :: ([] : va_W)) H := hP
  have hD : va_D A ((h, .inr (8, [.int 0, .null, .null])) :: ([] : va_W)) := hD
  refine lv_aload_n hx hb dX8_init_4 rfl (lv_at hl 0 rfl) ?_
  refine lv_iconst (v := 0) hx hb dX8_init_5 (by decide) ?_
  refine va_put (D := D) (ci := 8) (v := .int 0) (ty := .int) (C := RX8) (T := TX8) (N := 3) hx hb hts u_X8_init_X8 tyX8 tyX8_ok nmX8 hown hE.1.1 hP hD hS 0 rfl rfl 0 (by decide) (hts (.fieldLink RX8 9 "DecreasingDiagrams$RuleSet" "count" "I") (List.mem_of_getElem? (i := 4) rfl)) (fun _ h9 => h9) rfl (by decide +kernel) rfl rfl (Nat.le_of_ble_eq_true rfl) dX8_init_6 (fun H locs hP hD hS => ?_)
  have hP : va_P D vwCl ((h, .inr (8, [.int 0, .null, .null])) :: ([] : va_W)) H := hP
  have hD : va_D A ((h, .inr (8, [.int 0, .null, .null])) :: ([] : va_W)) := hD
  refine lv_aload_n hx hb dX8_init_9 rfl (lv_at hl 0 rfl) ?_
  refine lv_bipush (v := 6) hx hb dX8_init_10 (by decide) ?_
  refine c_newa (n := 6) (N' := 6) (c2 := 1) (s2 := 6) hx hb (hts (.arrayClass .int) (List.mem_of_getElem? (i := 5) rfl)) hE hP hD hS hA (by decide) (by decide) (Nat.le_of_ble_eq_true rfl) (Nat.le_of_ble_eq_true rfl) (Nat.le_of_ble_eq_true rfl) rfl rfl dX8_init_12 (fun q12 H hP hD hS => ?_)
  have hP : va_P D vwCl ((h, .inr (8, [.int 0, .null, .null])) :: (([] : va_W) ++ [(q12, .inl (G 0, 6, .inl (fun _ => 0)))])) H := hP
  have hD : va_D A ((h, .inr (8, [.int 0, .null, .null])) :: (([] : va_W) ++ [(q12, .inl (G 0, 6, .inl (fun _ => 0)))])) := hD
  refine va_putF (D := D) (ci := 8) (v := .ref q12) (ty := .array .int) (C := RX8) (T := TX8) (N := 3) hx hb hts u_X8_init_X8 tyX8 tyX8_ok nmX8 hown hE.1.1 hP hD hS 0 rfl rfl 1 (by decide) (hts (.fieldLink RX8 15 "DecreasingDiagrams$RuleSet" "lefts" "[I") (List.mem_of_getElem? (i := 6) rfl)) (fun _ h9 => h9) rfl hin rfl (by decide +kernel) rfl rfl (Nat.le_of_ble_eq_true rfl) dX8_init_14 (fun H locs hP hD hS => ?_)
  have hP : va_P D vwCl ((h, .inr (8, [.int 0, .ref q12, .null])) :: (([] : va_W) ++ [(q12, .inl (G 0, 6, .inl (fun _ => 0)))])) H := hP
  have hD : va_D A ((h, .inr (8, [.int 0, .ref q12, .null])) :: (([] : va_W) ++ [(q12, .inl (G 0, 6, .inl (fun _ => 0)))])) := hD
  refine lv_aload_n hx hb dX8_init_17 rfl (lv_at hl 0 rfl) ?_
  refine lv_bipush (v := 6) hx hb dX8_init_18 (by decide) ?_
  refine c_newa (n := 6) (N' := 6) (c2 := 2) (s2 := 12) hx hb (hts (.arrayClass .int) (List.mem_of_getElem? (i := 5) rfl)) hE hP hD hS hA (by decide) (by decide) (Nat.le_of_ble_eq_true rfl) (Nat.le_of_ble_eq_true rfl) (Nat.le_of_ble_eq_true rfl) rfl rfl dX8_init_20 (fun q20 H hP hD hS => ?_)
  have hP : va_P D vwCl ((h, .inr (8, [.int 0, .ref q12, .null])) :: ((([] : va_W) ++ [(q12, .inl (G 0, 6, .inl (fun _ => 0)))]) ++ [(q20, .inl (G 0, 6, .inl (fun _ => 0)))])) H := hP
  have hD : va_D A ((h, .inr (8, [.int 0, .ref q12, .null])) :: ((([] : va_W) ++ [(q12, .inl (G 0, 6, .inl (fun _ => 0)))]) ++ [(q20, .inl (G 0, 6, .inl (fun _ => 0)))])) := hD
  refine va_putF (D := D) (ci := 8) (v := .ref q20) (ty := .array .int) (C := RX8) (T := TX8) (N := 3) hx hb hts u_X8_init_X8 tyX8 tyX8_ok nmX8 hown hE.1.1 hP hD hS 0 rfl rfl 2 (by decide) (hts (.fieldLink RX8 19 "DecreasingDiagrams$RuleSet" "rights" "[I") (List.mem_of_getElem? (i := 7) rfl)) (fun _ h9 => h9) rfl hin rfl (by decide +kernel) rfl rfl (Nat.le_of_ble_eq_true rfl) dX8_init_22 (fun H locs hP hD hS => ?_)
  have hP : va_P D vwCl ((h, .inr (8, [.int 0, .ref q12, .ref q20])) :: ((([] : va_W) ++ [(q12, .inl (G 0, 6, .inl (fun _ => 0)))]) ++ [(q20, .inl (G 0, 6, .inl (fun _ => 0)))])) H := hP
  have hD : va_D A ((h, .inr (8, [.int 0, .ref q12, .ref q20])) :: ((([] : va_W) ++ [(q12, .inl (G 0, 6, .inl (fun _ => 0)))]) ++ [(q20, .inl (G 0, 6, .inl (fun _ => 0)))])) := hD
  exact c_ret hx hb hr hlocks hsz hAe hP hD hS ⟨vv 0 [q12, q20], rfl⟩ dX8_init_25
set_option maxRecDepth 20000 in
theorem u_X9_init_X9 : ∀ w ∈ wsX90, w ∈ wsX9_init := xx_pl _ [15, 16, 17, 18, 19, 20, 21, 22, 23, 24] (by decide +kernel)
set_option maxHeartbeats 4000000 in
set_option maxRecDepth 100000 in
theorem k_X9_init (l : Launch) (D : va_G) (G : Nat → ClassId) (h sz : Nat) : cMet l yX9_init wsX9_init { frames := 1, cells := 6, slots := 176, locals := 12 } D G h sz 9 [.int 0, .int 0, .int 0, .int 0, .null, .null, .null, .null, .null, .null] (pX9 G h) 6 176 := by
  refine c_ent (cc := cX9_init) (by decide) rfl rfl ?_
  intro p e s m below meth c A ls args Q H locs hsz hAe hQ hx hb hr hml hown hts hlocks hin hE hl hA hP hD hS
  have hl : lv_has ls 1 [(0, .ref h)] := hl
  rw [← hQ]
  refine lv_aload_n hx hb dX9_init_0 rfl (lv_at hl 0 rfl) ?_
  refine W.objInit hx hb hown (hts (.methodLink RX9 3 objectInit) (List.mem_of_getElem? (i := 1) rfl)) (hts (.instanceMethod objectInit) (List.mem_of_getElem? (i := 2) rfl)) (hts (.code objectInit ⟨#[0xb1]⟩ 1 none) (List.mem_of_getElem? (i := 3) rfl)) rfl (by rw [hml]; exact hl.1) rfl dX9_init_1 (Nat.le_of_ble_eq_true rfl) (Nat.le_of_ble_eq_true rfl) ?_
  refine W.eq (g2 := F0 m 4 ls []) rfl ?_
  have hP : va_P D vwCl ((h, .inr (9, [.int 0, .int 0, .int 0, .int 0, .null, .null, .null, .null, .null, .null])) :: ([] : va_W)) H := hP
  have hD : va_D A ((h, .inr (9, [.int 0, .int 0, .int 0, .int 0, .null, .null, .null, .null, .null, .null])) :: ([] : va_W)) := hD
  refine lv_aload_n hx hb dX9_init_4 rfl (lv_at hl 0 rfl) ?_
  refine lv_iconst (v := 0) hx hb dX9_init_5 (by decide) ?_
  refine va_put (D := D) (ci := 9) (v := .int 0) (ty := .int) (C := RX9) (T := TX9) (N := 10) hx hb hts u_X9_init_X9 tyX9 tyX9_ok nmX9 hown hE.1.1 hP hD hS 0 rfl rfl 0 (by decide) (hts (.fieldLink RX9 9 "DecreasingDiagrams$SidePaths" "belowOwn" "I") (List.mem_of_getElem? (i := 4) rfl)) (fun _ h9 => h9) rfl (by decide +kernel) rfl rfl (Nat.le_of_ble_eq_true rfl) dX9_init_6 (fun H locs hP hD hS => ?_)
  have hP : va_P D vwCl ((h, .inr (9, [.int 0, .int 0, .int 0, .int 0, .null, .null, .null, .null, .null, .null])) :: ([] : va_W)) H := hP
  have hD : va_D A ((h, .inr (9, [.int 0, .int 0, .int 0, .int 0, .null, .null, .null, .null, .null, .null])) :: ([] : va_W)) := hD
  refine lv_aload_n hx hb dX9_init_9 rfl (lv_at hl 0 rfl) ?_
  refine lv_iconst (v := 0) hx hb dX9_init_10 (by decide) ?_
  refine va_put (D := D) (ci := 9) (v := .int 0) (ty := .int) (C := RX9) (T := TX9) (N := 10) hx hb hts u_X9_init_X9 tyX9 tyX9_ok nmX9 hown hE.1.1 hP hD hS 0 rfl rfl 1 (by decide) (hts (.fieldLink RX9 15 "DecreasingDiagrams$SidePaths" "belowEither" "I") (List.mem_of_getElem? (i := 5) rfl)) (fun _ h9 => h9) rfl (by decide +kernel) rfl rfl (Nat.le_of_ble_eq_true rfl) dX9_init_11 (fun H locs hP hD hS => ?_)
  have hP : va_P D vwCl ((h, .inr (9, [.int 0, .int 0, .int 0, .int 0, .null, .null, .null, .null, .null, .null])) :: ([] : va_W)) H := hP
  have hD : va_D A ((h, .inr (9, [.int 0, .int 0, .int 0, .int 0, .null, .null, .null, .null, .null, .null])) :: ([] : va_W)) := hD
  refine lv_aload_n hx hb dX9_init_14 rfl (lv_at hl 0 rfl) ?_
  refine lv_iconst (v := 0) hx hb dX9_init_15 (by decide) ?_
  refine va_put (D := D) (ci := 9) (v := .int 0) (ty := .int) (C := RX9) (T := TX9) (N := 10) hx hb hts u_X9_init_X9 tyX9 tyX9_ok nmX9 hown hE.1.1 hP hD hS 0 rfl rfl 2 (by decide) (hts (.fieldLink RX9 18 "DecreasingDiagrams$SidePaths" "other" "I") (List.mem_of_getElem? (i := 6) rfl)) (fun _ h9 => h9) rfl (by decide +kernel) rfl rfl (Nat.le_of_ble_eq_true rfl) dX9_init_16 (fun H locs hP hD hS => ?_)
  have hP : va_P D vwCl ((h, .inr (9, [.int 0, .int 0, .int 0, .int 0, .null, .null, .null, .null, .null, .null])) :: ([] : va_W)) H := hP
  have hD : va_D A ((h, .inr (9, [.int 0, .int 0, .int 0, .int 0, .null, .null, .null, .null, .null, .null])) :: ([] : va_W)) := hD
  refine lv_aload_n hx hb dX9_init_19 rfl (lv_at hl 0 rfl) ?_
  refine lv_iconst (v := 0) hx hb dX9_init_20 (by decide) ?_
  refine va_put (D := D) (ci := 9) (v := .int 0) (ty := .int) (C := RX9) (T := TX9) (N := 10) hx hb hts u_X9_init_X9 tyX9 tyX9_ok nmX9 hown hE.1.1 hP hD hS 0 rfl rfl 3 (by decide) (hts (.fieldLink RX9 21 "DecreasingDiagrams$SidePaths" "places" "I") (List.mem_of_getElem? (i := 7) rfl)) (fun _ h9 => h9) rfl (by decide +kernel) rfl rfl (Nat.le_of_ble_eq_true rfl) dX9_init_21 (fun H locs hP hD hS => ?_)
  have hP : va_P D vwCl ((h, .inr (9, [.int 0, .int 0, .int 0, .int 0, .null, .null, .null, .null, .null, .null])) :: ([] : va_W)) H := hP
  have hD : va_D A ((h, .inr (9, [.int 0, .int 0, .int 0, .int 0, .null, .null, .null, .null, .null, .null])) :: ([] : va_W)) := hD
  refine lv_aload_n hx hb dX9_init_24 rfl (lv_at hl 0 rfl) ?_
  refine lv_bipush (v := 32) hx hb dX9_init_25 (by decide) ?_
  refine c_newa (n := 32) (N' := 32) (c2 := 1) (s2 := 32) hx hb (hts (.arrayClass .int) (List.mem_of_getElem? (i := 8) rfl)) hE hP hD hS hA (by decide) (by decide) (Nat.le_of_ble_eq_true rfl) (Nat.le_of_ble_eq_true rfl) (Nat.le_of_ble_eq_true rfl) rfl rfl dX9_init_27 (fun q27 H hP hD hS => ?_)
  have hP : va_P D vwCl ((h, .inr (9, [.int 0, .int 0, .int 0, .int 0, .null, .null, .null, .null, .null, .null])) :: (([] : va_W) ++ [(q27, .inl (G 0, 32, .inl (fun _ => 0)))])) H := hP
  have hD : va_D A ((h, .inr (9, [.int 0, .int 0, .int 0, .int 0, .null, .null, .null, .null, .null, .null])) :: (([] : va_W) ++ [(q27, .inl (G 0, 32, .inl (fun _ => 0)))])) := hD
  refine va_putF (D := D) (ci := 9) (v := .ref q27) (ty := .array .int) (C := RX9) (T := TX9) (N := 10) hx hb hts u_X9_init_X9 tyX9 tyX9_ok nmX9 hown hE.1.1 hP hD hS 0 rfl rfl 4 (by decide) (hts (.fieldLink RX9 24 "DecreasingDiagrams$SidePaths" "objects" "[I") (List.mem_of_getElem? (i := 9) rfl)) (fun _ h9 => h9) rfl hin rfl (by decide +kernel) rfl rfl (Nat.le_of_ble_eq_true rfl) dX9_init_29 (fun H locs hP hD hS => ?_)
  have hP : va_P D vwCl ((h, .inr (9, [.int 0, .int 0, .int 0, .int 0, .ref q27, .null, .null, .null, .null, .null])) :: (([] : va_W) ++ [(q27, .inl (G 0, 32, .inl (fun _ => 0)))])) H := hP
  have hD : va_D A ((h, .inr (9, [.int 0, .int 0, .int 0, .int 0, .ref q27, .null, .null, .null, .null, .null])) :: (([] : va_W) ++ [(q27, .inl (G 0, 32, .inl (fun _ => 0)))])) := hD
  refine lv_aload_n hx hb dX9_init_32 rfl (lv_at hl 0 rfl) ?_
  refine lv_bipush (v := 32) hx hb dX9_init_33 (by decide) ?_
  refine c_newa (n := 32) (N' := 32) (c2 := 2) (s2 := 64) hx hb (hts (.arrayClass .int) (List.mem_of_getElem? (i := 8) rfl)) hE hP hD hS hA (by decide) (by decide) (Nat.le_of_ble_eq_true rfl) (Nat.le_of_ble_eq_true rfl) (Nat.le_of_ble_eq_true rfl) rfl rfl dX9_init_35 (fun q35 H hP hD hS => ?_)
  have hP : va_P D vwCl ((h, .inr (9, [.int 0, .int 0, .int 0, .int 0, .ref q27, .null, .null, .null, .null, .null])) :: ((([] : va_W) ++ [(q27, .inl (G 0, 32, .inl (fun _ => 0)))]) ++ [(q35, .inl (G 0, 32, .inl (fun _ => 0)))])) H := hP
  have hD : va_D A ((h, .inr (9, [.int 0, .int 0, .int 0, .int 0, .ref q27, .null, .null, .null, .null, .null])) :: ((([] : va_W) ++ [(q27, .inl (G 0, 32, .inl (fun _ => 0)))]) ++ [(q35, .inl (G 0, 32, .inl (fun _ => 0)))])) := hD
  refine va_putF (D := D) (ci := 9) (v := .ref q35) (ty := .array .int) (C := RX9) (T := TX9) (N := 10) hx hb hts u_X9_init_X9 tyX9 tyX9_ok nmX9 hown hE.1.1 hP hD hS 0 rfl rfl 5 (by decide) (hts (.fieldLink RX9 28 "DecreasingDiagrams$SidePaths" "parts" "[I") (List.mem_of_getElem? (i := 10) rfl)) (fun _ h9 => h9) rfl hin rfl (by decide +kernel) rfl rfl (Nat.le_of_ble_eq_true rfl) dX9_init_37 (fun H locs hP hD hS => ?_)
  have hP : va_P D vwCl ((h, .inr (9, [.int 0, .int 0, .int 0, .int 0, .ref q27, .ref q35, .null, .null, .null, .null])) :: ((([] : va_W) ++ [(q27, .inl (G 0, 32, .inl (fun _ => 0)))]) ++ [(q35, .inl (G 0, 32, .inl (fun _ => 0)))])) H := hP
  have hD : va_D A ((h, .inr (9, [.int 0, .int 0, .int 0, .int 0, .ref q27, .ref q35, .null, .null, .null, .null])) :: ((([] : va_W) ++ [(q27, .inl (G 0, 32, .inl (fun _ => 0)))]) ++ [(q35, .inl (G 0, 32, .inl (fun _ => 0)))])) := hD
  refine lv_aload_n hx hb dX9_init_40 rfl (lv_at hl 0 rfl) ?_
  refine lv_bipush (v := 32) hx hb dX9_init_41 (by decide) ?_
  refine c_newa (n := 32) (N' := 32) (c2 := 3) (s2 := 96) hx hb (hts (.arrayClass .int) (List.mem_of_getElem? (i := 8) rfl)) hE hP hD hS hA (by decide) (by decide) (Nat.le_of_ble_eq_true rfl) (Nat.le_of_ble_eq_true rfl) (Nat.le_of_ble_eq_true rfl) rfl rfl dX9_init_43 (fun q43 H hP hD hS => ?_)
  have hP : va_P D vwCl ((h, .inr (9, [.int 0, .int 0, .int 0, .int 0, .ref q27, .ref q35, .null, .null, .null, .null])) :: (((([] : va_W) ++ [(q27, .inl (G 0, 32, .inl (fun _ => 0)))]) ++ [(q35, .inl (G 0, 32, .inl (fun _ => 0)))]) ++ [(q43, .inl (G 0, 32, .inl (fun _ => 0)))])) H := hP
  have hD : va_D A ((h, .inr (9, [.int 0, .int 0, .int 0, .int 0, .ref q27, .ref q35, .null, .null, .null, .null])) :: (((([] : va_W) ++ [(q27, .inl (G 0, 32, .inl (fun _ => 0)))]) ++ [(q35, .inl (G 0, 32, .inl (fun _ => 0)))]) ++ [(q43, .inl (G 0, 32, .inl (fun _ => 0)))])) := hD
  refine va_putF (D := D) (ci := 9) (v := .ref q43) (ty := .array .int) (C := RX9) (T := TX9) (N := 10) hx hb hts u_X9_init_X9 tyX9 tyX9_ok nmX9 hown hE.1.1 hP hD hS 0 rfl rfl 6 (by decide) (hts (.fieldLink RX9 31 "DecreasingDiagrams$SidePaths" "lengths" "[I") (List.mem_of_getElem? (i := 11) rfl)) (fun _ h9 => h9) rfl hin rfl (by decide +kernel) rfl rfl (Nat.le_of_ble_eq_true rfl) dX9_init_45 (fun H locs hP hD hS => ?_)
  have hP : va_P D vwCl ((h, .inr (9, [.int 0, .int 0, .int 0, .int 0, .ref q27, .ref q35, .ref q43, .null, .null, .null])) :: (((([] : va_W) ++ [(q27, .inl (G 0, 32, .inl (fun _ => 0)))]) ++ [(q35, .inl (G 0, 32, .inl (fun _ => 0)))]) ++ [(q43, .inl (G 0, 32, .inl (fun _ => 0)))])) H := hP
  have hD : va_D A ((h, .inr (9, [.int 0, .int 0, .int 0, .int 0, .ref q27, .ref q35, .ref q43, .null, .null, .null])) :: (((([] : va_W) ++ [(q27, .inl (G 0, 32, .inl (fun _ => 0)))]) ++ [(q35, .inl (G 0, 32, .inl (fun _ => 0)))]) ++ [(q43, .inl (G 0, 32, .inl (fun _ => 0)))])) := hD
  refine lv_aload_n hx hb dX9_init_48 rfl (lv_at hl 0 rfl) ?_
  refine lv_bipush (v := 32) hx hb dX9_init_49 (by decide) ?_
  refine c_newa (n := 32) (N' := 32) (c2 := 4) (s2 := 128) hx hb (hts (.arrayClass .int) (List.mem_of_getElem? (i := 8) rfl)) hE hP hD hS hA (by decide) (by decide) (Nat.le_of_ble_eq_true rfl) (Nat.le_of_ble_eq_true rfl) (Nat.le_of_ble_eq_true rfl) rfl rfl dX9_init_51 (fun q51 H hP hD hS => ?_)
  have hP : va_P D vwCl ((h, .inr (9, [.int 0, .int 0, .int 0, .int 0, .ref q27, .ref q35, .ref q43, .null, .null, .null])) :: ((((([] : va_W) ++ [(q27, .inl (G 0, 32, .inl (fun _ => 0)))]) ++ [(q35, .inl (G 0, 32, .inl (fun _ => 0)))]) ++ [(q43, .inl (G 0, 32, .inl (fun _ => 0)))]) ++ [(q51, .inl (G 0, 32, .inl (fun _ => 0)))])) H := hP
  have hD : va_D A ((h, .inr (9, [.int 0, .int 0, .int 0, .int 0, .ref q27, .ref q35, .ref q43, .null, .null, .null])) :: ((((([] : va_W) ++ [(q27, .inl (G 0, 32, .inl (fun _ => 0)))]) ++ [(q35, .inl (G 0, 32, .inl (fun _ => 0)))]) ++ [(q43, .inl (G 0, 32, .inl (fun _ => 0)))]) ++ [(q51, .inl (G 0, 32, .inl (fun _ => 0)))])) := hD
  refine va_putF (D := D) (ci := 9) (v := .ref q51) (ty := .array .int) (C := RX9) (T := TX9) (N := 10) hx hb hts u_X9_init_X9 tyX9 tyX9_ok nmX9 hown hE.1.1 hP hD hS 0 rfl rfl 7 (by decide) (hts (.fieldLink RX9 34 "DecreasingDiagrams$SidePaths" "previous" "[I") (List.mem_of_getElem? (i := 12) rfl)) (fun _ h9 => h9) rfl hin rfl (by decide +kernel) rfl rfl (Nat.le_of_ble_eq_true rfl) dX9_init_53 (fun H locs hP hD hS => ?_)
  have hP : va_P D vwCl ((h, .inr (9, [.int 0, .int 0, .int 0, .int 0, .ref q27, .ref q35, .ref q43, .ref q51, .null, .null])) :: ((((([] : va_W) ++ [(q27, .inl (G 0, 32, .inl (fun _ => 0)))]) ++ [(q35, .inl (G 0, 32, .inl (fun _ => 0)))]) ++ [(q43, .inl (G 0, 32, .inl (fun _ => 0)))]) ++ [(q51, .inl (G 0, 32, .inl (fun _ => 0)))])) H := hP
  have hD : va_D A ((h, .inr (9, [.int 0, .int 0, .int 0, .int 0, .ref q27, .ref q35, .ref q43, .ref q51, .null, .null])) :: ((((([] : va_W) ++ [(q27, .inl (G 0, 32, .inl (fun _ => 0)))]) ++ [(q35, .inl (G 0, 32, .inl (fun _ => 0)))]) ++ [(q43, .inl (G 0, 32, .inl (fun _ => 0)))]) ++ [(q51, .inl (G 0, 32, .inl (fun _ => 0)))])) := hD
  refine lv_aload_n hx hb dX9_init_56 rfl (lv_at hl 0 rfl) ?_
  refine lv_bipush (v := 32) hx hb dX9_init_57 (by decide) ?_
  refine c_newa (n := 32) (N' := 32) (c2 := 5) (s2 := 160) hx hb (hts (.arrayClass .int) (List.mem_of_getElem? (i := 8) rfl)) hE hP hD hS hA (by decide) (by decide) (Nat.le_of_ble_eq_true rfl) (Nat.le_of_ble_eq_true rfl) (Nat.le_of_ble_eq_true rfl) rfl rfl dX9_init_59 (fun q59 H hP hD hS => ?_)
  have hP : va_P D vwCl ((h, .inr (9, [.int 0, .int 0, .int 0, .int 0, .ref q27, .ref q35, .ref q43, .ref q51, .null, .null])) :: (((((([] : va_W) ++ [(q27, .inl (G 0, 32, .inl (fun _ => 0)))]) ++ [(q35, .inl (G 0, 32, .inl (fun _ => 0)))]) ++ [(q43, .inl (G 0, 32, .inl (fun _ => 0)))]) ++ [(q51, .inl (G 0, 32, .inl (fun _ => 0)))]) ++ [(q59, .inl (G 0, 32, .inl (fun _ => 0)))])) H := hP
  have hD : va_D A ((h, .inr (9, [.int 0, .int 0, .int 0, .int 0, .ref q27, .ref q35, .ref q43, .ref q51, .null, .null])) :: (((((([] : va_W) ++ [(q27, .inl (G 0, 32, .inl (fun _ => 0)))]) ++ [(q35, .inl (G 0, 32, .inl (fun _ => 0)))]) ++ [(q43, .inl (G 0, 32, .inl (fun _ => 0)))]) ++ [(q51, .inl (G 0, 32, .inl (fun _ => 0)))]) ++ [(q59, .inl (G 0, 32, .inl (fun _ => 0)))])) := hD
  refine va_putF (D := D) (ci := 9) (v := .ref q59) (ty := .array .int) (C := RX9) (T := TX9) (N := 10) hx hb hts u_X9_init_X9 tyX9 tyX9_ok nmX9 hown hE.1.1 hP hD hS 0 rfl rfl 8 (by decide) (hts (.fieldLink RX9 37 "DecreasingDiagrams$SidePaths" "arrivals" "[I") (List.mem_of_getElem? (i := 13) rfl)) (fun _ h9 => h9) rfl hin rfl (by decide +kernel) rfl rfl (Nat.le_of_ble_eq_true rfl) dX9_init_61 (fun H locs hP hD hS => ?_)
  have hP : va_P D vwCl ((h, .inr (9, [.int 0, .int 0, .int 0, .int 0, .ref q27, .ref q35, .ref q43, .ref q51, .ref q59, .null])) :: (((((([] : va_W) ++ [(q27, .inl (G 0, 32, .inl (fun _ => 0)))]) ++ [(q35, .inl (G 0, 32, .inl (fun _ => 0)))]) ++ [(q43, .inl (G 0, 32, .inl (fun _ => 0)))]) ++ [(q51, .inl (G 0, 32, .inl (fun _ => 0)))]) ++ [(q59, .inl (G 0, 32, .inl (fun _ => 0)))])) H := hP
  have hD : va_D A ((h, .inr (9, [.int 0, .int 0, .int 0, .int 0, .ref q27, .ref q35, .ref q43, .ref q51, .ref q59, .null])) :: (((((([] : va_W) ++ [(q27, .inl (G 0, 32, .inl (fun _ => 0)))]) ++ [(q35, .inl (G 0, 32, .inl (fun _ => 0)))]) ++ [(q43, .inl (G 0, 32, .inl (fun _ => 0)))]) ++ [(q51, .inl (G 0, 32, .inl (fun _ => 0)))]) ++ [(q59, .inl (G 0, 32, .inl (fun _ => 0)))])) := hD
  refine lv_aload_n hx hb dX9_init_64 rfl (lv_at hl 0 rfl) ?_
  refine lv_bipush (v := 16) hx hb dX9_init_65 (by decide) ?_
  refine c_newa (n := 16) (N' := 16) (c2 := 6) (s2 := 176) hx hb (hts (.arrayClass .int) (List.mem_of_getElem? (i := 8) rfl)) hE hP hD hS hA (by decide) (by decide) (Nat.le_of_ble_eq_true rfl) (Nat.le_of_ble_eq_true rfl) (Nat.le_of_ble_eq_true rfl) rfl rfl dX9_init_67 (fun q67 H hP hD hS => ?_)
  have hP : va_P D vwCl ((h, .inr (9, [.int 0, .int 0, .int 0, .int 0, .ref q27, .ref q35, .ref q43, .ref q51, .ref q59, .null])) :: ((((((([] : va_W) ++ [(q27, .inl (G 0, 32, .inl (fun _ => 0)))]) ++ [(q35, .inl (G 0, 32, .inl (fun _ => 0)))]) ++ [(q43, .inl (G 0, 32, .inl (fun _ => 0)))]) ++ [(q51, .inl (G 0, 32, .inl (fun _ => 0)))]) ++ [(q59, .inl (G 0, 32, .inl (fun _ => 0)))]) ++ [(q67, .inl (G 0, 16, .inl (fun _ => 0)))])) H := hP
  have hD : va_D A ((h, .inr (9, [.int 0, .int 0, .int 0, .int 0, .ref q27, .ref q35, .ref q43, .ref q51, .ref q59, .null])) :: ((((((([] : va_W) ++ [(q27, .inl (G 0, 32, .inl (fun _ => 0)))]) ++ [(q35, .inl (G 0, 32, .inl (fun _ => 0)))]) ++ [(q43, .inl (G 0, 32, .inl (fun _ => 0)))]) ++ [(q51, .inl (G 0, 32, .inl (fun _ => 0)))]) ++ [(q59, .inl (G 0, 32, .inl (fun _ => 0)))]) ++ [(q67, .inl (G 0, 16, .inl (fun _ => 0)))])) := hD
  refine va_putF (D := D) (ci := 9) (v := .ref q67) (ty := .array .int) (C := RX9) (T := TX9) (N := 10) hx hb hts u_X9_init_X9 tyX9 tyX9_ok nmX9 hown hE.1.1 hP hD hS 0 rfl rfl 9 (by decide) (hts (.fieldLink RX9 40 "DecreasingDiagrams$SidePaths" "firstPlaces" "[I") (List.mem_of_getElem? (i := 14) rfl)) (fun _ h9 => h9) rfl hin rfl (by decide +kernel) rfl rfl (Nat.le_of_ble_eq_true rfl) dX9_init_69 (fun H locs hP hD hS => ?_)
  have hP : va_P D vwCl ((h, .inr (9, [.int 0, .int 0, .int 0, .int 0, .ref q27, .ref q35, .ref q43, .ref q51, .ref q59, .ref q67])) :: ((((((([] : va_W) ++ [(q27, .inl (G 0, 32, .inl (fun _ => 0)))]) ++ [(q35, .inl (G 0, 32, .inl (fun _ => 0)))]) ++ [(q43, .inl (G 0, 32, .inl (fun _ => 0)))]) ++ [(q51, .inl (G 0, 32, .inl (fun _ => 0)))]) ++ [(q59, .inl (G 0, 32, .inl (fun _ => 0)))]) ++ [(q67, .inl (G 0, 16, .inl (fun _ => 0)))])) H := hP
  have hD : va_D A ((h, .inr (9, [.int 0, .int 0, .int 0, .int 0, .ref q27, .ref q35, .ref q43, .ref q51, .ref q59, .ref q67])) :: ((((((([] : va_W) ++ [(q27, .inl (G 0, 32, .inl (fun _ => 0)))]) ++ [(q35, .inl (G 0, 32, .inl (fun _ => 0)))]) ++ [(q43, .inl (G 0, 32, .inl (fun _ => 0)))]) ++ [(q51, .inl (G 0, 32, .inl (fun _ => 0)))]) ++ [(q59, .inl (G 0, 32, .inl (fun _ => 0)))]) ++ [(q67, .inl (G 0, 16, .inl (fun _ => 0)))])) := hD
  exact c_ret hx hb hr hlocks hsz hAe hP hD hS ⟨vv 0 [q27, q35, q43, q51, q59, q67], rfl⟩ dX9_init_72
set_option maxRecDepth 20000 in
theorem u_X0_init_X0 : ∀ w ∈ wsX00, w ∈ wsX0_init := xx_pl _ [27, 28, 29, 30] (by decide +kernel)
set_option maxRecDepth 20000 in
theorem u_X0_init_X3 : ∀ w ∈ wsX30, w ∈ wsX0_init := xx_pl _ [21, 22, 23, 24, 25, 26] (by decide +kernel)
set_option maxHeartbeats 4000000 in
set_option maxRecDepth 100000 in
theorem k_X0_init (l : Launch) (D : va_G) (G : Nat → ClassId) (h sz : Nat) : cMet l yX0_init wsX0_init { frames := 2, cells := 5, slots := 118, locals := 32 } D G h sz 0 [.null, .int 0, .int 0, .int 0] (pX0 G h) 5 118 := by
  refine c_ent (cc := cX0_init) (by decide) rfl rfl ?_
  intro p e s m below meth c A ls args Q H locs hsz hAe hQ hx hb hr hml hown hts hlocks hin hE hl hA hP hD hS
  have hl : lv_has ls 1 [(0, .ref h)] := hl
  rw [← hQ]
  refine lv_aload_n hx hb dX0_init_0 rfl (lv_at hl 0 rfl) ?_
  refine W.objInit hx hb hown (hts (.methodLink RX0 3 objectInit) (List.mem_of_getElem? (i := 1) rfl)) (hts (.instanceMethod objectInit) (List.mem_of_getElem? (i := 2) rfl)) (hts (.code objectInit ⟨#[0xb1]⟩ 1 none) (List.mem_of_getElem? (i := 3) rfl)) rfl (by rw [hml]; exact hl.1) rfl dX0_init_1 (Nat.le_of_ble_eq_true rfl) (Nat.le_of_ble_eq_true rfl) ?_
  refine W.eq (g2 := F0 m 4 ls []) rfl ?_
  have hP : va_P D vwCl ((h, .inr (0, [.null, .int 0, .int 0, .int 0])) :: ([] : va_W)) H := hP
  have hD : va_D A ((h, .inr (0, [.null, .int 0, .int 0, .int 0])) :: ([] : va_W)) := hD
  refine lv_aload_n hx hb dX0_init_4 rfl (lv_at hl 0 rfl) ?_
  refine c_newI (own := RX0) (C := RX3) (host := RX11) (T := TX3) (N := 6) (ci := 3) (fs0 := [.int 0, .null, .int 0, .null, .null, .null]) (post := pX3 G) (mc := 4) (ms := 112) (c2 := 5) (s2 := 118) hx hb hml hts u_X0_init_X3 tyX3 tyX3_ok hown (hts (.classLink RX0 9 RX3) (List.mem_of_getElem? (i := 4) rfl)) (hts (.instantiable RX3 6) (List.mem_of_getElem? (i := 5) rfl)) (hts (.initialized RX3) (List.mem_of_getElem? (i := 6) rfl)) hE hP hD hS hA rfl (fun j hj => by rcases (show j = 0 ∨ j = 1 ∨ j = 2 ∨ j = 3 ∨ j = 4 ∨ j = 5 by omega) with rfl | rfl | rfl | rfl | rfl | rfl <;> rfl) (fun q sz => k_X3_init l D G q sz) ⟨va_cnB 0 hts gX0_init_X3_init_n11 rfl rfl rfl (hE.1.2 (.methodLinkNest RX0 11 yX3_init RX11) (List.mem_of_getElem? (i := 45) rfl)) (hts (.initialized RX3) (List.mem_of_getElem? (i := 6) rfl)) (by decide +kernel) ⟨(Nat.le_of_ble_eq_true rfl), (Nat.le_of_ble_eq_true rfl)⟩, rfl, (hts (.instanceMethod yX3_init) (List.mem_of_getElem? (i := 11) rfl))⟩ hl.1 (Nat.le_of_ble_eq_true rfl) (Nat.le_of_ble_eq_true rfl) (Nat.le_of_ble_eq_true rfl) rfl rfl dX0_init_5 dX0_init_8 dX0_init_9 (fun q5 B5 H locs hp5 hP hD hS => ?_)
  have hP : va_P D vwCl ((h, .inr (0, [.null, .int 0, .int 0, .int 0])) :: (([] : va_W) ++ B5)) H := hP
  have hD : va_D A ((h, .inr (0, [.null, .int 0, .int 0, .int 0])) :: (([] : va_W) ++ B5)) := hD
  refine va_putF (D := D) (ci := 0) (v := .ref q5) (ty := .object "DecreasingDiagrams$LabelledSystem") (C := RX0) (T := TX0) (N := 4) hx hb hts u_X0_init_X0 tyX0 tyX0_ok nmX0 hown hE.1.1 hP hD hS 0 rfl rfl 0 (by decide) (hts (.fieldLink RX0 12 "DecreasingDiagrams$Explorer" "draft" "LDecreasingDiagrams$LabelledSystem;") (List.mem_of_getElem? (i := 7) rfl)) (fun _ h9 => h9) rfl hin rfl (by decide +kernel) rfl rfl (Nat.le_of_ble_eq_true rfl) dX0_init_12 (fun H locs hP hD hS => ?_)
  have hP : va_P D vwCl ((h, .inr (0, [.ref q5, .int 0, .int 0, .int 0])) :: (([] : va_W) ++ B5)) H := hP
  have hD : va_D A ((h, .inr (0, [.ref q5, .int 0, .int 0, .int 0])) :: (([] : va_W) ++ B5)) := hD
  refine lv_aload_n hx hb dX0_init_15 rfl (lv_at hl 0 rfl) ?_
  refine lv_bipush (v := (-2)) hx hb dX0_init_16 (by decide) ?_
  refine va_put (D := D) (ci := 0) (v := .int (-2)) (ty := .int) (C := RX0) (T := TX0) (N := 4) hx hb hts u_X0_init_X0 tyX0 tyX0_ok nmX0 hown hE.1.1 hP hD hS 0 rfl rfl 1 (by decide) (hts (.fieldLink RX0 18 "DecreasingDiagrams$Explorer" "failedObject" "I") (List.mem_of_getElem? (i := 8) rfl)) (fun _ h9 => h9) rfl (by decide +kernel) rfl rfl (Nat.le_of_ble_eq_true rfl) dX0_init_18 (fun H locs hP hD hS => ?_)
  have hP : va_P D vwCl ((h, .inr (0, [.ref q5, .int (-2), .int 0, .int 0])) :: (([] : va_W) ++ B5)) H := hP
  have hD : va_D A ((h, .inr (0, [.ref q5, .int (-2), .int 0, .int 0])) :: (([] : va_W) ++ B5)) := hD
  refine lv_aload_n hx hb dX0_init_21 rfl (lv_at hl 0 rfl) ?_
  refine lv_bipush (v := (-2)) hx hb dX0_init_22 (by decide) ?_
  refine va_put (D := D) (ci := 0) (v := .int (-2)) (ty := .int) (C := RX0) (T := TX0) (N := 4) hx hb hts u_X0_init_X0 tyX0 tyX0_ok nmX0 hown hE.1.1 hP hD hS 0 rfl rfl 2 (by decide) (hts (.fieldLink RX0 22 "DecreasingDiagrams$Explorer" "failedRule" "I") (List.mem_of_getElem? (i := 9) rfl)) (fun _ h9 => h9) rfl (by decide +kernel) rfl rfl (Nat.le_of_ble_eq_true rfl) dX0_init_24 (fun H locs hP hD hS => ?_)
  have hP : va_P D vwCl ((h, .inr (0, [.ref q5, .int (-2), .int (-2), .int 0])) :: (([] : va_W) ++ B5)) H := hP
  have hD : va_D A ((h, .inr (0, [.ref q5, .int (-2), .int (-2), .int 0])) :: (([] : va_W) ++ B5)) := hD
  refine lv_aload_n hx hb dX0_init_27 rfl (lv_at hl 0 rfl) ?_
  refine lv_bipush (v := (-2)) hx hb dX0_init_28 (by decide) ?_
  refine va_put (D := D) (ci := 0) (v := .int (-2)) (ty := .int) (C := RX0) (T := TX0) (N := 4) hx hb hts u_X0_init_X0 tyX0 tyX0_ok nmX0 hown hE.1.1 hP hD hS 0 rfl rfl 3 (by decide) (hts (.fieldLink RX0 25 "DecreasingDiagrams$Explorer" "failedLimit" "I") (List.mem_of_getElem? (i := 10) rfl)) (fun _ h9 => h9) rfl (by decide +kernel) rfl rfl (Nat.le_of_ble_eq_true rfl) dX0_init_30 (fun H locs hP hD hS => ?_)
  have hP : va_P D vwCl ((h, .inr (0, [.ref q5, .int (-2), .int (-2), .int (-2)])) :: (([] : va_W) ++ B5)) H := hP
  have hD : va_D A ((h, .inr (0, [.ref q5, .int (-2), .int (-2), .int (-2)])) :: (([] : va_W) ++ B5)) := hD
  obtain ⟨a5, rfl⟩ := hp5
  exact c_ret hx hb hr hlocks hsz hAe hP hD hS ⟨vv 0 [q5, a5 0, a5 1, a5 2, a5 3], rfl⟩ dX0_init_33
set_option maxRecDepth 20000 in
theorem u_X5_init_X5 : ∀ w ∈ wsX50, w ∈ wsX5_init := xx_pl _ [13, 14] (by decide +kernel)
set_option maxHeartbeats 4000000 in
set_option maxRecDepth 100000 in
theorem k_X5_init (l : Launch) (D : va_G) (G : Nat → ClassId) (h sz : Nat) : cMet l yX5_init wsX5_init { frames := 1, cells := 5, slots := 54, locals := 23 } D G h sz 5 [.null, .null] (pX5 G h) 5 54 := by
  refine c_ent (cc := cX5_init) (by decide) rfl rfl ?_
  intro p e s m below meth c A ls args Q H locs hsz hAe hQ hx hb hr hml hown hts hlocks hin hE hl hA hP hD hS
  have hl : lv_has ls 1 [(0, .ref h)] := hl
  rw [← hQ]
  refine lv_aload_n hx hb dX5_init_0 rfl (lv_at hl 0 rfl) ?_
  refine W.objInit hx hb hown (hts (.methodLink RX5 3 objectInit) (List.mem_of_getElem? (i := 1) rfl)) (hts (.instanceMethod objectInit) (List.mem_of_getElem? (i := 2) rfl)) (hts (.code objectInit ⟨#[0xb1]⟩ 1 none) (List.mem_of_getElem? (i := 3) rfl)) rfl (by rw [hml]; exact hl.1) rfl dX5_init_1 (Nat.le_of_ble_eq_true rfl) (Nat.le_of_ble_eq_true rfl) ?_
  refine W.eq (g2 := F0 m 4 ls []) rfl ?_
  have hP : va_P D vwCl ((h, .inr (5, [.null, .null])) :: ([] : va_W)) H := hP
  have hD : va_D A ((h, .inr (5, [.null, .null])) :: ([] : va_W)) := hD
  refine lv_aload_n hx hb dX5_init_4 rfl (lv_at hl 0 rfl) ?_
  refine lv_iconst (v := 3) hx hb dX5_init_5 (by decide) ?_
  refine c_newa (n := 3) (N' := 3) (c2 := 1) (s2 := 3) hx hb (hts (.arrayClass .int) (List.mem_of_getElem? (i := 4) rfl)) hE hP hD hS hA (by decide) (by decide) (Nat.le_of_ble_eq_true rfl) (Nat.le_of_ble_eq_true rfl) (Nat.le_of_ble_eq_true rfl) rfl rfl dX5_init_6 (fun q6 H hP hD hS => ?_)
  have hP : va_P D vwCl ((h, .inr (5, [.null, .null])) :: (([] : va_W) ++ [(q6, .inl (G 0, 3, .inl (fun _ => 0)))])) H := hP
  have hD : va_D A ((h, .inr (5, [.null, .null])) :: (([] : va_W) ++ [(q6, .inl (G 0, 3, .inl (fun _ => 0)))])) := hD
  refine va_putF (D := D) (ci := 5) (v := .ref q6) (ty := .array .int) (C := RX5) (T := TX5) (N := 2) hx hb hts u_X5_init_X5 tyX5 tyX5_ok nmX5 hown hE.1.1 hP hD hS 0 rfl rfl 0 (by decide) (hts (.fieldLink RX5 9 "DecreasingDiagrams$LongArrays" "sizes" "[I") (List.mem_of_getElem? (i := 5) rfl)) (fun _ h9 => h9) rfl hin rfl (by decide +kernel) rfl rfl (Nat.le_of_ble_eq_true rfl) dX5_init_8 (fun H locs hP hD hS => ?_)
  have hP : va_P D vwCl ((h, .inr (5, [.ref q6, .null])) :: (([] : va_W) ++ [(q6, .inl (G 0, 3, .inl (fun _ => 0)))])) H := hP
  have hD : va_D A ((h, .inr (5, [.ref q6, .null])) :: (([] : va_W) ++ [(q6, .inl (G 0, 3, .inl (fun _ => 0)))])) := hD
  refine lv_aload_n hx hb dX5_init_11 rfl (lv_at hl 0 rfl) ?_
  refine lv_iconst (v := 3) hx hb dX5_init_12 (by decide) ?_
  refine lv_bipush (v := 16) hx hb dX5_init_13 (by decide) ?_
  refine c_mnaJ (n := 3) (k := 16) (N' := 3) (K' := 16) (c2 := 5) (s2 := 54) hx hb hown (hts (.classLink RX5 15 "[[J") (List.mem_of_getElem? (i := 6) rfl)) (hts (.arrayClass .long) (List.mem_of_getElem? (i := 7) rfl)) hE hP hD hS hA (by decide) (by decide) (by decide) (by decide) (Nat.le_of_ble_eq_true rfl) (Nat.le_of_ble_eq_true rfl) (Nat.le_of_ble_eq_true rfl) (Nat.le_of_ble_eq_true rfl) (Nat.le_of_ble_eq_true rfl) rfl rfl dX5_init_15 (fun q15 r15 H hP hD hS => ?_)
  have hP : va_P D vwCl ((h, .inr (5, [.ref q6, .null])) :: ((([] : va_W) ++ [(q6, .inl (G 0, 3, .inl (fun _ => 0)))]) ++ (gO (G 5) q15 r15 3 :: gJ (G 1) r15 3 16 (fun _ _ => 0)))) H := hP
  have hD : va_D A ((h, .inr (5, [.ref q6, .null])) :: ((([] : va_W) ++ [(q6, .inl (G 0, 3, .inl (fun _ => 0)))]) ++ (gO (G 5) q15 r15 3 :: gJ (G 1) r15 3 16 (fun _ _ => 0)))) := hD
  refine va_putF (D := D) (ci := 5) (v := .ref q15) (ty := .array (.array .long)) (C := RX5) (T := TX5) (N := 2) hx hb hts u_X5_init_X5 tyX5 tyX5_ok nmX5 hown hE.1.1 hP hD hS 0 rfl rfl 1 (by decide) (hts (.fieldLink RX5 17 "DecreasingDiagrams$LongArrays" "values" "[[J") (List.mem_of_getElem? (i := 8) rfl)) (fun _ h9 => h9) rfl hin rfl (by decide +kernel) rfl rfl (Nat.le_of_ble_eq_true rfl) dX5_init_19 (fun H locs hP hD hS => ?_)
  have hP : va_P D vwCl ((h, .inr (5, [.ref q6, .ref q15])) :: ((([] : va_W) ++ [(q6, .inl (G 0, 3, .inl (fun _ => 0)))]) ++ (gO (G 5) q15 r15 3 :: gJ (G 1) r15 3 16 (fun _ _ => 0)))) H := hP
  have hD : va_D A ((h, .inr (5, [.ref q6, .ref q15])) :: ((([] : va_W) ++ [(q6, .inl (G 0, 3, .inl (fun _ => 0)))]) ++ (gO (G 5) q15 r15 3 :: gJ (G 1) r15 3 16 (fun _ _ => 0)))) := hD
  refine lv_aload_n hx hb dX5_init_22 rfl (lv_at hl 0 rfl) ?_
  refine va_get (D := D) (ci := 5) (v := .ref q6) (C := RX5) (T := TX5) (N := 2) hx hb hts u_X5_init_X5 hown hE.1.1 hP 0 rfl rfl 0 (by decide) (hts (.fieldLink RX5 9 "DecreasingDiagrams$LongArrays" "sizes" "[I") (List.mem_of_getElem? (i := 5) rfl)) (fun _ h9 => h9) rfl dX5_init_23 ?_
  refine lv_iconst (v := (-1)) hx hb dX5_init_26 (by decide) ?_
  obtain ⟨o1, ho1, ho2⟩ := x_fill32 100 (N := 3) (by decide) (by decide) (fun _ => 0) (-1)
  have hPx : xW D (xAA [[(h, .inr (5, [.ref q6, .ref q15]))], [(q6, .inl (G 0, 3, .inl (fun _ => 0)))], [gO (G 5) q15 r15 3], gJ (G 1) r15 3 16 (fun _ _ => 0)]) [[(h, .inr (5, [.ref q6, .ref q15]))], [(q6, .inl (G 0, 3, .inl (fun _ => 0)))], [gO (G 5) q15 r15 3], gJ (G 1) r15 3 16 (fun _ _ => 0)] H := ⟨hP, rfl⟩
  have hDx : va_D A (List.flatten [[(h, .inr (5, [.ref q6, .ref q15]))], [(q6, .inl (G 0, 3, .inl (fun _ => 0)))], [gO (G 5) q15 r15 3], gJ (G 1) r15 3 16 (fun _ _ => 0)]) := hD
  have hN : (xAA [[(h, .inr (5, [.ref q6, .ref q15]))], [(q6, .inl (G 0, 3, .inl (fun _ => 0)))], [gO (G 5) q15 r15 3], gJ (G 1) r15 3 16 (fun _ _ => 0)]).flatten.Nodup := by rw [x_flat]; exact c_nodup hDx
  have hAx : ∀ q, q ∈ (xAA [[(h, .inr (5, [.ref q6, .ref q15]))], [(q6, .inl (G 0, 3, .inl (fun _ => 0)))], [gO (G 5) q15 r15 3], gJ (G 1) r15 3 16 (fun _ _ => 0)]).flatten → A q := fun q hq => by rw [x_flat] at hq; exact c_mem hDx q hq
  refine va_callv (x_runS (As := [.ref q6, .int (-1)]) (rest := []) (ps := [1]) ⟨hx, hb, hml, hown, hts⟩ (k_J7_fill_53178 l D G 100 q6 (fun _ => 0) 3 (-1) o1 ho1) (va_cwS 2 hts gX5_init_J7_fill_53178 rfl rfl rfl (by decide +kernel) ⟨(Nat.le_of_ble_eq_true rfl), (Nat.le_of_ble_eq_true rfl)⟩) hE.1 hPx hN rfl (by decide) rfl hl.1 (Nat.le_of_ble_eq_true rfl) dX5_init_27 ⟨(Nat.le_of_ble_eq_true rfl), (Nat.le_of_ble_eq_true rfl)⟩) hS (fun q _ hq => hAx q (x_subA (I := [[(h, .inr (5, [.ref q6, .ref q15]))], [(q6, .inl (G 0, 3, .inl (fun _ => 0)))], [gO (G 5) q15 r15 3], gJ (G 1) r15 3 16 (fun _ _ => 0)]) (ps := [1]) rfl q hq)) (fun q hq => hAx q (x_subA (I := [[(h, .inr (5, [.ref q6, .ref q15]))], [(q6, .inl (G 0, 3, .inl (fun _ => 0)))], [gO (G 5) q15 r15 3], gJ (G 1) r15 3 16 (fun _ _ => 0)]) (ps := [1]) rfl q hq)) (fun u t H1 locs1 ht hvm hw hB hz hk hS => ?_)
  rw [ht] at hB
  have hPy := x_join (I' := [[(h, .inr (5, [.ref q6, .ref q15]))], [(q6, .inl (G 0, 3, .inl (o1)))], [gO (G 5) q15 r15 3], gJ (G 1) r15 3 16 (fun _ _ => 0)]) (ps := [1]) (qs := [0, 2, 3]) (n := 4) hPx hN rfl hB hk rfl (x_tr (K := [[(h, .inr (5, [.ref q6, .ref q15]))], [gO (G 5) q15 r15 3], gJ (G 1) r15 3 16 (fun _ _ => 0)]) rfl rfl) rfl rfl (by decide)
  have hDy : va_D A (List.flatten [[(h, .inr (5, [.ref q6, .ref q15]))], [(q6, .inl (G 0, 3, .inl (o1)))], [gO (G 5) q15 r15 3], gJ (G 1) r15 3 16 (fun _ _ => 0)]) := x_D (by rw [hPy.2]; exact hN) (fun q hq => by rw [hPy.2] at hq; exact hAx q hq)
  have hP : va_P D vwCl (List.flatten [[(h, .inr (5, [.ref q6, .ref q15]))], [(q6, .inl (G 0, 3, .inl (o1)))], [gO (G 5) q15 r15 3], gJ (G 1) r15 3 16 (fun _ _ => 0)]) H1 := hPy.1
  have hD := hDy
  exact c_ret hx hb hr hlocks hsz hAe hP hD hS ⟨vv 0 [q6, q15], r15, o1, ho2, rfl⟩ dX5_init_30
set_option maxRecDepth 20000 in
theorem u_X4_init_X4 : ∀ w ∈ wsX40, w ∈ wsX4_init := xx_pl _ [48, 49, 50, 51, 52] (by decide +kernel)
set_option maxRecDepth 20000 in
theorem u_X4_init_X2 : ∀ w ∈ wsX20, w ∈ wsX4_init := xx_pl _ [53, 54] (by decide +kernel)
set_option maxRecDepth 20000 in
theorem u_X4_init_X3 : ∀ w ∈ wsX30, w ∈ wsX4_init := xx_pl _ [42, 43, 44, 45, 46, 47] (by decide +kernel)
set_option maxRecDepth 20000 in
theorem u_X4_init_X7 : ∀ w ∈ wsX70, w ∈ wsX4_init := xx_pl _ [55, 56, 57] (by decide +kernel)
set_option maxHeartbeats 4000000 in
set_option maxRecDepth 100000 in
theorem k_X4_init (l : Launch) (D : va_G) (G : Nat → ClassId) (h sz : Nat) : cMet l yX4_init wsX4_init { frames := 2, cells := 12, slots := 1139, locals := 32 } D G h sz 4 [.null, .null, .null, .null, .int 0] (pX4 G h) 12 1139 := by
  refine c_ent (cc := cX4_init) (by decide) rfl rfl ?_
  intro p e s m below meth c A ls args Q H locs hsz hAe hQ hx hb hr hml hown hts hlocks hin hE hl hA hP hD hS
  have hl : lv_has ls 1 [(0, .ref h)] := hl
  rw [← hQ]
  refine lv_aload_n hx hb dX4_init_0 rfl (lv_at hl 0 rfl) ?_
  refine W.objInit hx hb hown (hts (.methodLink RX4 3 objectInit) (List.mem_of_getElem? (i := 1) rfl)) (hts (.instanceMethod objectInit) (List.mem_of_getElem? (i := 2) rfl)) (hts (.code objectInit ⟨#[0xb1]⟩ 1 none) (List.mem_of_getElem? (i := 3) rfl)) rfl (by rw [hml]; exact hl.1) rfl dX4_init_1 (Nat.le_of_ble_eq_true rfl) (Nat.le_of_ble_eq_true rfl) ?_
  refine W.eq (g2 := F0 m 4 ls []) rfl ?_
  have hP : va_P D vwCl ((h, .inr (4, [.null, .null, .null, .null, .int 0])) :: ([] : va_W)) H := hP
  have hD : va_D A ((h, .inr (4, [.null, .null, .null, .null, .int 0])) :: ([] : va_W)) := hD
  refine lv_aload_n hx hb dX4_init_4 rfl (lv_at hl 0 rfl) ?_
  refine c_newI (own := RX4) (C := RX3) (host := RX11) (T := TX3) (N := 6) (ci := 3) (fs0 := [.int 0, .null, .int 0, .null, .null, .null]) (post := pX3 G) (mc := 4) (ms := 112) (c2 := 5) (s2 := 118) hx hb hml hts u_X4_init_X3 tyX3 tyX3_ok hown (hts (.classLink RX4 9 RX3) (List.mem_of_getElem? (i := 4) rfl)) (hts (.instantiable RX3 6) (List.mem_of_getElem? (i := 5) rfl)) (hts (.initialized RX3) (List.mem_of_getElem? (i := 6) rfl)) hE hP hD hS hA rfl (fun j hj => by rcases (show j = 0 ∨ j = 1 ∨ j = 2 ∨ j = 3 ∨ j = 4 ∨ j = 5 by omega) with rfl | rfl | rfl | rfl | rfl | rfl <;> rfl) (fun q sz => k_X3_init l D G q sz) ⟨va_cnB 0 hts gX4_init_X3_init_n11 rfl rfl rfl (hE.1.2 (.methodLinkNest RX4 11 yX3_init RX11) (List.mem_of_getElem? (i := 36) rfl)) (hts (.initialized RX3) (List.mem_of_getElem? (i := 6) rfl)) (by decide +kernel) ⟨(Nat.le_of_ble_eq_true rfl), (Nat.le_of_ble_eq_true rfl)⟩, rfl, (hts (.instanceMethod yX3_init) (List.mem_of_getElem? (i := 19) rfl))⟩ hl.1 (Nat.le_of_ble_eq_true rfl) (Nat.le_of_ble_eq_true rfl) (Nat.le_of_ble_eq_true rfl) rfl rfl dX4_init_5 dX4_init_8 dX4_init_9 (fun q5 B5 H locs hp5 hP hD hS => ?_)
  have hP : va_P D vwCl ((h, .inr (4, [.null, .null, .null, .null, .int 0])) :: (([] : va_W) ++ B5)) H := hP
  have hD : va_D A ((h, .inr (4, [.null, .null, .null, .null, .int 0])) :: (([] : va_W) ++ B5)) := hD
  refine va_putF (D := D) (ci := 4) (v := .ref q5) (ty := .object "DecreasingDiagrams$LabelledSystem") (C := RX4) (T := TX4) (N := 5) hx hb hts u_X4_init_X4 tyX4 tyX4_ok nmX4 hown hE.1.1 hP hD hS 0 rfl rfl 0 (by decide) (hts (.fieldLink RX4 12 "DecreasingDiagrams$LabellingSearch" "trial" "LDecreasingDiagrams$LabelledSystem;") (List.mem_of_getElem? (i := 7) rfl)) (fun _ h9 => h9) rfl hin rfl (by decide +kernel) rfl rfl (Nat.le_of_ble_eq_true rfl) dX4_init_12 (fun H locs hP hD hS => ?_)
  have hP : va_P D vwCl ((h, .inr (4, [.ref q5, .null, .null, .null, .int 0])) :: (([] : va_W) ++ B5)) H := hP
  have hD : va_D A ((h, .inr (4, [.ref q5, .null, .null, .null, .int 0])) :: (([] : va_W) ++ B5)) := hD
  refine lv_aload_n hx hb dX4_init_15 rfl (lv_at hl 0 rfl) ?_
  refine c_newI (own := RX4) (C := RX2) (host := RX11) (T := TX2) (N := 2) (ci := 2) (fs0 := [.null, .null]) (post := pX2 G) (mc := 2) (ms := 16) (c2 := 8) (s2 := 136) hx hb hml hts u_X4_init_X2 tyX2 tyX2_ok hown (hts (.classLink RX4 18 RX2) (List.mem_of_getElem? (i := 8) rfl)) (hts (.instantiable RX2 2) (List.mem_of_getElem? (i := 9) rfl)) (hts (.initialized RX2) (List.mem_of_getElem? (i := 10) rfl)) hE hP hD hS hA rfl (fun j hj => by rcases (show j = 0 ∨ j = 1 by omega) with rfl | rfl <;> rfl) (fun q sz => k_X2_init l D G q sz) ⟨va_cnB 0 hts gX4_init_X2_init_n20 rfl rfl rfl (hE.1.2 (.methodLinkNest RX4 20 yX2_init RX11) (List.mem_of_getElem? (i := 37) rfl)) (hts (.initialized RX2) (List.mem_of_getElem? (i := 10) rfl)) (by decide +kernel) ⟨(Nat.le_of_ble_eq_true rfl), (Nat.le_of_ble_eq_true rfl)⟩, rfl, (hts (.instanceMethod yX2_init) (List.mem_of_getElem? (i := 28) rfl))⟩ hl.1 (Nat.le_of_ble_eq_true rfl) (Nat.le_of_ble_eq_true rfl) (Nat.le_of_ble_eq_true rfl) rfl rfl dX4_init_16 dX4_init_19 dX4_init_20 (fun q16 B16 H locs hp16 hP hD hS => ?_)
  have hP : va_P D vwCl ((h, .inr (4, [.ref q5, .null, .null, .null, .int 0])) :: ((([] : va_W) ++ B5) ++ B16)) H := hP
  have hD : va_D A ((h, .inr (4, [.ref q5, .null, .null, .null, .int 0])) :: ((([] : va_W) ++ B5) ++ B16)) := hD
  refine va_putF (D := D) (ci := 4) (v := .ref q16) (ty := .object "DecreasingDiagrams$LabelOrder") (C := RX4) (T := TX4) (N := 5) hx hb hts u_X4_init_X4 tyX4 tyX4_ok nmX4 hown hE.1.1 hP hD hS 0 rfl rfl 1 (by decide) (hts (.fieldLink RX4 21 "DecreasingDiagrams$LabellingSearch" "natural" "LDecreasingDiagrams$LabelOrder;") (List.mem_of_getElem? (i := 11) rfl)) (fun _ h9 => h9) rfl hin rfl (by decide +kernel) rfl rfl (Nat.le_of_ble_eq_true rfl) dX4_init_23 (fun H locs hP hD hS => ?_)
  have hP : va_P D vwCl ((h, .inr (4, [.ref q5, .ref q16, .null, .null, .int 0])) :: ((([] : va_W) ++ B5) ++ B16)) H := hP
  have hD : va_D A ((h, .inr (4, [.ref q5, .ref q16, .null, .null, .int 0])) :: ((([] : va_W) ++ B5) ++ B16)) := hD
  refine lv_aload_n hx hb dX4_init_26 rfl (lv_at hl 0 rfl) ?_
  refine c_newI (own := RX4) (C := RX7) (host := RX11) (T := TX7) (N := 3) (ci := 7) (fs0 := [.int 0, .null, .null]) (post := pX7 G) (mc := 2) (ms := 992) (c2 := 11) (s2 := 1131) hx hb hml hts u_X4_init_X7 tyX7 tyX7_ok hown (hts (.classLink RX4 25 RX7) (List.mem_of_getElem? (i := 12) rfl)) (hts (.instantiable RX7 3) (List.mem_of_getElem? (i := 13) rfl)) (hts (.initialized RX7) (List.mem_of_getElem? (i := 14) rfl)) hE hP hD hS hA rfl (fun j hj => by rcases (show j = 0 ∨ j = 1 ∨ j = 2 by omega) with rfl | rfl | rfl <;> rfl) (fun q sz => k_X7_init l D G q sz) ⟨va_cnB 0 hts gX4_init_X7_init_n27 rfl rfl rfl (hE.1.2 (.methodLinkNest RX4 27 yX7_init RX11) (List.mem_of_getElem? (i := 38) rfl)) (hts (.initialized RX7) (List.mem_of_getElem? (i := 14) rfl)) (by decide +kernel) ⟨(Nat.le_of_ble_eq_true rfl), (Nat.le_of_ble_eq_true rfl)⟩, rfl, (hts (.instanceMethod yX7_init) (List.mem_of_getElem? (i := 33) rfl))⟩ hl.1 (Nat.le_of_ble_eq_true rfl) (Nat.le_of_ble_eq_true rfl) (Nat.le_of_ble_eq_true rfl) rfl rfl dX4_init_27 dX4_init_30 dX4_init_31 (fun q27 B27 H locs hp27 hP hD hS => ?_)
  have hP : va_P D vwCl ((h, .inr (4, [.ref q5, .ref q16, .null, .null, .int 0])) :: (((([] : va_W) ++ B5) ++ B16) ++ B27)) H := hP
  have hD : va_D A ((h, .inr (4, [.ref q5, .ref q16, .null, .null, .int 0])) :: (((([] : va_W) ++ B5) ++ B16) ++ B27)) := hD
  refine va_putF (D := D) (ci := 4) (v := .ref q27) (ty := .object "DecreasingDiagrams$Peaks") (C := RX4) (T := TX4) (N := 5) hx hb hts u_X4_init_X4 tyX4 tyX4_ok nmX4 hown hE.1.1 hP hD hS 0 rfl rfl 2 (by decide) (hts (.fieldLink RX4 28 "DecreasingDiagrams$LabellingSearch" "trialPeaks" "LDecreasingDiagrams$Peaks;") (List.mem_of_getElem? (i := 15) rfl)) (fun _ h9 => h9) rfl hin rfl (by decide +kernel) rfl rfl (Nat.le_of_ble_eq_true rfl) dX4_init_34 (fun H locs hP hD hS => ?_)
  have hP : va_P D vwCl ((h, .inr (4, [.ref q5, .ref q16, .ref q27, .null, .int 0])) :: (((([] : va_W) ++ B5) ++ B16) ++ B27)) H := hP
  have hD : va_D A ((h, .inr (4, [.ref q5, .ref q16, .ref q27, .null, .int 0])) :: (((([] : va_W) ++ B5) ++ B16) ++ B27)) := hD
  refine lv_aload_n hx hb dX4_init_37 rfl (lv_at hl 0 rfl) ?_
  refine lv_bipush (v := 8) hx hb dX4_init_38 (by decide) ?_
  refine c_newa (n := 8) (N' := 8) (c2 := 12) (s2 := 1139) hx hb (hts (.arrayClass .int) (List.mem_of_getElem? (i := 16) rfl)) hE hP hD hS hA (by decide) (by decide) (Nat.le_of_ble_eq_true rfl) (Nat.le_of_ble_eq_true rfl) (Nat.le_of_ble_eq_true rfl) rfl rfl dX4_init_40 (fun q40 H hP hD hS => ?_)
  have hP : va_P D vwCl ((h, .inr (4, [.ref q5, .ref q16, .ref q27, .null, .int 0])) :: ((((([] : va_W) ++ B5) ++ B16) ++ B27) ++ [(q40, .inl (G 0, 8, .inl (fun _ => 0)))])) H := hP
  have hD : va_D A ((h, .inr (4, [.ref q5, .ref q16, .ref q27, .null, .int 0])) :: ((((([] : va_W) ++ B5) ++ B16) ++ B27) ++ [(q40, .inl (G 0, 8, .inl (fun _ => 0)))])) := hD
  refine va_putF (D := D) (ci := 4) (v := .ref q40) (ty := .array .int) (C := RX4) (T := TX4) (N := 5) hx hb hts u_X4_init_X4 tyX4 tyX4_ok nmX4 hown hE.1.1 hP hD hS 0 rfl rfl 3 (by decide) (hts (.fieldLink RX4 32 "DecreasingDiagrams$LabellingSearch" "found" "[I") (List.mem_of_getElem? (i := 17) rfl)) (fun _ h9 => h9) rfl hin rfl (by decide +kernel) rfl rfl (Nat.le_of_ble_eq_true rfl) dX4_init_42 (fun H locs hP hD hS => ?_)
  have hP : va_P D vwCl ((h, .inr (4, [.ref q5, .ref q16, .ref q27, .ref q40, .int 0])) :: ((((([] : va_W) ++ B5) ++ B16) ++ B27) ++ [(q40, .inl (G 0, 8, .inl (fun _ => 0)))])) H := hP
  have hD : va_D A ((h, .inr (4, [.ref q5, .ref q16, .ref q27, .ref q40, .int 0])) :: ((((([] : va_W) ++ B5) ++ B16) ++ B27) ++ [(q40, .inl (G 0, 8, .inl (fun _ => 0)))])) := hD
  refine lv_aload_n hx hb dX4_init_45 rfl (lv_at hl 0 rfl) ?_
  refine lv_bipush (v := (-2)) hx hb dX4_init_46 (by decide) ?_
  refine va_put (D := D) (ci := 4) (v := .int (-2)) (ty := .int) (C := RX4) (T := TX4) (N := 5) hx hb hts u_X4_init_X4 tyX4 tyX4_ok nmX4 hown hE.1.1 hP hD hS 0 rfl rfl 4 (by decide) (hts (.fieldLink RX4 36 "DecreasingDiagrams$LabellingSearch" "foundSteps" "I") (List.mem_of_getElem? (i := 18) rfl)) (fun _ h9 => h9) rfl (by decide +kernel) rfl rfl (Nat.le_of_ble_eq_true rfl) dX4_init_48 (fun H locs hP hD hS => ?_)
  have hP : va_P D vwCl ((h, .inr (4, [.ref q5, .ref q16, .ref q27, .ref q40, .int (-2)])) :: ((((([] : va_W) ++ B5) ++ B16) ++ B27) ++ [(q40, .inl (G 0, 8, .inl (fun _ => 0)))])) H := hP
  have hD : va_D A ((h, .inr (4, [.ref q5, .ref q16, .ref q27, .ref q40, .int (-2)])) :: ((((([] : va_W) ++ B5) ++ B16) ++ B27) ++ [(q40, .inl (G 0, 8, .inl (fun _ => 0)))])) := hD
  refine lv_aload_n hx hb dX4_init_51 rfl (lv_at hl 0 rfl) ?_
  refine va_get (D := D) (ci := 4) (v := .ref q16) (C := RX4) (T := TX4) (N := 5) hx hb hts u_X4_init_X4 hown hE.1.1 hP 0 rfl rfl 1 (by decide) (hts (.fieldLink RX4 21 "DecreasingDiagrams$LabellingSearch" "natural" "LDecreasingDiagrams$LabelOrder;") (List.mem_of_getElem? (i := 11) rfl)) (fun _ h9 => h9) rfl dX4_init_52 ?_
  obtain ⟨a5, rfl⟩ := hp5
  obtain ⟨a16, rfl⟩ := hp16
  obtain ⟨a27, rfl⟩ := hp27
  obtain ⟨⟨o1, o2⟩, ho1, ho2⟩ := x_makeNatural 100 (by decide) (fun _ => 0) (fun _ => 0)
  have hPx : xW D (xAA [[(h, .inr (4, [.ref q5, .ref q16, .ref q27, .ref q40, .int (-2)]))], [(q5, .inr (3, [.int 0, .ref (a5 0), .int 0, .ref (a5 1), .ref (a5 2), .ref (a5 3)]))], [(a5 0, .inl (G 0, 16, .inl (fun _ => 0)))], [(a5 1, .inl (G 0, 32, .inl (fun _ => 0)))], [(a5 2, .inl (G 0, 32, .inl (fun _ => 0)))], [(a5 3, .inl (G 0, 32, .inl (fun _ => 0)))], [(q16, .inr (2, [.ref (a16 0), .ref (a16 1)]))], [(a16 0, .inl (G 0, 8, .inl (fun _ => 0)))], [(a16 1, .inl (G 0, 8, .inl (fun _ => 0)))], [(q27, .inr (7, [.int 0, .ref (a27 0), .ref (a27 1)]))], [(a27 0, .inl (G 0, 496, .inl (fun _ => 0)))], [(a27 1, .inl (G 0, 496, .inl (fun _ => 0)))], [(q40, .inl (G 0, 8, .inl (fun _ => 0)))]]) [[(h, .inr (4, [.ref q5, .ref q16, .ref q27, .ref q40, .int (-2)]))], [(q5, .inr (3, [.int 0, .ref (a5 0), .int 0, .ref (a5 1), .ref (a5 2), .ref (a5 3)]))], [(a5 0, .inl (G 0, 16, .inl (fun _ => 0)))], [(a5 1, .inl (G 0, 32, .inl (fun _ => 0)))], [(a5 2, .inl (G 0, 32, .inl (fun _ => 0)))], [(a5 3, .inl (G 0, 32, .inl (fun _ => 0)))], [(q16, .inr (2, [.ref (a16 0), .ref (a16 1)]))], [(a16 0, .inl (G 0, 8, .inl (fun _ => 0)))], [(a16 1, .inl (G 0, 8, .inl (fun _ => 0)))], [(q27, .inr (7, [.int 0, .ref (a27 0), .ref (a27 1)]))], [(a27 0, .inl (G 0, 496, .inl (fun _ => 0)))], [(a27 1, .inl (G 0, 496, .inl (fun _ => 0)))], [(q40, .inl (G 0, 8, .inl (fun _ => 0)))]] H := ⟨hP, rfl⟩
  have hDx : va_D A (List.flatten [[(h, .inr (4, [.ref q5, .ref q16, .ref q27, .ref q40, .int (-2)]))], [(q5, .inr (3, [.int 0, .ref (a5 0), .int 0, .ref (a5 1), .ref (a5 2), .ref (a5 3)]))], [(a5 0, .inl (G 0, 16, .inl (fun _ => 0)))], [(a5 1, .inl (G 0, 32, .inl (fun _ => 0)))], [(a5 2, .inl (G 0, 32, .inl (fun _ => 0)))], [(a5 3, .inl (G 0, 32, .inl (fun _ => 0)))], [(q16, .inr (2, [.ref (a16 0), .ref (a16 1)]))], [(a16 0, .inl (G 0, 8, .inl (fun _ => 0)))], [(a16 1, .inl (G 0, 8, .inl (fun _ => 0)))], [(q27, .inr (7, [.int 0, .ref (a27 0), .ref (a27 1)]))], [(a27 0, .inl (G 0, 496, .inl (fun _ => 0)))], [(a27 1, .inl (G 0, 496, .inl (fun _ => 0)))], [(q40, .inl (G 0, 8, .inl (fun _ => 0)))]]) := hD
  have hN : (xAA [[(h, .inr (4, [.ref q5, .ref q16, .ref q27, .ref q40, .int (-2)]))], [(q5, .inr (3, [.int 0, .ref (a5 0), .int 0, .ref (a5 1), .ref (a5 2), .ref (a5 3)]))], [(a5 0, .inl (G 0, 16, .inl (fun _ => 0)))], [(a5 1, .inl (G 0, 32, .inl (fun _ => 0)))], [(a5 2, .inl (G 0, 32, .inl (fun _ => 0)))], [(a5 3, .inl (G 0, 32, .inl (fun _ => 0)))], [(q16, .inr (2, [.ref (a16 0), .ref (a16 1)]))], [(a16 0, .inl (G 0, 8, .inl (fun _ => 0)))], [(a16 1, .inl (G 0, 8, .inl (fun _ => 0)))], [(q27, .inr (7, [.int 0, .ref (a27 0), .ref (a27 1)]))], [(a27 0, .inl (G 0, 496, .inl (fun _ => 0)))], [(a27 1, .inl (G 0, 496, .inl (fun _ => 0)))], [(q40, .inl (G 0, 8, .inl (fun _ => 0)))]]).flatten.Nodup := by rw [x_flat]; exact c_nodup hDx
  have hAx : ∀ q, q ∈ (xAA [[(h, .inr (4, [.ref q5, .ref q16, .ref q27, .ref q40, .int (-2)]))], [(q5, .inr (3, [.int 0, .ref (a5 0), .int 0, .ref (a5 1), .ref (a5 2), .ref (a5 3)]))], [(a5 0, .inl (G 0, 16, .inl (fun _ => 0)))], [(a5 1, .inl (G 0, 32, .inl (fun _ => 0)))], [(a5 2, .inl (G 0, 32, .inl (fun _ => 0)))], [(a5 3, .inl (G 0, 32, .inl (fun _ => 0)))], [(q16, .inr (2, [.ref (a16 0), .ref (a16 1)]))], [(a16 0, .inl (G 0, 8, .inl (fun _ => 0)))], [(a16 1, .inl (G 0, 8, .inl (fun _ => 0)))], [(q27, .inr (7, [.int 0, .ref (a27 0), .ref (a27 1)]))], [(a27 0, .inl (G 0, 496, .inl (fun _ => 0)))], [(a27 1, .inl (G 0, 496, .inl (fun _ => 0)))], [(q40, .inl (G 0, 8, .inl (fun _ => 0)))]]).flatten → A q := fun q hq => by rw [x_flat] at hq; exact c_mem hDx q hq
  refine va_callv (x_runVN (As := []) (rest := []) (ps := [6, 8, 7]) ⟨hx, hb, hml, hown, hts⟩ (k_X2_makeNatural l D G 100 q16 (a16 0) (a16 1) (fun _ => 0) (fun _ => 0) (o1, o2) ho1) ⟨va_cnB 0 hts gX4_init_X2_makeNatural_n40 rfl rfl rfl (hE.1.2 (.methodLinkNest RX4 40 yX2_makeNatural RX11) (List.mem_of_getElem? (i := 39) rfl)) (hts (.initialized RX2) (List.mem_of_getElem? (i := 10) rfl)) (by decide +kernel) ⟨(Nat.le_of_ble_eq_true rfl), (Nat.le_of_ble_eq_true rfl)⟩, (hts (.instanceMethod yX2_makeNatural) (List.mem_of_getElem? (i := 39) rfl)), (hts (.selects RX2 yX2_makeNatural yX2_makeNatural) (List.mem_of_getElem? (i := 40) rfl))⟩ hE.1 hPx hN rfl (by decide) 6 rfl rfl rfl hl.1 (Nat.le_of_ble_eq_true rfl) dX4_init_55 ⟨(Nat.le_of_ble_eq_true rfl), (Nat.le_of_ble_eq_true rfl)⟩) hS (fun q _ hq => hAx q (x_subA (I := [[(h, .inr (4, [.ref q5, .ref q16, .ref q27, .ref q40, .int (-2)]))], [(q5, .inr (3, [.int 0, .ref (a5 0), .int 0, .ref (a5 1), .ref (a5 2), .ref (a5 3)]))], [(a5 0, .inl (G 0, 16, .inl (fun _ => 0)))], [(a5 1, .inl (G 0, 32, .inl (fun _ => 0)))], [(a5 2, .inl (G 0, 32, .inl (fun _ => 0)))], [(a5 3, .inl (G 0, 32, .inl (fun _ => 0)))], [(q16, .inr (2, [.ref (a16 0), .ref (a16 1)]))], [(a16 0, .inl (G 0, 8, .inl (fun _ => 0)))], [(a16 1, .inl (G 0, 8, .inl (fun _ => 0)))], [(q27, .inr (7, [.int 0, .ref (a27 0), .ref (a27 1)]))], [(a27 0, .inl (G 0, 496, .inl (fun _ => 0)))], [(a27 1, .inl (G 0, 496, .inl (fun _ => 0)))], [(q40, .inl (G 0, 8, .inl (fun _ => 0)))]]) (ps := [6, 8, 7]) rfl q hq)) (fun q hq => hAx q (x_subA (I := [[(h, .inr (4, [.ref q5, .ref q16, .ref q27, .ref q40, .int (-2)]))], [(q5, .inr (3, [.int 0, .ref (a5 0), .int 0, .ref (a5 1), .ref (a5 2), .ref (a5 3)]))], [(a5 0, .inl (G 0, 16, .inl (fun _ => 0)))], [(a5 1, .inl (G 0, 32, .inl (fun _ => 0)))], [(a5 2, .inl (G 0, 32, .inl (fun _ => 0)))], [(a5 3, .inl (G 0, 32, .inl (fun _ => 0)))], [(q16, .inr (2, [.ref (a16 0), .ref (a16 1)]))], [(a16 0, .inl (G 0, 8, .inl (fun _ => 0)))], [(a16 1, .inl (G 0, 8, .inl (fun _ => 0)))], [(q27, .inr (7, [.int 0, .ref (a27 0), .ref (a27 1)]))], [(a27 0, .inl (G 0, 496, .inl (fun _ => 0)))], [(a27 1, .inl (G 0, 496, .inl (fun _ => 0)))], [(q40, .inl (G 0, 8, .inl (fun _ => 0)))]]) (ps := [6, 8, 7]) rfl q hq)) (fun u t H1 locs1 ht hvm hw hB hz hk hS => ?_)
  rw [ht] at hB
  have hPy := x_join (I' := [[(h, .inr (4, [.ref q5, .ref q16, .ref q27, .ref q40, .int (-2)]))], [(q5, .inr (3, [.int 0, .ref (a5 0), .int 0, .ref (a5 1), .ref (a5 2), .ref (a5 3)]))], [(a5 0, .inl (G 0, 16, .inl (fun _ => 0)))], [(a5 1, .inl (G 0, 32, .inl (fun _ => 0)))], [(a5 2, .inl (G 0, 32, .inl (fun _ => 0)))], [(a5 3, .inl (G 0, 32, .inl (fun _ => 0)))], [(q16, .inr (2, [.ref (a16 0), .ref (a16 1)]))], [(a16 0, .inl (G 0, 8, .inl (o2)))], [(a16 1, .inl (G 0, 8, .inl (o1)))], [(q27, .inr (7, [.int 0, .ref (a27 0), .ref (a27 1)]))], [(a27 0, .inl (G 0, 496, .inl (fun _ => 0)))], [(a27 1, .inl (G 0, 496, .inl (fun _ => 0)))], [(q40, .inl (G 0, 8, .inl (fun _ => 0)))]]) (ps := [6, 8, 7]) (qs := [0, 1, 2, 3, 4, 5, 9, 10, 11, 12]) (n := 13) hPx hN rfl hB hk rfl (x_tr (K := [[(h, .inr (4, [.ref q5, .ref q16, .ref q27, .ref q40, .int (-2)]))], [(q5, .inr (3, [.int 0, .ref (a5 0), .int 0, .ref (a5 1), .ref (a5 2), .ref (a5 3)]))], [(a5 0, .inl (G 0, 16, .inl (fun _ => 0)))], [(a5 1, .inl (G 0, 32, .inl (fun _ => 0)))], [(a5 2, .inl (G 0, 32, .inl (fun _ => 0)))], [(a5 3, .inl (G 0, 32, .inl (fun _ => 0)))], [(q27, .inr (7, [.int 0, .ref (a27 0), .ref (a27 1)]))], [(a27 0, .inl (G 0, 496, .inl (fun _ => 0)))], [(a27 1, .inl (G 0, 496, .inl (fun _ => 0)))], [(q40, .inl (G 0, 8, .inl (fun _ => 0)))]]) rfl rfl) rfl rfl (by decide)
  have hDy : va_D A (List.flatten [[(h, .inr (4, [.ref q5, .ref q16, .ref q27, .ref q40, .int (-2)]))], [(q5, .inr (3, [.int 0, .ref (a5 0), .int 0, .ref (a5 1), .ref (a5 2), .ref (a5 3)]))], [(a5 0, .inl (G 0, 16, .inl (fun _ => 0)))], [(a5 1, .inl (G 0, 32, .inl (fun _ => 0)))], [(a5 2, .inl (G 0, 32, .inl (fun _ => 0)))], [(a5 3, .inl (G 0, 32, .inl (fun _ => 0)))], [(q16, .inr (2, [.ref (a16 0), .ref (a16 1)]))], [(a16 0, .inl (G 0, 8, .inl (o2)))], [(a16 1, .inl (G 0, 8, .inl (o1)))], [(q27, .inr (7, [.int 0, .ref (a27 0), .ref (a27 1)]))], [(a27 0, .inl (G 0, 496, .inl (fun _ => 0)))], [(a27 1, .inl (G 0, 496, .inl (fun _ => 0)))], [(q40, .inl (G 0, 8, .inl (fun _ => 0)))]]) := x_D (by rw [hPy.2]; exact hN) (fun q hq => by rw [hPy.2] at hq; exact hAx q hq)
  have hP : va_P D vwCl (List.flatten [[(h, .inr (4, [.ref q5, .ref q16, .ref q27, .ref q40, .int (-2)]))], [(q5, .inr (3, [.int 0, .ref (a5 0), .int 0, .ref (a5 1), .ref (a5 2), .ref (a5 3)]))], [(a5 0, .inl (G 0, 16, .inl (fun _ => 0)))], [(a5 1, .inl (G 0, 32, .inl (fun _ => 0)))], [(a5 2, .inl (G 0, 32, .inl (fun _ => 0)))], [(a5 3, .inl (G 0, 32, .inl (fun _ => 0)))], [(q16, .inr (2, [.ref (a16 0), .ref (a16 1)]))], [(a16 0, .inl (G 0, 8, .inl (o2)))], [(a16 1, .inl (G 0, 8, .inl (o1)))], [(q27, .inr (7, [.int 0, .ref (a27 0), .ref (a27 1)]))], [(a27 0, .inl (G 0, 496, .inl (fun _ => 0)))], [(a27 1, .inl (G 0, 496, .inl (fun _ => 0)))], [(q40, .inl (G 0, 8, .inl (fun _ => 0)))]]) H1 := hPy.1
  have hD := hDy
  exact c_ret hx hb hr hlocks hsz hAe hP hD hS ⟨vv 0 [q5, a5 0, a5 1, a5 2, a5 3, q16, a16 0, a16 1, q27, a27 0, a27 1, q40], o1, o2, ho2, rfl⟩ dX4_init_58
