section LCASES
variable {p : Program} {l : Launch} {e : Env} {s : State} {m : MethodId} {below : List Frame} {meth : Method} {c : Code} {b L : Nat} {xs : Nat → Int32} {D : va_G} {G : Nat → ClassId} {aX aM : List (List Nat)} {hX : Nat → Nat} {rX : Nat → Nat → Nat} {hM : Nat → Nat} {rM : Nat → Nat → Nat} {v : Nat → Nat → Int32} {j : Nat → Nat → Int64} {w : Nat → Nat → Int32} {t : Nat → Nat → Nat → Int32} {q : Nat → Nat → Int64} {H : Heap} {locs : List Loc} {ls : Array Slot} {x3 : Int32}
set_option maxHeartbeats 4000000 in
set_option maxRecDepth 20000 in
theorem lk_removeStep (SS : LwS p s m meth c b L xs D G aX aM) (hR : Rel v j w t q) (hPX : xW D aX (IX G hX rX v j) H) (hPM : xW D aM (IM G hM rM w t q) H) (hS : va_S (fun q : Nat => s.heap.size ≤ q) s.heap H locs) (hl : lv_has ls 4 [(0, .ref b), (1, .ref (hX 0)), (2, .ref (hM 0)), (3, .int x3)]) (hi : LIn x3 L) (kk : LK p l e s m below meth c b D G aX aM hX rX hM rM 1436 ls) : W p l e room_1 s m #[Value.ref b] below meth c H locs 600000 7302249 (lw_Z below #[Value.ref b] s) (F0 m 420 ls []) := by
  obtain ⟨⟨hx, hb, hr, hml, hown, hts, hXb, hbl, hlocks, hgv⟩, hE, hNX, hNM, hd, hAX, hAM⟩ := SS
  have hown : s.vm.findClass RL = some m.cls := hown
  have htl : ∀ w ∈ wsL_law, w.before #[Value.ref b] s = true := fun w h => hts w (wsL_law_in w h)
  have hbA : ¬ (fun q : Nat => s.heap.size ≤ q) b := Nat.not_le.mpr hbl
  obtain ⟨i1, i2, i3, i4⟩ := hi
  obtain ⟨hRO, hRS, hRR, hRN, hRT, hF, hnb, hRI, hfa, hRA⟩ := hR
  obtain ⟨op, hop, hox, hom⟩ := id hRO
  obtain ⟨sn, sm, sS, sT, sL, hsp, hsx, hsm, hw⟩ := id hRS
  obtain ⟨rc, rL, rR, hrp, hrx, hrm⟩ := id hRR
  obtain ⟨lt_, hlt, htx, htm⟩ := id hRT
  obtain ⟨li, hin, hix, him⟩ := id hRI
  obtain ⟨aK, har⟩ := id hRA
  obtain ⟨o_r, o_sx', o_sm', o_lx', o_cx', o_tx', o_lm', o_cm', o_tm', o_m', o_S', o_T', o_L', e1, e2, h1, h2, h3⟩ := s_removeStep 100000 (by decide) hsp hsx hsm (xs (x3 + 1).toNatClampNeg)
  refine lv_aload_n hx hb dL_law_420 rfl (lv_at hl 1 rfl) ?_
  refine lv_aload_n hx hb dL_law_421 rfl (lv_at hl 0 rfl) ?_
  refine lv_iload_n hx hb dL_law_422 rfl (lv_at hl 3 rfl) ?_
  refine lv_iconst (v := 1) hx hb dL_law_423 (by decide) ?_
  refine lv_iadd hx hb dL_law_424 ?_
  refine va_sld hx hb hXb hbl hbA hS i1 dL_law_425 ?_
  refine l_goi (ps := [0, 4, 8, 6, 7]) (I' := IX G hX rX (pt v [4, 8, 6, 7] [pt (v 4) [2] [o_sx'], o_lx', o_cx', o_tx']) j) (x_runV (As := [.int (xs (x3 + 1).toNatClampNeg)]) (rest := []) (ps := [0, 4, 8, 6, 7]) ⟨hx, hb, hml, hown, htl⟩ (k_X11_removeStep l D G 100000 (hX 0) (hX 1) (hX 4) (hX 9) (hX 12) (hX 15) (hX 20) (hX 23) (hX 26) (hX 33) (hX 40) (hX 42) (hX 55) (hX 57) (hX 63) (hX 67) (hX 5) (hX 6) (hX 7) (hX 8) (v 0 6) (v 4 0) (v 4 2) (v 8) (v 6) (v 7) (xs (x3 + 1).toNatClampNeg) (o_r, o_lx', o_cx', o_sx', o_tx') e1) (cwV 1 htl gL_law_X11_removeStep rfl rfl rfl (by decide +kernel) ⟨Nat.le_of_ble_eq_true rfl, Nat.le_of_ble_eq_true rfl⟩) hE hPX hNX (x_m1 IX_0 (x_m1 IX_4 (x_m1 IX_8 (x_m1 IX_6 (x_m1 IX_7 rfl))))) (by decide) 0 IX_0 rfl rfl hl.1 (Nat.le_of_ble_eq_true rfl) dL_law_426 ⟨Nat.le_of_ble_eq_true rfl, Nat.le_of_ble_eq_true rfl⟩) hPX hPM hNX hd hAX hS (x_m1 IX_0 (x_m1 IX_4 (x_m1 IX_8 (x_m1 IX_6 (x_m1 IX_7 rfl))))) (x_m1 IX_0 (x_m1 IX_4 (x_m1 IX_8 (x_m1 IX_6 (x_m1 IX_7 rfl))))) (IX_c (fun k_ hk_ => pt_ne [4, 8, 6, 7] _ (fun hm_ => hk_ ((by decide : ∀ x ∈ ([4, 8, 6, 7] : List Nat), x ∈ ([0, 4, 8, 6, 7] : List Nat)) k_ hm_))) (fun _ => rfl)) (fun H locs hPX hPM hS => ?_)
  refine lv_aload_n hx hb dL_law_429 rfl (lv_at hl 2 rfl) ?_
  refine lv_aload_n hx hb dL_law_430 rfl (lv_at hl 0 rfl) ?_
  refine lv_iload_n hx hb dL_law_431 rfl (lv_at hl 3 rfl) ?_
  refine lv_iconst (v := 1) hx hb dL_law_432 (by decide) ?_
  refine lv_iadd hx hb dL_law_433 ?_
  refine va_sld hx hb hXb hbl hbA hS i1 dL_law_434 ?_
  refine l_goi (ps := [0, 7, 5, 6]) (I' := IM G hM rM (pt w [0, 7, 5, 6] [pt (w 0) [3] [o_sm'], o_lm', o_cm', o_tm']) t q) (x_runV (As := [.int (xs (x3 + 1).toNatClampNeg)]) (rest := [.int o_r]) (ps := [0, 7, 5, 6]) ⟨hx, hb, hml, hown, htl⟩ (k_X12_removeStep l D G 100000 (hM 0) (hM 1) (hM 3) (hM 5) (hM 6) (hM 7) (hM 8) (hM 9) (hM 11) (hM 13) (hM 14) (hM 16) (hM 17) (hM 18) (hM 19) (hM 20) (hM 21) (hM 23) (hM 24) (hM 26) (hM 27) (hM 28) (hM 30) (hM 31) (hM 32) (hM 33) (hM 34) (hM 35) (hM 36) (hM 38) (hM 39) (hM 40) (hM 41) (hM 42) (hM 43) (hM 45) (hM 47) (w 0 2) (w 0 3) (w 0 11) (w 0 12) (w 0 16) (w 0 18) (w 0 20) (w 0 24) (w 0 25) (w 0 28) (w 0 29) (w 0 36) (w 0 40) (w 0 41) (w 0 42) (w 0 43) (w 7) (w 5) (w 6) (xs (x3 + 1).toNatClampNeg) (o_r, o_lm', o_cm', o_sm', o_tm') e2) (cwV 1 htl gL_law_X12_removeStep rfl rfl rfl (by decide +kernel) ⟨Nat.le_of_ble_eq_true rfl, Nat.le_of_ble_eq_true rfl⟩) hE hPM hNM (x_m1 IM_0 (x_m1 IM_7 (x_m1 IM_5 (x_m1 IM_6 rfl)))) (by decide) 0 IM_0 rfl rfl hl.1 (Nat.le_of_ble_eq_true rfl) dL_law_435 ⟨Nat.le_of_ble_eq_true rfl, Nat.le_of_ble_eq_true rfl⟩) hPM hPX hNM (fun q h1 h2 => hd q h2 h1) hAM hS (x_m1 IM_0 (x_m1 IM_7 (x_m1 IM_5 (x_m1 IM_6 rfl)))) (x_m1 IM_0 (x_m1 IM_7 (x_m1 IM_5 (x_m1 IM_6 rfl)))) (IM_c (fun k_ hk_ => pt_ne [0, 7, 5, 6] _ (fun hm_ => hk_ ((by decide : ∀ x ∈ ([0, 7, 5, 6] : List Nat), x ∈ ([0, 7, 5, 6] : List Nat)) k_ hm_))) (fun _ _ => rfl) (fun _ => rfl)) (fun H locs hPM hPX hS => ?_)
  refine lv_icmp_eq (tgt := 1436) hx hb dL_law_438 (by decide) (fun _ => ?_) (fun c_ => absurd rfl c_)
  exact kk (pt v [4, 8, 6, 7] [pt (v 4) [2] [o_sx'], o_lx', o_cx', o_tx']) j (pt w [0, 7, 5, 6] [pt (w 0) [3] [o_sm'], o_lm', o_cm', o_tm']) t q H locs ⟨hRO, ⟨sn, o_m', o_S', o_T', o_L', h1, h2, h3, hw⟩, hRR, hRN, hRT, hF, hnb, hRI, hfa, hRA⟩ hPX hPM hS
set_option maxHeartbeats 4000000 in
set_option maxRecDepth 20000 in
theorem lk_setLabel (SS : LwS p s m meth c b L xs D G aX aM) (hR : Rel v j w t q) (hPX : xW D aX (IX G hX rX v j) H) (hPM : xW D aM (IM G hM rM w t q) H) (hS : va_S (fun q : Nat => s.heap.size ≤ q) s.heap H locs) (hl : lv_has ls 4 [(0, .ref b), (1, .ref (hX 0)), (2, .ref (hM 0)), (3, .int x3)]) (hi : LIn x3 L) (kk : LK p l e s m below meth c b D G aX aM hX rX hM rM 1436 ls) : W p l e room_1 s m #[Value.ref b] below meth c H locs 600000 7302249 (lw_Z below #[Value.ref b] s) (F0 m 443 ls []) := by
  obtain ⟨⟨hx, hb, hr, hml, hown, hts, hXb, hbl, hlocks, hgv⟩, hE, hNX, hNM, hd, hAX, hAM⟩ := SS
  have hown : s.vm.findClass RL = some m.cls := hown
  have htl : ∀ w ∈ wsL_law, w.before #[Value.ref b] s = true := fun w h => hts w (wsL_law_in w h)
  have hbA : ¬ (fun q : Nat => s.heap.size ≤ q) b := Nat.not_le.mpr hbl
  obtain ⟨i1, i2, i3, i4⟩ := hi
  obtain ⟨hRO, hRS, hRR, hRN, hRT, hF, hnb, hRI, hfa, hRA⟩ := hR
  obtain ⟨op, hop, hox, hom⟩ := id hRO
  obtain ⟨sn, sm, sS, sT, sL, hsp, hsx, hsm, hw⟩ := id hRS
  obtain ⟨rc, rL, rR, hrp, hrx, hrm⟩ := id hRR
  obtain ⟨lt_, hlt, htx, htm⟩ := id hRT
  obtain ⟨li, hin, hix, him⟩ := id hRI
  obtain ⟨aK, har⟩ := id hRA
  obtain ⟨o_r, o_lx', o_lm', o_L', e1, e2, h1, h2, h3⟩ := s_setLabel hsp hsx hsm (xs (x3 + 1).toNatClampNeg) (xs (x3 + 2).toNatClampNeg)
  refine lv_aload_n hx hb dL_law_443 rfl (lv_at hl 1 rfl) ?_
  refine lv_aload_n hx hb dL_law_444 rfl (lv_at hl 0 rfl) ?_
  refine lv_iload_n hx hb dL_law_445 rfl (lv_at hl 3 rfl) ?_
  refine lv_iconst (v := 1) hx hb dL_law_446 (by decide) ?_
  refine lv_iadd hx hb dL_law_447 ?_
  refine va_sld hx hb hXb hbl hbA hS i1 dL_law_448 ?_
  refine lv_aload_n hx hb dL_law_449 rfl (lv_at hl 0 rfl) ?_
  refine lv_iload_n hx hb dL_law_450 rfl (lv_at hl 3 rfl) ?_
  refine lv_iconst (v := 2) hx hb dL_law_451 (by decide) ?_
  refine lv_iadd hx hb dL_law_452 ?_
  refine va_sld hx hb hXb hbl hbA hS i2 dL_law_453 ?_
  refine l_goi (ps := [0, 4, 8]) (I' := IX G hX rX (pt v [8] [o_lx']) j) (x_runV (As := [.int (xs (x3 + 1).toNatClampNeg), .int (xs (x3 + 2).toNatClampNeg)]) (rest := []) (ps := [0, 4, 8]) ⟨hx, hb, hml, hown, htl⟩ (k_X11_setLabel l D G 100000 (hX 0) (hX 1) (hX 4) (hX 9) (hX 12) (hX 15) (hX 20) (hX 23) (hX 26) (hX 33) (hX 40) (hX 42) (hX 55) (hX 57) (hX 63) (hX 67) (hX 5) (hX 6) (hX 7) (hX 8) (v 0 6) (v 4 0) (v 4 2) (v 8) (xs (x3 + 1).toNatClampNeg) (xs (x3 + 2).toNatClampNeg) (o_r, o_lx') e1) (cwV 2 htl gL_law_X11_setLabel rfl rfl rfl (by decide +kernel) ⟨Nat.le_of_ble_eq_true rfl, Nat.le_of_ble_eq_true rfl⟩) hE hPX hNX (x_m1 IX_0 (x_m1 IX_4 (x_m1 IX_8 rfl))) (by decide) 0 IX_0 rfl rfl hl.1 (Nat.le_of_ble_eq_true rfl) dL_law_454 ⟨Nat.le_of_ble_eq_true rfl, Nat.le_of_ble_eq_true rfl⟩) hPX hPM hNX hd hAX hS (x_m1 IX_0 (x_m1 IX_4 (x_m1 IX_8 rfl))) (x_m1 IX_0 (x_m1 IX_4 (x_m1 IX_8 rfl))) (IX_c (fun k_ hk_ => pt_ne [8] _ (fun hm_ => hk_ ((by decide : ∀ x ∈ ([8] : List Nat), x ∈ ([0, 4, 8] : List Nat)) k_ hm_))) (fun _ => rfl)) (fun H locs hPX hPM hS => ?_)
  refine lv_aload_n hx hb dL_law_457 rfl (lv_at hl 2 rfl) ?_
  refine lv_aload_n hx hb dL_law_458 rfl (lv_at hl 0 rfl) ?_
  refine lv_iload_n hx hb dL_law_459 rfl (lv_at hl 3 rfl) ?_
  refine lv_iconst (v := 1) hx hb dL_law_460 (by decide) ?_
  refine lv_iadd hx hb dL_law_461 ?_
  refine va_sld hx hb hXb hbl hbA hS i1 dL_law_462 ?_
  refine lv_aload_n hx hb dL_law_463 rfl (lv_at hl 0 rfl) ?_
  refine lv_iload_n hx hb dL_law_464 rfl (lv_at hl 3 rfl) ?_
  refine lv_iconst (v := 2) hx hb dL_law_465 (by decide) ?_
  refine lv_iadd hx hb dL_law_466 ?_
  refine va_sld hx hb hXb hbl hbA hS i2 dL_law_467 ?_
  refine l_goi (ps := [0, 7]) (I' := IM G hM rM (pt w [7] [o_lm']) t q) (x_runV (As := [.int (xs (x3 + 1).toNatClampNeg), .int (xs (x3 + 2).toNatClampNeg)]) (rest := [.int o_r]) (ps := [0, 7]) ⟨hx, hb, hml, hown, htl⟩ (k_X12_setLabel l D G 100000 (hM 0) (hM 1) (hM 3) (hM 5) (hM 6) (hM 7) (hM 8) (hM 9) (hM 11) (hM 13) (hM 14) (hM 16) (hM 17) (hM 18) (hM 19) (hM 20) (hM 21) (hM 23) (hM 24) (hM 26) (hM 27) (hM 28) (hM 30) (hM 31) (hM 32) (hM 33) (hM 34) (hM 35) (hM 36) (hM 38) (hM 39) (hM 40) (hM 41) (hM 42) (hM 43) (hM 45) (hM 47) (w 0 2) (w 0 3) (w 0 11) (w 0 12) (w 0 16) (w 0 18) (w 0 20) (w 0 24) (w 0 25) (w 0 28) (w 0 29) (w 0 36) (w 0 40) (w 0 41) (w 0 42) (w 0 43) (w 7) (xs (x3 + 1).toNatClampNeg) (xs (x3 + 2).toNatClampNeg) (o_r, o_lm') e2) (cwV 2 htl gL_law_X12_setLabel rfl rfl rfl (by decide +kernel) ⟨Nat.le_of_ble_eq_true rfl, Nat.le_of_ble_eq_true rfl⟩) hE hPM hNM (x_m1 IM_0 (x_m1 IM_7 rfl)) (by decide) 0 IM_0 rfl rfl hl.1 (Nat.le_of_ble_eq_true rfl) dL_law_468 ⟨Nat.le_of_ble_eq_true rfl, Nat.le_of_ble_eq_true rfl⟩) hPM hPX hNM (fun q h1 h2 => hd q h2 h1) hAM hS (x_m1 IM_0 (x_m1 IM_7 rfl)) (x_m1 IM_0 (x_m1 IM_7 rfl)) (IM_c (fun k_ hk_ => pt_ne [7] _ (fun hm_ => hk_ ((by decide : ∀ x ∈ ([7] : List Nat), x ∈ ([0, 7] : List Nat)) k_ hm_))) (fun _ _ => rfl) (fun _ => rfl)) (fun H locs hPM hPX hS => ?_)
  refine lv_icmp_eq (tgt := 1436) hx hb dL_law_471 (by decide) (fun _ => ?_) (fun c_ => absurd rfl c_)
  exact kk (pt v [8] [o_lx']) j (pt w [7] [o_lm']) t q H locs ⟨hRO, ⟨sn, sm, sS, sT, o_L', h1, h2, h3, hw⟩, hRR, hRN, hRT, hF, hnb, hRI, hfa, hRA⟩ hPX hPM hS
set_option maxHeartbeats 4000000 in
set_option maxRecDepth 20000 in
theorem lk_clearSystem (SS : LwS p s m meth c b L xs D G aX aM) (hR : Rel v j w t q) (hPX : xW D aX (IX G hX rX v j) H) (hPM : xW D aM (IM G hM rM w t q) H) (hS : va_S (fun q : Nat => s.heap.size ≤ q) s.heap H locs) (hl : lv_has ls 4 [(0, .ref b), (1, .ref (hX 0)), (2, .ref (hM 0)), (3, .int x3)]) (hi : LIn x3 L) (kk : LK p l e s m below meth c b D G aX aM hX rX hM rM 1436 ls) : W p l e room_1 s m #[Value.ref b] below meth c H locs 600000 7302249 (lw_Z below #[Value.ref b] s) (F0 m 476 ls []) := by
  obtain ⟨⟨hx, hb, hr, hml, hown, hts, hXb, hbl, hlocks, hgv⟩, hE, hNX, hNM, hd, hAX, hAM⟩ := SS
  have hown : s.vm.findClass RL = some m.cls := hown
  have htl : ∀ w ∈ wsL_law, w.before #[Value.ref b] s = true := fun w h => hts w (wsL_law_in w h)
  have hbA : ¬ (fun q : Nat => s.heap.size ≤ q) b := Nat.not_le.mpr hbl
  obtain ⟨hRO, hRS, hRR, hRN, hRT, hF, hnb, hRI, hfa, hRA⟩ := hR
  obtain ⟨op, hop, hox, hom⟩ := id hRO
  obtain ⟨sn, sm, sS, sT, sL, hsp, hsx, hsm, hw⟩ := id hRS
  obtain ⟨rc, rL, rR, hrp, hrx, hrm⟩ := id hRR
  obtain ⟨lt_, hlt, htx, htm⟩ := id hRT
  obtain ⟨li, hin, hix, him⟩ := id hRI
  obtain ⟨aK, har⟩ := id hRA
  obtain ⟨o_r, o_ox', o_sx', o_om', o_sm', e1, e2, h1, h2, h3, h4⟩ := s_clearSystem hsx hsm (v 5) (w 8) (t 10)
  refine lv_aload_n hx hb dL_law_476 rfl (lv_at hl 1 rfl) ?_
  refine l_goi (ps := [0, 4]) (I' := IX G hX rX (pt v [4] [pt (v 4) [0, 2] [o_ox', o_sx']]) j) (x_runV (As := []) (rest := []) (ps := [0, 4]) ⟨hx, hb, hml, hown, htl⟩ (k_X11_clearSystem l D G 100000 (hX 0) (hX 1) (hX 4) (hX 9) (hX 12) (hX 15) (hX 20) (hX 23) (hX 26) (hX 33) (hX 40) (hX 42) (hX 55) (hX 57) (hX 63) (hX 67) (hX 5) (hX 6) (hX 7) (hX 8) (v 0 6) (v 4 0) (v 4 2) (o_r, o_ox', o_sx') e1) (cwV 0 htl gL_law_X11_clearSystem rfl rfl rfl (by decide +kernel) ⟨Nat.le_of_ble_eq_true rfl, Nat.le_of_ble_eq_true rfl⟩) hE hPX hNX (x_m1 IX_0 (x_m1 IX_4 rfl)) (by decide) 0 IX_0 rfl rfl hl.1 (Nat.le_of_ble_eq_true rfl) dL_law_477 ⟨Nat.le_of_ble_eq_true rfl, Nat.le_of_ble_eq_true rfl⟩) hPX hPM hNX hd hAX hS (x_m1 IX_0 (x_m1 IX_4 rfl)) (x_m1 IX_0 (x_m1 IX_4 rfl)) (IX_c (fun k_ hk_ => pt_ne [4] _ (fun hm_ => hk_ ((by decide : ∀ x ∈ ([4] : List Nat), x ∈ ([0, 4] : List Nat)) k_ hm_))) (fun _ => rfl)) (fun H locs hPX hPM hS => ?_)
  refine lv_aload_n hx hb dL_law_480 rfl (lv_at hl 2 rfl) ?_
  refine l_goi (ps := [0]) (I' := IM G hM rM (pt w [0] [pt (w 0) [2, 3] [o_om', o_sm']]) t q) (x_runV (As := []) (rest := [.int o_r]) (ps := [0]) ⟨hx, hb, hml, hown, htl⟩ (k_X12_clearSystem l D G 100000 (hM 0) (hM 1) (hM 3) (hM 5) (hM 6) (hM 7) (hM 8) (hM 9) (hM 11) (hM 13) (hM 14) (hM 16) (hM 17) (hM 18) (hM 19) (hM 20) (hM 21) (hM 23) (hM 24) (hM 26) (hM 27) (hM 28) (hM 30) (hM 31) (hM 32) (hM 33) (hM 34) (hM 35) (hM 36) (hM 38) (hM 39) (hM 40) (hM 41) (hM 42) (hM 43) (hM 45) (hM 47) (w 0 2) (w 0 3) (w 0 11) (w 0 12) (w 0 16) (w 0 18) (w 0 20) (w 0 24) (w 0 25) (w 0 28) (w 0 29) (w 0 36) (w 0 40) (w 0 41) (w 0 42) (w 0 43) (o_r, o_om', o_sm') e2) (cwV 0 htl gL_law_X12_clearSystem rfl rfl rfl (by decide +kernel) ⟨Nat.le_of_ble_eq_true rfl, Nat.le_of_ble_eq_true rfl⟩) hE hPM hNM (x_m1 IM_0 rfl) (by decide) 0 IM_0 rfl rfl hl.1 (Nat.le_of_ble_eq_true rfl) dL_law_481 ⟨Nat.le_of_ble_eq_true rfl, Nat.le_of_ble_eq_true rfl⟩) hPM hPX hNM (fun q h1 h2 => hd q h2 h1) hAM hS (x_m1 IM_0 rfl) (x_m1 IM_0 rfl) (IM_c (fun k_ hk_ => pt_ne [0] _ (fun hm_ => hk_ ((by decide : ∀ x ∈ ([0] : List Nat), x ∈ ([0] : List Nat)) k_ hm_))) (fun _ _ => rfl) (fun _ => rfl)) (fun H locs hPM hPX hS => ?_)
  refine lv_icmp_eq (tgt := 1436) hx hb dL_law_484 (by decide) (fun _ => ?_) (fun c_ => absurd rfl c_)
  exact kk (pt v [4] [pt (v 4) [0, 2] [o_ox', o_sx']]) j (pt w [0] [pt (w 0) [2, 3] [o_om', o_sm']]) t q H locs ⟨hRO, ⟨0, 0, sS, sT, sL, h1, h2, h3, h4⟩, hRR, hRN, hRT, hF, hnb, hRI, hfa, hRA⟩ hPX hPM hS
set_option maxHeartbeats 4000000 in
set_option maxRecDepth 20000 in
theorem lk_objectCount (SS : LwS p s m meth c b L xs D G aX aM) (hR : Rel v j w t q) (hPX : xW D aX (IX G hX rX v j) H) (hPM : xW D aM (IM G hM rM w t q) H) (hS : va_S (fun q : Nat => s.heap.size ≤ q) s.heap H locs) (hl : lv_has ls 4 [(0, .ref b), (1, .ref (hX 0)), (2, .ref (hM 0)), (3, .int x3)]) (hi : LIn x3 L) (kk : LK p l e s m below meth c b D G aX aM hX rX hM rM 1436 ls) : W p l e room_1 s m #[Value.ref b] below meth c H locs 600000 7302249 (lw_Z below #[Value.ref b] s) (F0 m 489 ls []) := by
  obtain ⟨⟨hx, hb, hr, hml, hown, hts, hXb, hbl, hlocks, hgv⟩, hE, hNX, hNM, hd, hAX, hAM⟩ := SS
  have hown : s.vm.findClass RL = some m.cls := hown
  have htl : ∀ w ∈ wsL_law, w.before #[Value.ref b] s = true := fun w h => hts w (wsL_law_in w h)
  have hbA : ¬ (fun q : Nat => s.heap.size ≤ q) b := Nat.not_le.mpr hbl
  obtain ⟨hRO, hRS, hRR, hRN, hRT, hF, hnb, hRI, hfa, hRA⟩ := hR
  obtain ⟨op, hop, hox, hom⟩ := id hRO
  obtain ⟨sn, sm, sS, sT, sL, hsp, hsx, hsm, hw⟩ := id hRS
  obtain ⟨rc, rL, rR, hrp, hrx, hrm⟩ := id hRR
  obtain ⟨lt_, hlt, htx, htm⟩ := id hRT
  obtain ⟨li, hin, hix, him⟩ := id hRI
  obtain ⟨aK, har⟩ := id hRA
  obtain ⟨o_r, e1, e2⟩ := s_objectCount hsx hsm
  refine lv_aload_n hx hb dL_law_489 rfl (lv_at hl 1 rfl) ?_
  refine l_goi (ps := [0, 4]) (I' := IX G hX rX v j) (x_runV (As := []) (rest := []) (ps := [0, 4]) ⟨hx, hb, hml, hown, htl⟩ (k_X11_objectCount l D G 100000 (hX 0) (hX 1) (hX 4) (hX 9) (hX 12) (hX 15) (hX 20) (hX 23) (hX 26) (hX 33) (hX 40) (hX 42) (hX 55) (hX 57) (hX 63) (hX 67) (hX 5) (hX 6) (hX 7) (hX 8) (v 0 6) (v 4 0) (v 4 2) o_r e1) (cwV 0 htl gL_law_X11_objectCount rfl rfl rfl (by decide +kernel) ⟨Nat.le_of_ble_eq_true rfl, Nat.le_of_ble_eq_true rfl⟩) hE hPX hNX (x_m1 IX_0 (x_m1 IX_4 rfl)) (by decide) 0 IX_0 rfl rfl hl.1 (Nat.le_of_ble_eq_true rfl) dL_law_490 ⟨Nat.le_of_ble_eq_true rfl, Nat.le_of_ble_eq_true rfl⟩) hPX hPM hNX hd hAX hS (x_m1 IX_0 (x_m1 IX_4 rfl)) (x_m1 IX_0 (x_m1 IX_4 rfl)) (IX_c (fun _ _ => rfl) (fun _ => rfl)) (fun H locs hPX hPM hS => ?_)
  refine lv_aload_n hx hb dL_law_493 rfl (lv_at hl 2 rfl) ?_
  refine l_goi (ps := [0]) (I' := IM G hM rM w t q) (x_runV (As := []) (rest := [.int o_r]) (ps := [0]) ⟨hx, hb, hml, hown, htl⟩ (k_X12_objectCount l D G 100000 (hM 0) (hM 1) (hM 3) (hM 5) (hM 6) (hM 7) (hM 8) (hM 9) (hM 11) (hM 13) (hM 14) (hM 16) (hM 17) (hM 18) (hM 19) (hM 20) (hM 21) (hM 23) (hM 24) (hM 26) (hM 27) (hM 28) (hM 30) (hM 31) (hM 32) (hM 33) (hM 34) (hM 35) (hM 36) (hM 38) (hM 39) (hM 40) (hM 41) (hM 42) (hM 43) (hM 45) (hM 47) (w 0 2) (w 0 3) (w 0 11) (w 0 12) (w 0 16) (w 0 18) (w 0 20) (w 0 24) (w 0 25) (w 0 28) (w 0 29) (w 0 36) (w 0 40) (w 0 41) (w 0 42) (w 0 43) o_r e2) (cwV 0 htl gL_law_X12_objectCount rfl rfl rfl (by decide +kernel) ⟨Nat.le_of_ble_eq_true rfl, Nat.le_of_ble_eq_true rfl⟩) hE hPM hNM (x_m1 IM_0 rfl) (by decide) 0 IM_0 rfl rfl hl.1 (Nat.le_of_ble_eq_true rfl) dL_law_494 ⟨Nat.le_of_ble_eq_true rfl, Nat.le_of_ble_eq_true rfl⟩) hPM hPX hNM (fun q h1 h2 => hd q h2 h1) hAM hS (x_m1 IM_0 rfl) (x_m1 IM_0 rfl) (IM_c (fun _ _ => rfl) (fun _ _ => rfl) (fun _ => rfl)) (fun H locs hPM hPX hS => ?_)
  refine lv_icmp_eq (tgt := 1436) hx hb dL_law_497 (by decide) (fun _ => ?_) (fun c_ => absurd rfl c_)
  exact kk v j w t q H locs ⟨hRO, hRS, hRR, hRN, hRT, hF, hnb, hRI, hfa, hRA⟩ hPX hPM hS
set_option maxHeartbeats 4000000 in
set_option maxRecDepth 20000 in
theorem lk_stepCount (SS : LwS p s m meth c b L xs D G aX aM) (hR : Rel v j w t q) (hPX : xW D aX (IX G hX rX v j) H) (hPM : xW D aM (IM G hM rM w t q) H) (hS : va_S (fun q : Nat => s.heap.size ≤ q) s.heap H locs) (hl : lv_has ls 4 [(0, .ref b), (1, .ref (hX 0)), (2, .ref (hM 0)), (3, .int x3)]) (hi : LIn x3 L) (kk : LK p l e s m below meth c b D G aX aM hX rX hM rM 1436 ls) : W p l e room_1 s m #[Value.ref b] below meth c H locs 600000 7302249 (lw_Z below #[Value.ref b] s) (F0 m 502 ls []) := by
  obtain ⟨⟨hx, hb, hr, hml, hown, hts, hXb, hbl, hlocks, hgv⟩, hE, hNX, hNM, hd, hAX, hAM⟩ := SS
  have hown : s.vm.findClass RL = some m.cls := hown
  have htl : ∀ w ∈ wsL_law, w.before #[Value.ref b] s = true := fun w h => hts w (wsL_law_in w h)
  have hbA : ¬ (fun q : Nat => s.heap.size ≤ q) b := Nat.not_le.mpr hbl
  obtain ⟨hRO, hRS, hRR, hRN, hRT, hF, hnb, hRI, hfa, hRA⟩ := hR
  obtain ⟨op, hop, hox, hom⟩ := id hRO
  obtain ⟨sn, sm, sS, sT, sL, hsp, hsx, hsm, hw⟩ := id hRS
  obtain ⟨rc, rL, rR, hrp, hrx, hrm⟩ := id hRR
  obtain ⟨lt_, hlt, htx, htm⟩ := id hRT
  obtain ⟨li, hin, hix, him⟩ := id hRI
  obtain ⟨aK, har⟩ := id hRA
  obtain ⟨o_r, e1, e2⟩ := s_stepCount hsx hsm
  refine lv_aload_n hx hb dL_law_502 rfl (lv_at hl 1 rfl) ?_
  refine l_goi (ps := [0, 4]) (I' := IX G hX rX v j) (x_runV (As := []) (rest := []) (ps := [0, 4]) ⟨hx, hb, hml, hown, htl⟩ (k_X11_stepCount l D G 100000 (hX 0) (hX 1) (hX 4) (hX 9) (hX 12) (hX 15) (hX 20) (hX 23) (hX 26) (hX 33) (hX 40) (hX 42) (hX 55) (hX 57) (hX 63) (hX 67) (hX 5) (hX 6) (hX 7) (hX 8) (v 0 6) (v 4 0) (v 4 2) o_r e1) (cwV 0 htl gL_law_X11_stepCount rfl rfl rfl (by decide +kernel) ⟨Nat.le_of_ble_eq_true rfl, Nat.le_of_ble_eq_true rfl⟩) hE hPX hNX (x_m1 IX_0 (x_m1 IX_4 rfl)) (by decide) 0 IX_0 rfl rfl hl.1 (Nat.le_of_ble_eq_true rfl) dL_law_503 ⟨Nat.le_of_ble_eq_true rfl, Nat.le_of_ble_eq_true rfl⟩) hPX hPM hNX hd hAX hS (x_m1 IX_0 (x_m1 IX_4 rfl)) (x_m1 IX_0 (x_m1 IX_4 rfl)) (IX_c (fun _ _ => rfl) (fun _ => rfl)) (fun H locs hPX hPM hS => ?_)
  refine lv_aload_n hx hb dL_law_506 rfl (lv_at hl 2 rfl) ?_
  refine l_goi (ps := [0]) (I' := IM G hM rM w t q) (x_runV (As := []) (rest := [.int o_r]) (ps := [0]) ⟨hx, hb, hml, hown, htl⟩ (k_X12_stepCount l D G 100000 (hM 0) (hM 1) (hM 3) (hM 5) (hM 6) (hM 7) (hM 8) (hM 9) (hM 11) (hM 13) (hM 14) (hM 16) (hM 17) (hM 18) (hM 19) (hM 20) (hM 21) (hM 23) (hM 24) (hM 26) (hM 27) (hM 28) (hM 30) (hM 31) (hM 32) (hM 33) (hM 34) (hM 35) (hM 36) (hM 38) (hM 39) (hM 40) (hM 41) (hM 42) (hM 43) (hM 45) (hM 47) (w 0 2) (w 0 3) (w 0 11) (w 0 12) (w 0 16) (w 0 18) (w 0 20) (w 0 24) (w 0 25) (w 0 28) (w 0 29) (w 0 36) (w 0 40) (w 0 41) (w 0 42) (w 0 43) o_r e2) (cwV 0 htl gL_law_X12_stepCount rfl rfl rfl (by decide +kernel) ⟨Nat.le_of_ble_eq_true rfl, Nat.le_of_ble_eq_true rfl⟩) hE hPM hNM (x_m1 IM_0 rfl) (by decide) 0 IM_0 rfl rfl hl.1 (Nat.le_of_ble_eq_true rfl) dL_law_507 ⟨Nat.le_of_ble_eq_true rfl, Nat.le_of_ble_eq_true rfl⟩) hPM hPX hNM (fun q h1 h2 => hd q h2 h1) hAM hS (x_m1 IM_0 rfl) (x_m1 IM_0 rfl) (IM_c (fun _ _ => rfl) (fun _ _ => rfl) (fun _ => rfl)) (fun H locs hPM hPX hS => ?_)
  refine lv_icmp_eq (tgt := 1436) hx hb dL_law_510 (by decide) (fun _ => ?_) (fun c_ => absurd rfl c_)
  exact kk v j w t q H locs ⟨hRO, hRS, hRR, hRN, hRT, hF, hnb, hRI, hfa, hRA⟩ hPX hPM hS
set_option maxHeartbeats 4000000 in
set_option maxRecDepth 20000 in
theorem lk_source (SS : LwS p s m meth c b L xs D G aX aM) (hR : Rel v j w t q) (hPX : xW D aX (IX G hX rX v j) H) (hPM : xW D aM (IM G hM rM w t q) H) (hS : va_S (fun q : Nat => s.heap.size ≤ q) s.heap H locs) (hl : lv_has ls 4 [(0, .ref b), (1, .ref (hX 0)), (2, .ref (hM 0)), (3, .int x3)]) (hi : LIn x3 L) (kk : LK p l e s m below meth c b D G aX aM hX rX hM rM 1436 ls) : W p l e room_1 s m #[Value.ref b] below meth c H locs 600000 7302249 (lw_Z below #[Value.ref b] s) (F0 m 515 ls []) := by
  obtain ⟨⟨hx, hb, hr, hml, hown, hts, hXb, hbl, hlocks, hgv⟩, hE, hNX, hNM, hd, hAX, hAM⟩ := SS
  have hown : s.vm.findClass RL = some m.cls := hown
  have htl : ∀ w ∈ wsL_law, w.before #[Value.ref b] s = true := fun w h => hts w (wsL_law_in w h)
  have hbA : ¬ (fun q : Nat => s.heap.size ≤ q) b := Nat.not_le.mpr hbl
  obtain ⟨i1, i2, i3, i4⟩ := hi
  obtain ⟨hRO, hRS, hRR, hRN, hRT, hF, hnb, hRI, hfa, hRA⟩ := hR
  obtain ⟨op, hop, hox, hom⟩ := id hRO
  obtain ⟨sn, sm, sS, sT, sL, hsp, hsx, hsm, hw⟩ := id hRS
  obtain ⟨rc, rL, rR, hrp, hrx, hrm⟩ := id hRR
  obtain ⟨lt_, hlt, htx, htm⟩ := id hRT
  obtain ⟨li, hin, hix, him⟩ := id hRI
  obtain ⟨aK, har⟩ := id hRA
  obtain ⟨o_r, e1, e2⟩ := s_source hsp hsx hsm (xs (x3 + 1).toNatClampNeg)
  refine lv_aload_n hx hb dL_law_515 rfl (lv_at hl 1 rfl) ?_
  refine lv_aload_n hx hb dL_law_516 rfl (lv_at hl 0 rfl) ?_
  refine lv_iload_n hx hb dL_law_517 rfl (lv_at hl 3 rfl) ?_
  refine lv_iconst (v := 1) hx hb dL_law_518 (by decide) ?_
  refine lv_iadd hx hb dL_law_519 ?_
  refine va_sld hx hb hXb hbl hbA hS i1 dL_law_520 ?_
  refine l_goi (ps := [0, 4, 6]) (I' := IX G hX rX v j) (x_runV (As := [.int (xs (x3 + 1).toNatClampNeg)]) (rest := []) (ps := [0, 4, 6]) ⟨hx, hb, hml, hown, htl⟩ (k_X11_source l D G 100000 (hX 0) (hX 1) (hX 4) (hX 9) (hX 12) (hX 15) (hX 20) (hX 23) (hX 26) (hX 33) (hX 40) (hX 42) (hX 55) (hX 57) (hX 63) (hX 67) (hX 5) (hX 6) (hX 7) (hX 8) (v 0 6) (v 4 0) (v 4 2) (v 6) (xs (x3 + 1).toNatClampNeg) o_r e1) (cwV 1 htl gL_law_X11_source rfl rfl rfl (by decide +kernel) ⟨Nat.le_of_ble_eq_true rfl, Nat.le_of_ble_eq_true rfl⟩) hE hPX hNX (x_m1 IX_0 (x_m1 IX_4 (x_m1 IX_6 rfl))) (by decide) 0 IX_0 rfl rfl hl.1 (Nat.le_of_ble_eq_true rfl) dL_law_521 ⟨Nat.le_of_ble_eq_true rfl, Nat.le_of_ble_eq_true rfl⟩) hPX hPM hNX hd hAX hS (x_m1 IX_0 (x_m1 IX_4 (x_m1 IX_6 rfl))) (x_m1 IX_0 (x_m1 IX_4 (x_m1 IX_6 rfl))) (IX_c (fun _ _ => rfl) (fun _ => rfl)) (fun H locs hPX hPM hS => ?_)
  refine lv_aload_n hx hb dL_law_524 rfl (lv_at hl 2 rfl) ?_
  refine lv_aload_n hx hb dL_law_525 rfl (lv_at hl 0 rfl) ?_
  refine lv_iload_n hx hb dL_law_526 rfl (lv_at hl 3 rfl) ?_
  refine lv_iconst (v := 1) hx hb dL_law_527 (by decide) ?_
  refine lv_iadd hx hb dL_law_528 ?_
  refine va_sld hx hb hXb hbl hbA hS i1 dL_law_529 ?_
  refine l_goi (ps := [0, 5]) (I' := IM G hM rM w t q) (x_runV (As := [.int (xs (x3 + 1).toNatClampNeg)]) (rest := [.int o_r]) (ps := [0, 5]) ⟨hx, hb, hml, hown, htl⟩ (k_X12_source l D G 100000 (hM 0) (hM 1) (hM 3) (hM 5) (hM 6) (hM 7) (hM 8) (hM 9) (hM 11) (hM 13) (hM 14) (hM 16) (hM 17) (hM 18) (hM 19) (hM 20) (hM 21) (hM 23) (hM 24) (hM 26) (hM 27) (hM 28) (hM 30) (hM 31) (hM 32) (hM 33) (hM 34) (hM 35) (hM 36) (hM 38) (hM 39) (hM 40) (hM 41) (hM 42) (hM 43) (hM 45) (hM 47) (w 0 2) (w 0 3) (w 0 11) (w 0 12) (w 0 16) (w 0 18) (w 0 20) (w 0 24) (w 0 25) (w 0 28) (w 0 29) (w 0 36) (w 0 40) (w 0 41) (w 0 42) (w 0 43) (w 5) (xs (x3 + 1).toNatClampNeg) o_r e2) (cwV 1 htl gL_law_X12_source rfl rfl rfl (by decide +kernel) ⟨Nat.le_of_ble_eq_true rfl, Nat.le_of_ble_eq_true rfl⟩) hE hPM hNM (x_m1 IM_0 (x_m1 IM_5 rfl)) (by decide) 0 IM_0 rfl rfl hl.1 (Nat.le_of_ble_eq_true rfl) dL_law_530 ⟨Nat.le_of_ble_eq_true rfl, Nat.le_of_ble_eq_true rfl⟩) hPM hPX hNM (fun q h1 h2 => hd q h2 h1) hAM hS (x_m1 IM_0 (x_m1 IM_5 rfl)) (x_m1 IM_0 (x_m1 IM_5 rfl)) (IM_c (fun _ _ => rfl) (fun _ _ => rfl) (fun _ => rfl)) (fun H locs hPM hPX hS => ?_)
  refine lv_icmp_eq (tgt := 1436) hx hb dL_law_533 (by decide) (fun _ => ?_) (fun c_ => absurd rfl c_)
  exact kk v j w t q H locs ⟨hRO, hRS, hRR, hRN, hRT, hF, hnb, hRI, hfa, hRA⟩ hPX hPM hS
end LCASES
