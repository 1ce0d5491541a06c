section LCASES
variable {p : Program} {l : Launch} {e : Env} {s : State} {m : MethodId} {below : List Frame} {meth : Method} {c : Code} {b L : Nat} {xs : Nat → Int32} {D : va_G} {G : Nat → ClassId} {aX aM : List (List Nat)} {hX : Nat → Nat} {rX : Nat → Nat → Nat} {hM : Nat → Nat} {rM : Nat → Nat → Nat} {v : Nat → Nat → Int32} {j : Nat → Nat → Int64} {w : Nat → Nat → Int32} {t : Nat → Nat → Nat → Int32} {q : Nat → Nat → Int64} {H : Heap} {locs : List Loc} {ls : Array Slot} {x3 : Int32}
set_option maxHeartbeats 4000000 in
set_option maxRecDepth 20000 in
theorem lk_applyLabelling (SS : LwS p s m meth c b L xs D G aX aM) (hR : Rel v j w t q) (hPX : xW D aX (IX G hX rX v j) H) (hPM : xW D aM (IM G hM rM w t q) H) (hS : va_S (fun q : Nat => s.heap.size ≤ q) s.heap H locs) (hl : lv_has ls 4 [(0, .ref b), (1, .ref (hX 0)), (2, .ref (hM 0)), (3, .int x3)]) (hi : LIn x3 L) (kk : LK p l e s m below meth c b D G aX aM hX rX hM rM 1436 ls) : W p l e room_1 s m #[Value.ref b] below meth c H locs 600000 7302249 (lw_Z below #[Value.ref b] s) (F0 m 1070 ls []) := by
  obtain ⟨⟨hx, hb, hr, hml, hown, hts, hXb, hbl, hlocks, hgv⟩, hE, hNX, hNM, hd, hAX, hAM⟩ := SS
  have hown : s.vm.findClass RL = some m.cls := hown
  have htl : ∀ w ∈ wsL_law, w.before #[Value.ref b] s = true := fun w h => hts w (wsL_law_in w h)
  have hbA : ¬ (fun q : Nat => s.heap.size ≤ q) b := Nat.not_le.mpr hbl
  obtain ⟨hRO, hRS, hRR, hRN, hRT, hF, hnb, hRI, hfa, hRA⟩ := hR
  obtain ⟨op, hop, hox, hom⟩ := id hRO
  obtain ⟨sn, sm, sS, sT, sL, hsp, hsx, hsm, hw⟩ := id hRS
  obtain ⟨rc, rL, rR, hrp, hrx, hrm⟩ := id hRR
  obtain ⟨lt_, hlt, htx, htm⟩ := id hRT
  obtain ⟨li, hin, hix, him⟩ := id hRI
  obtain ⟨aK, har⟩ := id hRA
  obtain ⟨o_r, o_b', o_p', o_l', o_a', o_q', o_lm', o_L', o_pp, e1, e2, h1, h2, h3, h4, h5, h6⟩ := s_applyLabelling 100000 (by decide) hsp hsx hsm hop hox hom hF
  refine lv_aload_n hx hb dL_law_1070 rfl (lv_at hl 1 rfl) ?_
  refine l_goi (ps := [0, 42, 54, 1, 3, 2, 4, 8]) (I' := IX G hX rX (pt v [3, 2, 8] [o_b', o_p', o_l']) j) (x_runV (As := []) (rest := []) (ps := [0, 42, 54, 1, 3, 2, 4, 8]) ⟨hx, hb, hml, hown, htl⟩ (k_X11_applyLabelling l D G 100000 (hX 0) (hX 1) (hX 4) (hX 9) (hX 12) (hX 15) (hX 20) (hX 23) (hX 26) (hX 33) (hX 40) (hX 42) (hX 55) (hX 57) (hX 63) (hX 67) (hX 43) (hX 48) (hX 51) (hX 54) (hX 2) (hX 3) (hX 5) (hX 6) (hX 7) (hX 8) (v 0 6) (v 42 4) (v 4 0) (v 4 2) (v 54) (v 3) (v 2) (v 8) (o_r, o_b', o_p', o_l') e1) (cwV 0 htl gL_law_X11_applyLabelling rfl rfl rfl (by decide +kernel) ⟨Nat.le_of_ble_eq_true rfl, Nat.le_of_ble_eq_true rfl⟩) hE hPX hNX (x_m1 IX_0 (x_m1 IX_42 (x_m1 IX_54 (x_m1 IX_1 (x_m1 IX_3 (x_m1 IX_2 (x_m1 IX_4 (x_m1 IX_8 rfl)))))))) (by decide) 0 IX_0 rfl rfl hl.1 (Nat.le_of_ble_eq_true rfl) dL_law_1071 ⟨Nat.le_of_ble_eq_true rfl, Nat.le_of_ble_eq_true rfl⟩) hPX hPM hNX hd hAX hS (x_m1 IX_0 (x_m1 IX_42 (x_m1 IX_54 (x_m1 IX_1 (x_m1 IX_3 (x_m1 IX_2 (x_m1 IX_4 (x_m1 IX_8 rfl)))))))) (x_m1 IX_0 (x_m1 IX_42 (x_m1 IX_54 (x_m1 IX_1 (x_m1 IX_3 (x_m1 IX_2 (x_m1 IX_4 (x_m1 IX_8 rfl)))))))) (IX_c (fun k_ hk_ => pt_ne [3, 2, 8] _ (fun hm_ => hk_ ((by decide : ∀ x ∈ ([3, 2, 8] : List Nat), x ∈ ([0, 42, 54, 1, 3, 2, 4, 8] : List Nat)) k_ hm_))) (fun _ => rfl)) (fun H locs hPX hPM hS => ?_)
  refine lv_aload_n hx hb dL_law_1074 rfl (lv_at hl 2 rfl) ?_
  refine l_goi (ps := [0, 3, 4, 19, 7, 1, 2]) (I' := IM G hM rM (pt w [7] [o_lm']) (pt t [4, 2] [o_a', o_q']) q) (x_runV (As := []) (rest := [.int o_r]) (ps := [0, 3, 4, 19, 7, 1, 2]) ⟨hx, hb, hml, hown, htl⟩ (k_X12_applyLabelling l D G 100000 (hM 0) (hM 1) (hM 3) (hM 5) (hM 6) (hM 7) (hM 8) (hM 9) (hM 11) (hM 13) (hM 14) (hM 16) (hM 17) (hM 18) (hM 19) (hM 20) (hM 21) (hM 23) (hM 24) (hM 26) (hM 27) (hM 28) (hM 30) (hM 31) (hM 32) (hM 33) (hM 34) (hM 35) (hM 36) (hM 38) (hM 39) (hM 40) (hM 41) (hM 42) (hM 43) (hM 45) (hM 47) (rM 3) (rM 1) (w 0 2) (w 0 3) (w 0 11) (w 0 12) (w 0 16) (w 0 18) (w 0 20) (w 0 24) (w 0 25) (w 0 28) (w 0 29) (w 0 36) (w 0 40) (w 0 41) (w 0 42) (w 0 43) (t 4) (w 19) (w 7) (t 2) (o_r, o_a', o_lm', o_q') e2) (cwV 0 htl gL_law_X12_applyLabelling rfl rfl rfl (by decide +kernel) ⟨Nat.le_of_ble_eq_true rfl, Nat.le_of_ble_eq_true rfl⟩) hE hPM hNM (x_m1 IM_0 (x_m1 IM_3 (x_m1 IM_4 (x_m1 IM_19 (x_m1 IM_7 (x_m1 IM_1 (x_m1 IM_2 rfl))))))) (by decide) 0 IM_0 rfl rfl hl.1 (Nat.le_of_ble_eq_true rfl) dL_law_1075 ⟨Nat.le_of_ble_eq_true rfl, Nat.le_of_ble_eq_true rfl⟩) hPM hPX hNM (fun q h1 h2 => hd q h2 h1) hAM hS (x_m1 IM_0 (x_m1 IM_3 (x_m1 IM_4 (x_m1 IM_19 (x_m1 IM_7 (x_m1 IM_1 (x_m1 IM_2 rfl))))))) (x_m1 IM_0 (x_m1 IM_3 (x_m1 IM_4 (x_m1 IM_19 (x_m1 IM_7 (x_m1 IM_1 (x_m1 IM_2 rfl))))))) (IM_c (fun k_ hk_ => pt_ne [7] _ (fun hm_ => hk_ ((by decide : ∀ x ∈ ([7] : List Nat), x ∈ ([0, 3, 4, 19, 7, 1, 2] : List Nat)) k_ hm_))) (fun k_ hk_ => pt_ne [4, 2] _ (fun hm_ => hk_ ((by decide : ∀ x ∈ ([4, 2] : List Nat), x ∈ ([0, 3, 4, 19, 7, 1, 2] : List Nat)) k_ hm_))) (fun _ => rfl)) (fun H locs hPM hPX hS => ?_)
  refine lv_icmp_eq (tgt := 1436) hx hb dL_law_1078 (by decide) (fun _ => ?_) (fun c_ => absurd rfl c_)
  exact kk (pt v [3, 2, 8] [o_b', o_p', o_l']) j (pt w [7] [o_lm']) (pt t [4, 2] [o_a', o_q']) q H locs ⟨⟨o_pp, h4, h5, h6⟩, ⟨sn, sm, sS, sT, o_L', h1, h2, h3, hw⟩, hRR, hRN, hRT, hF, hnb, hRI, hfa, hRA⟩ hPX hPM hS
set_option maxHeartbeats 4000000 in
set_option maxRecDepth 20000 in
theorem lk_feed (SS : LwS p s m meth c b L xs D G aX aM) (hR : Rel v j w t q) (hPX : xW D aX (IX G hX rX v j) H) (hPM : xW D aM (IM G hM rM w t q) H) (hS : va_S (fun q : Nat => s.heap.size ≤ q) s.heap H locs) (hl : lv_has ls 4 [(0, .ref b), (1, .ref (hX 0)), (2, .ref (hM 0)), (3, .int x3)]) (hi : LIn x3 L) (kk : LK p l e s m below meth c b D G aX aM hX rX hM rM 1436 ls) : W p l e room_1 s m #[Value.ref b] below meth c H locs 600000 7302249 (lw_Z below #[Value.ref b] s) (F0 m 1083 ls []) := by
  obtain ⟨⟨hx, hb, hr, hml, hown, hts, hXb, hbl, hlocks, hgv⟩, hE, hNX, hNM, hd, hAX, hAM⟩ := SS
  have hown : s.vm.findClass RL = some m.cls := hown
  have htl : ∀ w ∈ wsL_law, w.before #[Value.ref b] s = true := fun w h => hts w (wsL_law_in w h)
  have hbA : ¬ (fun q : Nat => s.heap.size ≤ q) b := Nat.not_le.mpr hbl
  obtain ⟨i1, i2, i3, i4⟩ := hi
  obtain ⟨hRO, hRS, hRR, hRN, hRT, hF, hnb, hRI, hfa, hRA⟩ := hR
  obtain ⟨op, hop, hox, hom⟩ := id hRO
  obtain ⟨sn, sm, sS, sT, sL, hsp, hsx, hsm, hw⟩ := id hRS
  obtain ⟨rc, rL, rR, hrp, hrx, hrm⟩ := id hRR
  obtain ⟨lt_, hlt, htx, htm⟩ := id hRT
  obtain ⟨li, hin, hix, him⟩ := id hRI
  obtain ⟨aK, har⟩ := id hRA
  obtain ⟨o_r, o_ix', o_im', o_bx', o_bm', o_l', e1, e2, h1, h2, h3⟩ := s_feed hin hix him (xs (x3 + 1).toNatClampNeg)
  refine lv_aload_n hx hb dL_law_1083 rfl (lv_at hl 1 rfl) ?_
  refine lv_aload_n hx hb dL_law_1084 rfl (lv_at hl 0 rfl) ?_
  refine lv_iload_n hx hb dL_law_1085 rfl (lv_at hl 3 rfl) ?_
  refine lv_iconst (v := 1) hx hb dL_law_1086 (by decide) ?_
  refine lv_iadd hx hb dL_law_1087 ?_
  refine va_sld hx hb hXb hbl hbA hS i1 dL_law_1088 ?_
  refine l_goi (ps := [0, 55, 56]) (I' := IX G hX rX (pt v [55, 56] [pt (v 55) [0] [o_ix'], o_bx']) j) (x_runV (As := [.int (xs (x3 + 1).toNatClampNeg)]) (rest := []) (ps := [0, 55, 56]) ⟨hx, hb, hml, hown, htl⟩ (k_X11_feed l D G 100000 (hX 0) (hX 1) (hX 4) (hX 9) (hX 12) (hX 15) (hX 20) (hX 23) (hX 26) (hX 33) (hX 40) (hX 42) (hX 55) (hX 57) (hX 63) (hX 67) (hX 56) (v 0 6) (v 55 0) (v 56) (xs (x3 + 1).toNatClampNeg) (o_r, o_bx', o_ix') e1) (cwV 1 htl gL_law_X11_feed rfl rfl rfl (by decide +kernel) ⟨Nat.le_of_ble_eq_true rfl, Nat.le_of_ble_eq_true rfl⟩) hE hPX hNX (x_m1 IX_0 (x_m1 IX_55 (x_m1 IX_56 rfl))) (by decide) 0 IX_0 rfl rfl hl.1 (Nat.le_of_ble_eq_true rfl) dL_law_1089 ⟨Nat.le_of_ble_eq_true rfl, Nat.le_of_ble_eq_true rfl⟩) hPX hPM hNX hd hAX hS (x_m1 IX_0 (x_m1 IX_55 (x_m1 IX_56 rfl))) (x_m1 IX_0 (x_m1 IX_55 (x_m1 IX_56 rfl))) (IX_c (fun k_ hk_ => pt_ne [55, 56] _ (fun hm_ => hk_ ((by decide : ∀ x ∈ ([55, 56] : List Nat), x ∈ ([0, 55, 56] : List Nat)) k_ hm_))) (fun _ => rfl)) (fun H locs hPX hPM hS => ?_)
  refine lv_aload_n hx hb dL_law_1092 rfl (lv_at hl 2 rfl) ?_
  refine lv_aload_n hx hb dL_law_1093 rfl (lv_at hl 0 rfl) ?_
  refine lv_iload_n hx hb dL_law_1094 rfl (lv_at hl 3 rfl) ?_
  refine lv_iconst (v := 1) hx hb dL_law_1095 (by decide) ?_
  refine lv_iadd hx hb dL_law_1096 ?_
  refine va_sld hx hb hXb hbl hbA hS i1 dL_law_1097 ?_
  refine l_goi (ps := [0, 23]) (I' := IM G hM rM (pt w [0, 23] [pt (w 0) [24] [o_im'], o_bm']) t q) (x_runV (As := [.int (xs (x3 + 1).toNatClampNeg)]) (rest := [.int o_r]) (ps := [0, 23]) ⟨hx, hb, hml, hown, htl⟩ (k_X12_feed l D G 100000 (hM 0) (hM 1) (hM 3) (hM 5) (hM 6) (hM 7) (hM 8) (hM 9) (hM 11) (hM 13) (hM 14) (hM 16) (hM 17) (hM 18) (hM 19) (hM 20) (hM 21) (hM 23) (hM 24) (hM 26) (hM 27) (hM 28) (hM 30) (hM 31) (hM 32) (hM 33) (hM 34) (hM 35) (hM 36) (hM 38) (hM 39) (hM 40) (hM 41) (hM 42) (hM 43) (hM 45) (hM 47) (w 0 2) (w 0 3) (w 0 11) (w 0 12) (w 0 16) (w 0 18) (w 0 20) (w 0 24) (w 0 25) (w 0 28) (w 0 29) (w 0 36) (w 0 40) (w 0 41) (w 0 42) (w 0 43) (w 23) (xs (x3 + 1).toNatClampNeg) (o_r, o_bm', o_im') e2) (cwV 1 htl gL_law_X12_feed rfl rfl rfl (by decide +kernel) ⟨Nat.le_of_ble_eq_true rfl, Nat.le_of_ble_eq_true rfl⟩) hE hPM hNM (x_m1 IM_0 (x_m1 IM_23 rfl)) (by decide) 0 IM_0 rfl rfl hl.1 (Nat.le_of_ble_eq_true rfl) dL_law_1098 ⟨Nat.le_of_ble_eq_true rfl, Nat.le_of_ble_eq_true rfl⟩) hPM hPX hNM (fun q h1 h2 => hd q h2 h1) hAM hS (x_m1 IM_0 (x_m1 IM_23 rfl)) (x_m1 IM_0 (x_m1 IM_23 rfl)) (IM_c (fun k_ hk_ => pt_ne [0, 23] _ (fun hm_ => hk_ ((by decide : ∀ x ∈ ([0, 23] : List Nat), x ∈ ([0, 23] : List Nat)) k_ hm_))) (fun _ _ => rfl) (fun _ => rfl)) (fun H locs hPM hPX hS => ?_)
  refine lv_icmp_eq (tgt := 1436) hx hb dL_law_1101 (by decide) (fun _ => ?_) (fun c_ => absurd rfl c_)
  exact kk (pt v [55, 56] [pt (v 55) [0] [o_ix'], o_bx']) j (pt w [0, 23] [pt (w 0) [24] [o_im'], o_bm']) t q H locs ⟨hRO, hRS, hRR, hRN, hRT, hF, hnb, ⟨o_l', h1, h2, h3⟩, hfa, hRA⟩ hPX hPM hS
set_option maxHeartbeats 4000000 in
set_option maxRecDepth 20000 in
theorem lk_addRule (SS : LwS p s m meth c b L xs D G aX aM) (hR : Rel v j w t q) (hPX : xW D aX (IX G hX rX v j) H) (hPM : xW D aM (IM G hM rM w t q) H) (hS : va_S (fun q : Nat => s.heap.size ≤ q) s.heap H locs) (hl : lv_has ls 4 [(0, .ref b), (1, .ref (hX 0)), (2, .ref (hM 0)), (3, .int x3)]) (hi : LIn x3 L) (kk : LK p l e s m below meth c b D G aX aM hX rX hM rM 1436 ls) : W p l e room_1 s m #[Value.ref b] below meth c H locs 600000 7302249 (lw_Z below #[Value.ref b] s) (F0 m 1106 ls []) := by
  obtain ⟨⟨hx, hb, hr, hml, hown, hts, hXb, hbl, hlocks, hgv⟩, hE, hNX, hNM, hd, hAX, hAM⟩ := SS
  have hown : s.vm.findClass RL = some m.cls := hown
  have htl : ∀ w ∈ wsL_law, w.before #[Value.ref b] s = true := fun w h => hts w (wsL_law_in w h)
  have hbA : ¬ (fun q : Nat => s.heap.size ≤ q) b := Nat.not_le.mpr hbl
  obtain ⟨hRO, hRS, hRR, hRN, hRT, hF, hnb, hRI, hfa, hRA⟩ := hR
  obtain ⟨op, hop, hox, hom⟩ := id hRO
  obtain ⟨sn, sm, sS, sT, sL, hsp, hsx, hsm, hw⟩ := id hRS
  obtain ⟨rc, rL, rR, hrp, hrx, hrm⟩ := id hRR
  obtain ⟨lt_, hlt, htx, htm⟩ := id hRT
  obtain ⟨li, hin, hix, him⟩ := id hRI
  obtain ⟨aK, har⟩ := id hRA
  obtain ⟨o_r, o_ix', o_im', o_cx', o_cm', o_lf', o_rg', o_sl', o_sd', o_l', o_c', o_RL', o_RR', e1, e2, h1, h2, h3, h4, h5, h6⟩ := s_addRule 100000 (by decide) hin hix him hrp hrx hrm
  refine lv_aload_n hx hb dL_law_1106 rfl (lv_at hl 1 rfl) ?_
  refine l_goi (ps := [0, 55, 56, 9, 10, 11]) (I' := IX G hX rX (pt v [55, 9, 10, 11] [pt (v 55) [0] [o_ix'], pt (v 9) [0] [o_cx'], o_lf', o_rg']) j) (x_runV (As := []) (rest := []) (ps := [0, 55, 56, 9, 10, 11]) ⟨hx, hb, hml, hown, htl⟩ (k_X11_addRule l D G 100000 (hX 0) (hX 1) (hX 4) (hX 9) (hX 12) (hX 15) (hX 20) (hX 23) (hX 26) (hX 33) (hX 40) (hX 42) (hX 55) (hX 57) (hX 63) (hX 67) (hX 56) (hX 10) (hX 11) (v 0 6) (v 55 0) (v 9 0) (v 56) (v 10) (v 11) (o_r, o_ix', o_cx', o_lf', o_rg') e1) (cwV 0 htl gL_law_X11_addRule rfl rfl rfl (by decide +kernel) ⟨Nat.le_of_ble_eq_true rfl, Nat.le_of_ble_eq_true rfl⟩) hE hPX hNX (x_m1 IX_0 (x_m1 IX_55 (x_m1 IX_56 (x_m1 IX_9 (x_m1 IX_10 (x_m1 IX_11 rfl)))))) (by decide) 0 IX_0 rfl rfl hl.1 (Nat.le_of_ble_eq_true rfl) dL_law_1107 ⟨Nat.le_of_ble_eq_true rfl, Nat.le_of_ble_eq_true rfl⟩) hPX hPM hNX hd hAX hS (x_m1 IX_0 (x_m1 IX_55 (x_m1 IX_56 (x_m1 IX_9 (x_m1 IX_10 (x_m1 IX_11 rfl)))))) (x_m1 IX_0 (x_m1 IX_55 (x_m1 IX_56 (x_m1 IX_9 (x_m1 IX_10 (x_m1 IX_11 rfl)))))) (IX_c (fun k_ hk_ => pt_ne [55, 9, 10, 11] _ (fun hm_ => hk_ ((by decide : ∀ x ∈ ([55, 9, 10, 11] : List Nat), x ∈ ([0, 55, 56, 9, 10, 11] : List Nat)) k_ hm_))) (fun _ => rfl)) (fun H locs hPX hPM hS => ?_)
  refine lv_aload_n hx hb dL_law_1110 rfl (lv_at hl 2 rfl) ?_
  refine l_goi (ps := [0, 23, 26, 24, 25]) (I' := IM G hM rM (pt w [0, 26] [pt (w 0) [24, 25] [o_im', o_cm'], o_sl']) (pt t [25] [o_sd']) q) (x_runV (As := []) (rest := [.int o_r]) (ps := [0, 23, 26, 24, 25]) ⟨hx, hb, hml, hown, htl⟩ (k_X12_addRule l D G 100000 (hM 0) (hM 1) (hM 3) (hM 5) (hM 6) (hM 7) (hM 8) (hM 9) (hM 11) (hM 13) (hM 14) (hM 16) (hM 17) (hM 18) (hM 19) (hM 20) (hM 21) (hM 23) (hM 24) (hM 26) (hM 27) (hM 28) (hM 30) (hM 31) (hM 32) (hM 33) (hM 34) (hM 35) (hM 36) (hM 38) (hM 39) (hM 40) (hM 41) (hM 42) (hM 43) (hM 45) (hM 47) (rM 24) (w 0 2) (w 0 3) (w 0 11) (w 0 12) (w 0 16) (w 0 18) (w 0 20) (w 0 24) (w 0 25) (w 0 28) (w 0 29) (w 0 36) (w 0 40) (w 0 41) (w 0 42) (w 0 43) (w 23) (w 26) (t 25) (o_r, o_im', o_cm', o_sl', o_sd') e2) (cwV 0 htl gL_law_X12_addRule rfl rfl rfl (by decide +kernel) ⟨Nat.le_of_ble_eq_true rfl, Nat.le_of_ble_eq_true rfl⟩) hE hPM hNM (x_m1 IM_0 (x_m1 IM_23 (x_m1 IM_26 (x_m1 IM_24 (x_m1 IM_25 rfl))))) (by decide) 0 IM_0 rfl rfl hl.1 (Nat.le_of_ble_eq_true rfl) dL_law_1111 ⟨Nat.le_of_ble_eq_true rfl, Nat.le_of_ble_eq_true rfl⟩) hPM hPX hNM (fun q h1 h2 => hd q h2 h1) hAM hS (x_m1 IM_0 (x_m1 IM_23 (x_m1 IM_26 (x_m1 IM_24 (x_m1 IM_25 rfl))))) (x_m1 IM_0 (x_m1 IM_23 (x_m1 IM_26 (x_m1 IM_24 (x_m1 IM_25 rfl))))) (IM_c (fun k_ hk_ => pt_ne [0, 26] _ (fun hm_ => hk_ ((by decide : ∀ x ∈ ([0, 26] : List Nat), x ∈ ([0, 23, 26, 24, 25] : List Nat)) k_ hm_))) (fun k_ hk_ => pt_ne [25] _ (fun hm_ => hk_ ((by decide : ∀ x ∈ ([25] : List Nat), x ∈ ([0, 23, 26, 24, 25] : List Nat)) k_ hm_))) (fun _ => rfl)) (fun H locs hPM hPX hS => ?_)
  refine lv_icmp_eq (tgt := 1436) hx hb dL_law_1114 (by decide) (fun _ => ?_) (fun c_ => absurd rfl c_)
  exact kk (pt v [55, 9, 10, 11] [pt (v 55) [0] [o_ix'], pt (v 9) [0] [o_cx'], o_lf', o_rg']) j (pt w [0, 26] [pt (w 0) [24, 25] [o_im', o_cm'], o_sl']) (pt t [25] [o_sd']) q H locs ⟨hRO, hRS, ⟨o_c', o_RL', o_RR', h4, h5, h6⟩, hRN, hRT, hF, hnb, ⟨o_l', h1, h2, h3⟩, hfa, hRA⟩ hPX hPM hS
set_option maxHeartbeats 4000000 in
set_option maxRecDepth 20000 in
theorem lk_clearRules (SS : LwS p s m meth c b L xs D G aX aM) (hR : Rel v j w t q) (hPX : xW D aX (IX G hX rX v j) H) (hPM : xW D aM (IM G hM rM w t q) H) (hS : va_S (fun q : Nat => s.heap.size ≤ q) s.heap H locs) (hl : lv_has ls 4 [(0, .ref b), (1, .ref (hX 0)), (2, .ref (hM 0)), (3, .int x3)]) (hi : LIn x3 L) (kk : LK p l e s m below meth c b D G aX aM hX rX hM rM 1436 ls) : W p l e room_1 s m #[Value.ref b] below meth c H locs 600000 7302249 (lw_Z below #[Value.ref b] s) (F0 m 1119 ls []) := by
  obtain ⟨⟨hx, hb, hr, hml, hown, hts, hXb, hbl, hlocks, hgv⟩, hE, hNX, hNM, hd, hAX, hAM⟩ := SS
  have hown : s.vm.findClass RL = some m.cls := hown
  have htl : ∀ w ∈ wsL_law, w.before #[Value.ref b] s = true := fun w h => hts w (wsL_law_in w h)
  have hbA : ¬ (fun q : Nat => s.heap.size ≤ q) b := Nat.not_le.mpr hbl
  obtain ⟨hRO, hRS, hRR, hRN, hRT, hF, hnb, hRI, hfa, hRA⟩ := hR
  obtain ⟨op, hop, hox, hom⟩ := id hRO
  obtain ⟨sn, sm, sS, sT, sL, hsp, hsx, hsm, hw⟩ := id hRS
  obtain ⟨rc, rL, rR, hrp, hrx, hrm⟩ := id hRR
  obtain ⟨lt_, hlt, htx, htm⟩ := id hRT
  obtain ⟨li, hin, hix, him⟩ := id hRI
  obtain ⟨aK, har⟩ := id hRA
  obtain ⟨o_r, o_cx', o_cm', e1, e2, h1, h2, h3⟩ := s_clearRules hrx hrm
  refine lv_aload_n hx hb dL_law_1119 rfl (lv_at hl 1 rfl) ?_
  refine l_goi (ps := [0, 9]) (I' := IX G hX rX (pt v [9] [pt (v 9) [0] [o_cx']]) j) (x_runV (As := []) (rest := []) (ps := [0, 9]) ⟨hx, hb, hml, hown, htl⟩ (k_X11_clearRules l D G 100000 (hX 0) (hX 1) (hX 4) (hX 9) (hX 12) (hX 15) (hX 20) (hX 23) (hX 26) (hX 33) (hX 40) (hX 42) (hX 55) (hX 57) (hX 63) (hX 67) (hX 10) (hX 11) (v 0 6) (v 9 0) (o_r, o_cx') e1) (cwV 0 htl gL_law_X11_clearRules rfl rfl rfl (by decide +kernel) ⟨Nat.le_of_ble_eq_true rfl, Nat.le_of_ble_eq_true rfl⟩) hE hPX hNX (x_m1 IX_0 (x_m1 IX_9 rfl)) (by decide) 0 IX_0 rfl rfl hl.1 (Nat.le_of_ble_eq_true rfl) dL_law_1120 ⟨Nat.le_of_ble_eq_true rfl, Nat.le_of_ble_eq_true rfl⟩) hPX hPM hNX hd hAX hS (x_m1 IX_0 (x_m1 IX_9 rfl)) (x_m1 IX_0 (x_m1 IX_9 rfl)) (IX_c (fun k_ hk_ => pt_ne [9] _ (fun hm_ => hk_ ((by decide : ∀ x ∈ ([9] : List Nat), x ∈ ([0, 9] : List Nat)) k_ hm_))) (fun _ => rfl)) (fun H locs hPX hPM hS => ?_)
  refine lv_aload_n hx hb dL_law_1123 rfl (lv_at hl 2 rfl) ?_
  refine l_goi (ps := [0]) (I' := IM G hM rM (pt w [0] [pt (w 0) [25] [o_cm']]) t q) (x_runV (As := []) (rest := [.int o_r]) (ps := [0]) ⟨hx, hb, hml, hown, htl⟩ (k_X12_clearRules l D G 100000 (hM 0) (hM 1) (hM 3) (hM 5) (hM 6) (hM 7) (hM 8) (hM 9) (hM 11) (hM 13) (hM 14) (hM 16) (hM 17) (hM 18) (hM 19) (hM 20) (hM 21) (hM 23) (hM 24) (hM 26) (hM 27) (hM 28) (hM 30) (hM 31) (hM 32) (hM 33) (hM 34) (hM 35) (hM 36) (hM 38) (hM 39) (hM 40) (hM 41) (hM 42) (hM 43) (hM 45) (hM 47) (w 0 2) (w 0 3) (w 0 11) (w 0 12) (w 0 16) (w 0 18) (w 0 20) (w 0 24) (w 0 25) (w 0 28) (w 0 29) (w 0 36) (w 0 40) (w 0 41) (w 0 42) (w 0 43) (o_r, o_cm') e2) (cwV 0 htl gL_law_X12_clearRules rfl rfl rfl (by decide +kernel) ⟨Nat.le_of_ble_eq_true rfl, Nat.le_of_ble_eq_true rfl⟩) hE hPM hNM (x_m1 IM_0 rfl) (by decide) 0 IM_0 rfl rfl hl.1 (Nat.le_of_ble_eq_true rfl) dL_law_1124 ⟨Nat.le_of_ble_eq_true rfl, Nat.le_of_ble_eq_true rfl⟩) hPM hPX hNM (fun q h1 h2 => hd q h2 h1) hAM hS (x_m1 IM_0 rfl) (x_m1 IM_0 rfl) (IM_c (fun k_ hk_ => pt_ne [0] _ (fun hm_ => hk_ ((by decide : ∀ x ∈ ([0] : List Nat), x ∈ ([0] : List Nat)) k_ hm_))) (fun _ _ => rfl) (fun _ => rfl)) (fun H locs hPM hPX hS => ?_)
  refine lv_icmp_eq (tgt := 1436) hx hb dL_law_1127 (by decide) (fun _ => ?_) (fun c_ => absurd rfl c_)
  exact kk (pt v [9] [pt (v 9) [0] [o_cx']]) j (pt w [0] [pt (w 0) [25] [o_cm']]) t q H locs ⟨hRO, hRS, ⟨0, rL, rR, h1, h2, h3⟩, hRN, hRT, hF, hnb, hRI, hfa, hRA⟩ hPX hPM hS
set_option maxHeartbeats 4000000 in
set_option maxRecDepth 20000 in
theorem lk_explore (SS : LwS p s m meth c b L xs D G aX aM) (hR : Rel v j w t q) (hPX : xW D aX (IX G hX rX v j) H) (hPM : xW D aM (IM G hM rM w t q) H) (hS : va_S (fun q : Nat => s.heap.size ≤ q) s.heap H locs) (hl : lv_has ls 4 [(0, .ref b), (1, .ref (hX 0)), (2, .ref (hM 0)), (3, .int x3)]) (hi : LIn x3 L) (kk : LK p l e s m below meth c b D G aX aM hX rX hM rM 1436 ls) : W p l e room_1 s m #[Value.ref b] below meth c H locs 600000 7302249 (lw_Z below #[Value.ref b] s) (F0 m 1132 ls []) := by
  obtain ⟨⟨hx, hb, hr, hml, hown, hts, hXb, hbl, hlocks, hgv⟩, hE, hNX, hNM, hd, hAX, hAM⟩ := SS
  have hown : s.vm.findClass RL = some m.cls := hown
  have htl : ∀ w ∈ wsL_law, w.before #[Value.ref b] s = true := fun w h => hts w (wsL_law_in w h)
  have hbA : ¬ (fun q : Nat => s.heap.size ≤ q) b := Nat.not_le.mpr hbl
  obtain ⟨hRO, hRS, hRR, hRN, hRT, hF, hnb, hRI, hfa, hRA⟩ := hR
  obtain ⟨op, hop, hox, hom⟩ := id hRO
  obtain ⟨sn, sm, sS, sT, sL, hsp, hsx, hsm, hw⟩ := id hRS
  obtain ⟨rc, rL, rR, hrp, hrx, hrm⟩ := id hRR
  obtain ⟨lt_, hlt, htx, htm⟩ := id hRT
  obtain ⟨li, hin, hix, him⟩ := id hRI
  obtain ⟨aK, har⟩ := id hRA
  obtain ⟨o_r, o_V1, o_V2, o_W1, o_W2, o_W3, o_n', o_m', o_S', o_T', o_L', e1, e2, h1, h2, h3, h4, h5, h6, h7⟩ := s_explore 100000 (by decide) hin hix him hrp hrx hrm hsp hsx hsm hw hfa (v 58 0) (v 58 2) (v 62) (v 60) (v 61) (v 59) (w 0 28) (w 0 29) (w 0 36) (w 27) (w 32) (w 30) (w 31) (t 29) (w 33)
  refine lv_aload_n hx hb dL_law_1132 rfl (lv_at hl 1 rfl) ?_
  refine l_goi (ps := [0, 57, 58, 62, 60, 61, 59, 55, 56, 9, 10, 11, 4, 8, 6, 7, 5]) (I' := IX G hX rX (pt v [57, 58, 62, 60, 61, 59, 55, 4, 8, 6, 7, 5] [pt (v 57) [1, 2, 3] [(o_V1 3), (o_V1 4), (o_V1 2)], pt (v 58) [0, 2] [(o_V1 0), (o_V1 1)], (o_V2 0), (o_V2 1), (o_V2 2), (o_V2 3), pt (v 55) [0] [(o_V1 5)], pt (v 4) [0, 2] [(o_V1 6), (o_V1 7)], (o_V2 4), (o_V2 5), (o_V2 6), (o_V2 7)]) j) (x_runV (As := []) (rest := []) (ps := [0, 57, 58, 62, 60, 61, 59, 55, 56, 9, 10, 11, 4, 8, 6, 7, 5]) ⟨hx, hb, hml, hown, htl⟩ (k_X11_explore l D G 100000 (hX 0) (hX 1) (hX 4) (hX 9) (hX 12) (hX 15) (hX 20) (hX 23) (hX 26) (hX 33) (hX 40) (hX 42) (hX 55) (hX 57) (hX 63) (hX 67) (hX 58) (hX 59) (hX 60) (hX 61) (hX 62) (hX 56) (hX 10) (hX 11) (hX 5) (hX 6) (hX 7) (hX 8) (v 0 6) (v 57 1) (v 57 2) (v 57 3) (v 58 0) (v 58 2) (v 55 0) (v 9 0) (v 4 0) (v 4 2) (v 62) (v 60) (v 61) (v 59) (v 56) (v 10) (v 11) (v 8) (v 6) (v 7) (v 5) (o_r, o_V1, o_V2) e1) (cwV 0 htl gL_law_X11_explore rfl rfl rfl (by decide +kernel) ⟨Nat.le_of_ble_eq_true rfl, Nat.le_of_ble_eq_true rfl⟩) hE hPX hNX (x_m1 IX_0 (x_m1 IX_57 (x_m1 IX_58 (x_m1 IX_62 (x_m1 IX_60 (x_m1 IX_61 (x_m1 IX_59 (x_m1 IX_55 (x_m1 IX_56 (x_m1 IX_9 (x_m1 IX_10 (x_m1 IX_11 (x_m1 IX_4 (x_m1 IX_8 (x_m1 IX_6 (x_m1 IX_7 (x_m1 IX_5 rfl))))))))))))))))) (by decide) 0 IX_0 rfl rfl hl.1 (Nat.le_of_ble_eq_true rfl) dL_law_1133 ⟨Nat.le_of_ble_eq_true rfl, Nat.le_of_ble_eq_true rfl⟩) hPX hPM hNX hd hAX hS (x_m1 IX_0 (x_m1 IX_57 (x_m1 IX_58 (x_m1 IX_62 (x_m1 IX_60 (x_m1 IX_61 (x_m1 IX_59 (x_m1 IX_55 (x_m1 IX_56 (x_m1 IX_9 (x_m1 IX_10 (x_m1 IX_11 (x_m1 IX_4 (x_m1 IX_8 (x_m1 IX_6 (x_m1 IX_7 (x_m1 IX_5 rfl))))))))))))))))) (x_m1 IX_0 (x_m1 IX_57 (x_m1 IX_58 (x_m1 IX_62 (x_m1 IX_60 (x_m1 IX_61 (x_m1 IX_59 (x_m1 IX_55 (x_m1 IX_56 (x_m1 IX_9 (x_m1 IX_10 (x_m1 IX_11 (x_m1 IX_4 (x_m1 IX_8 (x_m1 IX_6 (x_m1 IX_7 (x_m1 IX_5 rfl))))))))))))))))) (IX_c (fun k_ hk_ => pt_ne [57, 58, 62, 60, 61, 59, 55, 4, 8, 6, 7, 5] _ (fun hm_ => hk_ ((by decide : ∀ x ∈ ([57, 58, 62, 60, 61, 59, 55, 4, 8, 6, 7, 5] : List Nat), x ∈ ([0, 57, 58, 62, 60, 61, 59, 55, 56, 9, 10, 11, 4, 8, 6, 7, 5] : List Nat)) k_ hm_))) (fun _ => rfl)) (fun H locs hPX hPM hS => ?_)
  refine lv_aload_n hx hb dL_law_1136 rfl (lv_at hl 2 rfl) ?_
  refine l_goi (ps := [0, 34, 23, 7, 8, 9, 10, 32, 27, 28, 29, 30, 31, 26, 24, 25, 5, 6, 33]) (I' := IM G hM rM (pt w [0, 34, 7, 8, 32, 27, 30, 31, 5, 6, 33] [pt (w 0) [2, 3, 24, 28, 29, 36] [(o_W1 3), (o_W1 4), (o_W1 0), (o_W1 1), (o_W1 2), (o_W1 5)], (o_W2 0), (o_W2 1), (o_W2 2), (o_W2 3), (o_W2 4), (o_W2 5), (o_W2 6), (o_W2 7), (o_W2 8), (o_W2 9)]) (pt t [10, 29] [(o_W3 0), (o_W3 1)]) q) (x_runV (As := []) (rest := [.int o_r]) (ps := [0, 34, 23, 7, 8, 9, 10, 32, 27, 28, 29, 30, 31, 26, 24, 25, 5, 6, 33]) ⟨hx, hb, hml, hown, htl⟩ (k_X12_explore l D G 100000 (hM 0) (hM 1) (hM 3) (hM 5) (hM 6) (hM 7) (hM 8) (hM 9) (hM 11) (hM 13) (hM 14) (hM 16) (hM 17) (hM 18) (hM 19) (hM 20) (hM 21) (hM 23) (hM 24) (hM 26) (hM 27) (hM 28) (hM 30) (hM 31) (hM 32) (hM 33) (hM 34) (hM 35) (hM 36) (hM 38) (hM 39) (hM 40) (hM 41) (hM 42) (hM 43) (hM 45) (hM 47) (rM 9) (rM 28) (rM 24) (w 0 2) (w 0 3) (w 0 11) (w 0 12) (w 0 16) (w 0 18) (w 0 20) (w 0 24) (w 0 25) (w 0 28) (w 0 29) (w 0 36) (w 0 40) (w 0 41) (w 0 42) (w 0 43) (w 34) (w 23) (w 7) (w 8) (t 10) (w 32) (w 27) (t 29) (w 30) (w 31) (w 26) (t 25) (w 5) (w 6) (w 33) (o_r, o_W1, o_W2, o_W3) e2) (cwV 0 htl gL_law_X12_explore rfl rfl rfl (by decide +kernel) ⟨Nat.le_of_ble_eq_true rfl, Nat.le_of_ble_eq_true rfl⟩) hE hPM hNM (x_m1 IM_0 (x_m1 IM_34 (x_m1 IM_23 (x_m1 IM_7 (x_m1 IM_8 (x_m1 IM_9 (x_m1 IM_10 (x_m1 IM_32 (x_m1 IM_27 (x_m1 IM_28 (x_m1 IM_29 (x_m1 IM_30 (x_m1 IM_31 (x_m1 IM_26 (x_m1 IM_24 (x_m1 IM_25 (x_m1 IM_5 (x_m1 IM_6 (x_m1 IM_33 rfl))))))))))))))))))) (by decide) 0 IM_0 rfl rfl hl.1 (Nat.le_of_ble_eq_true rfl) dL_law_1137 ⟨Nat.le_of_ble_eq_true rfl, Nat.le_of_ble_eq_true rfl⟩) hPM hPX hNM (fun q h1 h2 => hd q h2 h1) hAM hS (x_m1 IM_0 (x_m1 IM_34 (x_m1 IM_23 (x_m1 IM_7 (x_m1 IM_8 (x_m1 IM_9 (x_m1 IM_10 (x_m1 IM_32 (x_m1 IM_27 (x_m1 IM_28 (x_m1 IM_29 (x_m1 IM_30 (x_m1 IM_31 (x_m1 IM_26 (x_m1 IM_24 (x_m1 IM_25 (x_m1 IM_5 (x_m1 IM_6 (x_m1 IM_33 rfl))))))))))))))))))) (x_m1 IM_0 (x_m1 IM_34 (x_m1 IM_23 (x_m1 IM_7 (x_m1 IM_8 (x_m1 IM_9 (x_m1 IM_10 (x_m1 IM_32 (x_m1 IM_27 (x_m1 IM_28 (x_m1 IM_29 (x_m1 IM_30 (x_m1 IM_31 (x_m1 IM_26 (x_m1 IM_24 (x_m1 IM_25 (x_m1 IM_5 (x_m1 IM_6 (x_m1 IM_33 rfl))))))))))))))))))) (IM_c (fun k_ hk_ => pt_ne [0, 34, 7, 8, 32, 27, 30, 31, 5, 6, 33] _ (fun hm_ => hk_ ((by decide : ∀ x ∈ ([0, 34, 7, 8, 32, 27, 30, 31, 5, 6, 33] : List Nat), x ∈ ([0, 34, 23, 7, 8, 9, 10, 32, 27, 28, 29, 30, 31, 26, 24, 25, 5, 6, 33] : List Nat)) k_ hm_))) (fun k_ hk_ => pt_ne [10, 29] _ (fun hm_ => hk_ ((by decide : ∀ x ∈ ([10, 29] : List Nat), x ∈ ([0, 34, 23, 7, 8, 9, 10, 32, 27, 28, 29, 30, 31, 26, 24, 25, 5, 6, 33] : List Nat)) k_ hm_))) (fun _ => rfl)) (fun H locs hPM hPX hS => ?_)
  refine lv_icmp_eq (tgt := 1436) hx hb dL_law_1140 (by decide) (fun _ => ?_) (fun c_ => absurd rfl c_)
  exact kk (pt v [57, 58, 62, 60, 61, 59, 55, 4, 8, 6, 7, 5] [pt (v 57) [1, 2, 3] [(o_V1 3), (o_V1 4), (o_V1 2)], pt (v 58) [0, 2] [(o_V1 0), (o_V1 1)], (o_V2 0), (o_V2 1), (o_V2 2), (o_V2 3), pt (v 55) [0] [(o_V1 5)], pt (v 4) [0, 2] [(o_V1 6), (o_V1 7)], (o_V2 4), (o_V2 5), (o_V2 6), (o_V2 7)]) j (pt w [0, 34, 7, 8, 32, 27, 30, 31, 5, 6, 33] [pt (w 0) [2, 3, 24, 28, 29, 36] [(o_W1 3), (o_W1 4), (o_W1 0), (o_W1 1), (o_W1 2), (o_W1 5)], (o_W2 0), (o_W2 1), (o_W2 2), (o_W2 3), (o_W2 4), (o_W2 5), (o_W2 6), (o_W2 7), (o_W2 8), (o_W2 9)]) (pt t [10, 29] [(o_W3 0), (o_W3 1)]) q H locs ⟨hRO, ⟨o_n', o_m', o_S', o_T', o_L', h4, h5, h6, h7⟩, hRR, hRN, hRT, hF, hnb, ⟨[], inP_nil, h1, h2⟩, h3, hRA⟩ hPX hPM hS
set_option maxHeartbeats 4000000 in
set_option maxRecDepth 20000 in
theorem lk_failure (SS : LwS p s m meth c b L xs D G aX aM) (hR : Rel v j w t q) (hPX : xW D aX (IX G hX rX v j) H) (hPM : xW D aM (IM G hM rM w t q) H) (hS : va_S (fun q : Nat => s.heap.size ≤ q) s.heap H locs) (hl : lv_has ls 4 [(0, .ref b), (1, .ref (hX 0)), (2, .ref (hM 0)), (3, .int x3)]) (hi : LIn x3 L) (kk : LK p l e s m below meth c b D G aX aM hX rX hM rM 1436 ls) : W p l e room_1 s m #[Value.ref b] below meth c H locs 600000 7302249 (lw_Z below #[Value.ref b] s) (F0 m 1145 ls []) := by
  obtain ⟨⟨hx, hb, hr, hml, hown, hts, hXb, hbl, hlocks, hgv⟩, hE, hNX, hNM, hd, hAX, hAM⟩ := SS
  have hown : s.vm.findClass RL = some m.cls := hown
  have htl : ∀ w ∈ wsL_law, w.before #[Value.ref b] s = true := fun w h => hts w (wsL_law_in w h)
  have hbA : ¬ (fun q : Nat => s.heap.size ≤ q) b := Nat.not_le.mpr hbl
  obtain ⟨i1, i2, i3, i4⟩ := hi
  obtain ⟨hRO, hRS, hRR, hRN, hRT, hF, hnb, hRI, hfa, hRA⟩ := hR
  obtain ⟨op, hop, hox, hom⟩ := id hRO
  obtain ⟨sn, sm, sS, sT, sL, hsp, hsx, hsm, hw⟩ := id hRS
  obtain ⟨rc, rL, rR, hrp, hrx, hrm⟩ := id hRR
  obtain ⟨lt_, hlt, htx, htm⟩ := id hRT
  obtain ⟨li, hin, hix, him⟩ := id hRI
  obtain ⟨aK, har⟩ := id hRA
  obtain ⟨o_r, e1, e2⟩ := s_failure hfa (xs (x3 + 1).toNatClampNeg)
  refine lv_aload_n hx hb dL_law_1145 rfl (lv_at hl 1 rfl) ?_
  refine lv_aload_n hx hb dL_law_1146 rfl (lv_at hl 0 rfl) ?_
  refine lv_iload_n hx hb dL_law_1147 rfl (lv_at hl 3 rfl) ?_
  refine lv_iconst (v := 1) hx hb dL_law_1148 (by decide) ?_
  refine lv_iadd hx hb dL_law_1149 ?_
  refine va_sld hx hb hXb hbl hbA hS i1 dL_law_1150 ?_
  refine l_goi (ps := [0, 57]) (I' := IX G hX rX v j) (x_runV (As := [.int (xs (x3 + 1).toNatClampNeg)]) (rest := []) (ps := [0, 57]) ⟨hx, hb, hml, hown, htl⟩ (k_X11_failure l D G 100000 (hX 0) (hX 1) (hX 4) (hX 9) (hX 12) (hX 15) (hX 20) (hX 23) (hX 26) (hX 33) (hX 40) (hX 42) (hX 55) (hX 57) (hX 63) (hX 67) (hX 58) (v 0 6) (v 57 1) (v 57 2) (v 57 3) (xs (x3 + 1).toNatClampNeg) o_r e1) (cwV 1 htl gL_law_X11_failure rfl rfl rfl (by decide +kernel) ⟨Nat.le_of_ble_eq_true rfl, Nat.le_of_ble_eq_true rfl⟩) hE hPX hNX (x_m1 IX_0 (x_m1 IX_57 rfl)) (by decide) 0 IX_0 rfl rfl hl.1 (Nat.le_of_ble_eq_true rfl) dL_law_1151 ⟨Nat.le_of_ble_eq_true rfl, Nat.le_of_ble_eq_true rfl⟩) hPX hPM hNX hd hAX hS (x_m1 IX_0 (x_m1 IX_57 rfl)) (x_m1 IX_0 (x_m1 IX_57 rfl)) (IX_c (fun _ _ => rfl) (fun _ => rfl)) (fun H locs hPX hPM hS => ?_)
  refine lv_aload_n hx hb dL_law_1154 rfl (lv_at hl 2 rfl) ?_
  refine lv_aload_n hx hb dL_law_1155 rfl (lv_at hl 0 rfl) ?_
  refine lv_iload_n hx hb dL_law_1156 rfl (lv_at hl 3 rfl) ?_
  refine lv_iconst (v := 1) hx hb dL_law_1157 (by decide) ?_
  refine lv_iadd hx hb dL_law_1158 ?_
  refine va_sld hx hb hXb hbl hbA hS i1 dL_law_1159 ?_
  refine l_goi (ps := [0, 34]) (I' := IM G hM rM w t q) (x_runV (As := [.int (xs (x3 + 1).toNatClampNeg)]) (rest := [.int o_r]) (ps := [0, 34]) ⟨hx, hb, hml, hown, htl⟩ (k_X12_failure l D G 100000 (hM 0) (hM 1) (hM 3) (hM 5) (hM 6) (hM 7) (hM 8) (hM 9) (hM 11) (hM 13) (hM 14) (hM 16) (hM 17) (hM 18) (hM 19) (hM 20) (hM 21) (hM 23) (hM 24) (hM 26) (hM 27) (hM 28) (hM 30) (hM 31) (hM 32) (hM 33) (hM 34) (hM 35) (hM 36) (hM 38) (hM 39) (hM 40) (hM 41) (hM 42) (hM 43) (hM 45) (hM 47) (w 0 2) (w 0 3) (w 0 11) (w 0 12) (w 0 16) (w 0 18) (w 0 20) (w 0 24) (w 0 25) (w 0 28) (w 0 29) (w 0 36) (w 0 40) (w 0 41) (w 0 42) (w 0 43) (w 34) (xs (x3 + 1).toNatClampNeg) o_r e2) (cwV 1 htl gL_law_X12_failure rfl rfl rfl (by decide +kernel) ⟨Nat.le_of_ble_eq_true rfl, Nat.le_of_ble_eq_true rfl⟩) hE hPM hNM (x_m1 IM_0 (x_m1 IM_34 rfl)) (by decide) 0 IM_0 rfl rfl hl.1 (Nat.le_of_ble_eq_true rfl) dL_law_1160 ⟨Nat.le_of_ble_eq_true rfl, Nat.le_of_ble_eq_true rfl⟩) hPM hPX hNM (fun q h1 h2 => hd q h2 h1) hAM hS (x_m1 IM_0 (x_m1 IM_34 rfl)) (x_m1 IM_0 (x_m1 IM_34 rfl)) (IM_c (fun _ _ => rfl) (fun _ _ => rfl) (fun _ => rfl)) (fun H locs hPM hPX hS => ?_)
  refine lv_icmp_eq (tgt := 1436) hx hb dL_law_1163 (by decide) (fun _ => ?_) (fun c_ => absurd rfl c_)
  exact kk v j w t q H locs ⟨hRO, hRS, hRR, hRN, hRT, hF, hnb, hRI, hfa, hRA⟩ hPX hPM hS
end LCASES
