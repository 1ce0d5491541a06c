section LCASES
variable {p : Program} {l : Launch} {e : Env} {s : State} {m : MethodId} {below : List Frame} {meth : Method} {c : Code} {b L : Nat} {xs : Nat → Int32} {D : va_G} {G : Nat → ClassId} {aX aM : List (List Nat)} {hX : Nat → Nat} {rX : Nat → Nat → Nat} {hM : Nat → Nat} {rM : Nat → Nat → Nat} {v : Nat → Nat → Int32} {j : Nat → Nat → Int64} {w : Nat → Nat → Int32} {t : Nat → Nat → Nat → Int32} {q : Nat → Nat → Int64} {H : Heap} {locs : List Loc} {ls : Array Slot} {x3 : Int32}
set_option maxHeartbeats 4000000 in
set_option maxRecDepth 20000 in
theorem lk_isTerminating (SS : LwS p s m meth c b L xs D G aX aM) (hR : Rel v j w t q) (hPX : xW D aX (IX G hX rX v j) H) (hPM : xW D aM (IM G hM rM w t q) H) (hS : va_S (fun q : Nat => s.heap.size ≤ q) s.heap H locs) (hl : lv_has ls 4 [(0, .ref b), (1, .ref (hX 0)), (2, .ref (hM 0)), (3, .int x3)]) (hi : LIn x3 L) (kk : LK p l e s m below meth c b D G aX aM hX rX hM rM 1436 ls) : W p l e room_1 s m #[Value.ref b] below meth c H locs 600000 7302249 (lw_Z below #[Value.ref b] s) (F0 m 686 ls []) := by
  obtain ⟨⟨hx, hb, hr, hml, hown, hts, hXb, hbl, hlocks, hgv⟩, hE, hNX, hNM, hd, hAX, hAM⟩ := SS
  have hown : s.vm.findClass RL = some m.cls := hown
  have htl : ∀ w ∈ wsL_law, w.before #[Value.ref b] s = true := fun w h => hts w (wsL_law_in w h)
  have hbA : ¬ (fun q : Nat => s.heap.size ≤ q) b := Nat.not_le.mpr hbl
  obtain ⟨hRO, hRS, hRR, hRN, hRT, hF, hnb, hRI, hfa, hRA⟩ := hR
  obtain ⟨op, hop, hox, hom⟩ := id hRO
  obtain ⟨sn, sm, sS, sT, sL, hsp, hsx, hsm, hw⟩ := id hRS
  obtain ⟨rc, rL, rR, hrp, hrx, hrm⟩ := id hRR
  obtain ⟨lt_, hlt, htx, htm⟩ := id hRT
  obtain ⟨li, hin, hix, him⟩ := id hRI
  obtain ⟨aK, har⟩ := id hRA
  obtain ⟨o_r, o_D', e1, e2⟩ := s_isTerminating 100000 (by decide) hsp hsx hsm (t 12)
  refine lv_aload_n hx hb dL_law_686 rfl (lv_at hl 1 rfl) ?_
  refine l_goi (ps := [0, 4, 8, 6, 7]) (I' := IX G hX rX v j) (x_runV (As := []) (rest := []) (ps := [0, 4, 8, 6, 7]) ⟨hx, hb, hml, hown, htl⟩ (k_X11_isTerminating l D G 100000 (hX 0) (hX 1) (hX 4) (hX 9) (hX 12) (hX 15) (hX 20) (hX 23) (hX 26) (hX 33) (hX 40) (hX 42) (hX 55) (hX 57) (hX 63) (hX 67) (hX 5) (hX 6) (hX 7) (hX 8) (v 0 6) (v 4 0) (v 4 2) (v 8) (v 6) (v 7) o_r e1) (cwV 0 htl gL_law_X11_isTerminating rfl rfl rfl (by decide +kernel) ⟨Nat.le_of_ble_eq_true rfl, Nat.le_of_ble_eq_true rfl⟩) hE hPX hNX (x_m1 IX_0 (x_m1 IX_4 (x_m1 IX_8 (x_m1 IX_6 (x_m1 IX_7 rfl))))) (by decide) 0 IX_0 rfl rfl hl.1 (Nat.le_of_ble_eq_true rfl) dL_law_687 ⟨Nat.le_of_ble_eq_true rfl, Nat.le_of_ble_eq_true rfl⟩) hPX hPM hNX hd hAX hS (x_m1 IX_0 (x_m1 IX_4 (x_m1 IX_8 (x_m1 IX_6 (x_m1 IX_7 rfl))))) (x_m1 IX_0 (x_m1 IX_4 (x_m1 IX_8 (x_m1 IX_6 (x_m1 IX_7 rfl))))) (IX_c (fun _ _ => rfl) (fun _ => rfl)) (fun H locs hPX hPM hS => ?_)
  refine lv_aload_n hx hb dL_law_690 rfl (lv_at hl 2 rfl) ?_
  refine l_goi (ps := [0, 11, 12, 5, 6]) (I' := IM G hM rM w (pt t [12] [o_D']) q) (x_runV (As := []) (rest := [.int o_r]) (ps := [0, 11, 12, 5, 6]) ⟨hx, hb, hml, hown, htl⟩ (k_X12_isTerminating l D G 100000 (hM 0) (hM 1) (hM 3) (hM 5) (hM 6) (hM 7) (hM 8) (hM 9) (hM 11) (hM 13) (hM 14) (hM 16) (hM 17) (hM 18) (hM 19) (hM 20) (hM 21) (hM 23) (hM 24) (hM 26) (hM 27) (hM 28) (hM 30) (hM 31) (hM 32) (hM 33) (hM 34) (hM 35) (hM 36) (hM 38) (hM 39) (hM 40) (hM 41) (hM 42) (hM 43) (hM 45) (hM 47) (rM 11) (w 0 2) (w 0 3) (w 0 11) (w 0 12) (w 0 16) (w 0 18) (w 0 20) (w 0 24) (w 0 25) (w 0 28) (w 0 29) (w 0 36) (w 0 40) (w 0 41) (w 0 42) (w 0 43) (t 12) (w 5) (w 6) (o_r, o_D') e2) (cwV 0 htl gL_law_X12_isTerminating rfl rfl rfl (by decide +kernel) ⟨Nat.le_of_ble_eq_true rfl, Nat.le_of_ble_eq_true rfl⟩) hE hPM hNM (x_m1 IM_0 (x_m1 IM_11 (x_m1 IM_12 (x_m1 IM_5 (x_m1 IM_6 rfl))))) (by decide) 0 IM_0 rfl rfl hl.1 (Nat.le_of_ble_eq_true rfl) dL_law_691 ⟨Nat.le_of_ble_eq_true rfl, Nat.le_of_ble_eq_true rfl⟩) hPM hPX hNM (fun q h1 h2 => hd q h2 h1) hAM hS (x_m1 IM_0 (x_m1 IM_11 (x_m1 IM_12 (x_m1 IM_5 (x_m1 IM_6 rfl))))) (x_m1 IM_0 (x_m1 IM_11 (x_m1 IM_12 (x_m1 IM_5 (x_m1 IM_6 rfl))))) (IM_c (fun _ _ => rfl) (fun k_ hk_ => pt_ne [12] _ (fun hm_ => hk_ ((by decide : ∀ x ∈ ([12] : List Nat), x ∈ ([0, 11, 12, 5, 6] : List Nat)) k_ hm_))) (fun _ => rfl)) (fun H locs hPM hPX hS => ?_)
  refine lv_icmp_eq (tgt := 1436) hx hb dL_law_694 (by decide) (fun _ => ?_) (fun c_ => absurd rfl c_)
  exact kk v j w (pt t [12] [o_D']) q H locs ⟨hRO, hRS, hRR, hRN, hRT, hF, hnb, hRI, hfa, hRA⟩ hPX hPM hS
set_option maxHeartbeats 4000000 in
set_option maxRecDepth 20000 in
theorem lk_longestPath (SS : LwS p s m meth c b L xs D G aX aM) (hR : Rel v j w t q) (hPX : xW D aX (IX G hX rX v j) H) (hPM : xW D aM (IM G hM rM w t q) H) (hS : va_S (fun q : Nat => s.heap.size ≤ q) s.heap H locs) (hl : lv_has ls 4 [(0, .ref b), (1, .ref (hX 0)), (2, .ref (hM 0)), (3, .int x3)]) (hi : LIn x3 L) (kk : LK p l e s m below meth c b D G aX aM hX rX hM rM 1436 ls) : W p l e room_1 s m #[Value.ref b] below meth c H locs 600000 7302249 (lw_Z below #[Value.ref b] s) (F0 m 699 ls []) := by
  obtain ⟨⟨hx, hb, hr, hml, hown, hts, hXb, hbl, hlocks, hgv⟩, hE, hNX, hNM, hd, hAX, hAM⟩ := SS
  have hown : s.vm.findClass RL = some m.cls := hown
  have htl : ∀ w ∈ wsL_law, w.before #[Value.ref b] s = true := fun w h => hts w (wsL_law_in w h)
  have hbA : ¬ (fun q : Nat => s.heap.size ≤ q) b := Nat.not_le.mpr hbl
  obtain ⟨i1, i2, i3, i4⟩ := hi
  obtain ⟨hRO, hRS, hRR, hRN, hRT, hF, hnb, hRI, hfa, hRA⟩ := hR
  obtain ⟨op, hop, hox, hom⟩ := id hRO
  obtain ⟨sn, sm, sS, sT, sL, hsp, hsx, hsm, hw⟩ := id hRS
  obtain ⟨rc, rL, rR, hrp, hrx, hrm⟩ := id hRR
  obtain ⟨lt_, hlt, htx, htm⟩ := id hRT
  obtain ⟨li, hin, hix, him⟩ := id hRI
  obtain ⟨aK, har⟩ := id hRA
  obtain ⟨o_r, o_D', o_lg', e1, e2⟩ := s_longestPath 100000 (by decide) hsp hsx hsm (t 12) (w 13) (xs (x3 + 1).toNatClampNeg)
  refine lv_aload_n hx hb dL_law_699 rfl (lv_at hl 1 rfl) ?_
  refine lv_aload_n hx hb dL_law_700 rfl (lv_at hl 0 rfl) ?_
  refine lv_iload_n hx hb dL_law_701 rfl (lv_at hl 3 rfl) ?_
  refine lv_iconst (v := 1) hx hb dL_law_702 (by decide) ?_
  refine lv_iadd hx hb dL_law_703 ?_
  refine va_sld hx hb hXb hbl hbA hS i1 dL_law_704 ?_
  refine l_goi (ps := [0, 4, 8, 6, 7]) (I' := IX G hX rX v j) (x_runV (As := [.int (xs (x3 + 1).toNatClampNeg)]) (rest := []) (ps := [0, 4, 8, 6, 7]) ⟨hx, hb, hml, hown, htl⟩ (k_X11_longestPath l D G 100000 (hX 0) (hX 1) (hX 4) (hX 9) (hX 12) (hX 15) (hX 20) (hX 23) (hX 26) (hX 33) (hX 40) (hX 42) (hX 55) (hX 57) (hX 63) (hX 67) (hX 5) (hX 6) (hX 7) (hX 8) (v 0 6) (v 4 0) (v 4 2) (v 8) (v 6) (v 7) (xs (x3 + 1).toNatClampNeg) o_r e1) (cwV 1 htl gL_law_X11_longestPath rfl rfl rfl (by decide +kernel) ⟨Nat.le_of_ble_eq_true rfl, Nat.le_of_ble_eq_true rfl⟩) hE hPX hNX (x_m1 IX_0 (x_m1 IX_4 (x_m1 IX_8 (x_m1 IX_6 (x_m1 IX_7 rfl))))) (by decide) 0 IX_0 rfl rfl hl.1 (Nat.le_of_ble_eq_true rfl) dL_law_705 ⟨Nat.le_of_ble_eq_true rfl, Nat.le_of_ble_eq_true rfl⟩) hPX hPM hNX hd hAX hS (x_m1 IX_0 (x_m1 IX_4 (x_m1 IX_8 (x_m1 IX_6 (x_m1 IX_7 rfl))))) (x_m1 IX_0 (x_m1 IX_4 (x_m1 IX_8 (x_m1 IX_6 (x_m1 IX_7 rfl))))) (IX_c (fun _ _ => rfl) (fun _ => rfl)) (fun H locs hPX hPM hS => ?_)
  refine lv_aload_n hx hb dL_law_708 rfl (lv_at hl 2 rfl) ?_
  refine lv_aload_n hx hb dL_law_709 rfl (lv_at hl 0 rfl) ?_
  refine lv_iload_n hx hb dL_law_710 rfl (lv_at hl 3 rfl) ?_
  refine lv_iconst (v := 1) hx hb dL_law_711 (by decide) ?_
  refine lv_iadd hx hb dL_law_712 ?_
  refine va_sld hx hb hXb hbl hbA hS i1 dL_law_713 ?_
  refine l_goi (ps := [0, 11, 12, 13, 5, 6]) (I' := IM G hM rM (pt w [13] [o_lg']) (pt t [12] [o_D']) q) (x_runV (As := [.int (xs (x3 + 1).toNatClampNeg)]) (rest := [.int o_r]) (ps := [0, 11, 12, 13, 5, 6]) ⟨hx, hb, hml, hown, htl⟩ (k_X12_longestPath l D G 100000 (hM 0) (hM 1) (hM 3) (hM 5) (hM 6) (hM 7) (hM 8) (hM 9) (hM 11) (hM 13) (hM 14) (hM 16) (hM 17) (hM 18) (hM 19) (hM 20) (hM 21) (hM 23) (hM 24) (hM 26) (hM 27) (hM 28) (hM 30) (hM 31) (hM 32) (hM 33) (hM 34) (hM 35) (hM 36) (hM 38) (hM 39) (hM 40) (hM 41) (hM 42) (hM 43) (hM 45) (hM 47) (rM 11) (w 0 2) (w 0 3) (w 0 11) (w 0 12) (w 0 16) (w 0 18) (w 0 20) (w 0 24) (w 0 25) (w 0 28) (w 0 29) (w 0 36) (w 0 40) (w 0 41) (w 0 42) (w 0 43) (t 12) (w 13) (w 5) (w 6) (xs (x3 + 1).toNatClampNeg) (o_r, o_D', o_lg') e2) (cwV 1 htl gL_law_X12_longestPath rfl rfl rfl (by decide +kernel) ⟨Nat.le_of_ble_eq_true rfl, Nat.le_of_ble_eq_true rfl⟩) hE hPM hNM (x_m1 IM_0 (x_m1 IM_11 (x_m1 IM_12 (x_m1 IM_13 (x_m1 IM_5 (x_m1 IM_6 rfl)))))) (by decide) 0 IM_0 rfl rfl hl.1 (Nat.le_of_ble_eq_true rfl) dL_law_714 ⟨Nat.le_of_ble_eq_true rfl, Nat.le_of_ble_eq_true rfl⟩) hPM hPX hNM (fun q h1 h2 => hd q h2 h1) hAM hS (x_m1 IM_0 (x_m1 IM_11 (x_m1 IM_12 (x_m1 IM_13 (x_m1 IM_5 (x_m1 IM_6 rfl)))))) (x_m1 IM_0 (x_m1 IM_11 (x_m1 IM_12 (x_m1 IM_13 (x_m1 IM_5 (x_m1 IM_6 rfl)))))) (IM_c (fun k_ hk_ => pt_ne [13] _ (fun hm_ => hk_ ((by decide : ∀ x ∈ ([13] : List Nat), x ∈ ([0, 11, 12, 13, 5, 6] : List Nat)) k_ hm_))) (fun k_ hk_ => pt_ne [12] _ (fun hm_ => hk_ ((by decide : ∀ x ∈ ([12] : List Nat), x ∈ ([0, 11, 12, 13, 5, 6] : List Nat)) k_ hm_))) (fun _ => rfl)) (fun H locs hPM hPX hS => ?_)
  refine lv_icmp_eq (tgt := 1436) hx hb dL_law_717 (by decide) (fun _ => ?_) (fun c_ => absurd rfl c_)
  exact kk v j (pt w [13] [o_lg']) (pt t [12] [o_D']) q H locs ⟨hRO, hRS, hRR, hRN, hRT, hF, hnb, hRI, hfa, hRA⟩ hPX hPM hS
set_option maxHeartbeats 4000000 in
set_option maxRecDepth 20000 in
theorem lk_isConfluent (SS : LwS p s m meth c b L xs D G aX aM) (hR : Rel v j w t q) (hPX : xW D aX (IX G hX rX v j) H) (hPM : xW D aM (IM G hM rM w t q) H) (hS : va_S (fun q : Nat => s.heap.size ≤ q) s.heap H locs) (hl : lv_has ls 4 [(0, .ref b), (1, .ref (hX 0)), (2, .ref (hM 0)), (3, .int x3)]) (hi : LIn x3 L) (kk : LK p l e s m below meth c b D G aX aM hX rX hM rM 1436 ls) : W p l e room_1 s m #[Value.ref b] below meth c H locs 600000 7302249 (lw_Z below #[Value.ref b] s) (F0 m 722 ls []) := by
  obtain ⟨⟨hx, hb, hr, hml, hown, hts, hXb, hbl, hlocks, hgv⟩, hE, hNX, hNM, hd, hAX, hAM⟩ := SS
  have hown : s.vm.findClass RL = some m.cls := hown
  have htl : ∀ w ∈ wsL_law, w.before #[Value.ref b] s = true := fun w h => hts w (wsL_law_in w h)
  have hbA : ¬ (fun q : Nat => s.heap.size ≤ q) b := Nat.not_le.mpr hbl
  obtain ⟨hRO, hRS, hRR, hRN, hRT, hF, hnb, hRI, hfa, hRA⟩ := hR
  obtain ⟨op, hop, hox, hom⟩ := id hRO
  obtain ⟨sn, sm, sS, sT, sL, hsp, hsx, hsm, hw⟩ := id hRS
  obtain ⟨rc, rL, rR, hrp, hrx, hrm⟩ := id hRR
  obtain ⟨lt_, hlt, htx, htm⟩ := id hRT
  obtain ⟨li, hin, hix, him⟩ := id hRI
  obtain ⟨aK, har⟩ := id hRA
  obtain ⟨o_r, o_rows', o_D', e1, e2⟩ := s_isConfluent 100000 (by decide) hsp hsx hsm (v 67) (t 12)
  refine lv_aload_n hx hb dL_law_722 rfl (lv_at hl 1 rfl) ?_
  refine l_goi (ps := [0, 67, 4, 8, 6, 7]) (I' := IX G hX rX (pt v [67] [o_rows']) j) (x_runV (As := []) (rest := []) (ps := [0, 67, 4, 8, 6, 7]) ⟨hx, hb, hml, hown, htl⟩ (k_X11_isConfluent l D G 100000 (hX 0) (hX 1) (hX 4) (hX 9) (hX 12) (hX 15) (hX 20) (hX 23) (hX 26) (hX 33) (hX 40) (hX 42) (hX 55) (hX 57) (hX 63) (hX 67) (hX 5) (hX 6) (hX 7) (hX 8) (v 0 6) (v 4 0) (v 4 2) (v 67) (v 8) (v 6) (v 7) (o_r, o_rows') e1) (cwV 0 htl gL_law_X11_isConfluent rfl rfl rfl (by decide +kernel) ⟨Nat.le_of_ble_eq_true rfl, Nat.le_of_ble_eq_true rfl⟩) hE hPX hNX (x_m1 IX_0 (x_m1 IX_67 (x_m1 IX_4 (x_m1 IX_8 (x_m1 IX_6 (x_m1 IX_7 rfl)))))) (by decide) 0 IX_0 rfl rfl hl.1 (Nat.le_of_ble_eq_true rfl) dL_law_723 ⟨Nat.le_of_ble_eq_true rfl, Nat.le_of_ble_eq_true rfl⟩) hPX hPM hNX hd hAX hS (x_m1 IX_0 (x_m1 IX_67 (x_m1 IX_4 (x_m1 IX_8 (x_m1 IX_6 (x_m1 IX_7 rfl)))))) (x_m1 IX_0 (x_m1 IX_67 (x_m1 IX_4 (x_m1 IX_8 (x_m1 IX_6 (x_m1 IX_7 rfl)))))) (IX_c (fun k_ hk_ => pt_ne [67] _ (fun hm_ => hk_ ((by decide : ∀ x ∈ ([67] : List Nat), x ∈ ([0, 67, 4, 8, 6, 7] : List Nat)) k_ hm_))) (fun _ => rfl)) (fun H locs hPX hPM hS => ?_)
  refine lv_aload_n hx hb dL_law_726 rfl (lv_at hl 2 rfl) ?_
  refine l_goi (ps := [0, 11, 12, 5, 6]) (I' := IM G hM rM w (pt t [12] [o_D']) q) (x_runV (As := []) (rest := [.int o_r]) (ps := [0, 11, 12, 5, 6]) ⟨hx, hb, hml, hown, htl⟩ (k_X12_isConfluent l D G 100000 (hM 0) (hM 1) (hM 3) (hM 5) (hM 6) (hM 7) (hM 8) (hM 9) (hM 11) (hM 13) (hM 14) (hM 16) (hM 17) (hM 18) (hM 19) (hM 20) (hM 21) (hM 23) (hM 24) (hM 26) (hM 27) (hM 28) (hM 30) (hM 31) (hM 32) (hM 33) (hM 34) (hM 35) (hM 36) (hM 38) (hM 39) (hM 40) (hM 41) (hM 42) (hM 43) (hM 45) (hM 47) (rM 11) (w 0 2) (w 0 3) (w 0 11) (w 0 12) (w 0 16) (w 0 18) (w 0 20) (w 0 24) (w 0 25) (w 0 28) (w 0 29) (w 0 36) (w 0 40) (w 0 41) (w 0 42) (w 0 43) (t 12) (w 5) (w 6) (o_r, o_D') e2) (cwV 0 htl gL_law_X12_isConfluent rfl rfl rfl (by decide +kernel) ⟨Nat.le_of_ble_eq_true rfl, Nat.le_of_ble_eq_true rfl⟩) hE hPM hNM (x_m1 IM_0 (x_m1 IM_11 (x_m1 IM_12 (x_m1 IM_5 (x_m1 IM_6 rfl))))) (by decide) 0 IM_0 rfl rfl hl.1 (Nat.le_of_ble_eq_true rfl) dL_law_727 ⟨Nat.le_of_ble_eq_true rfl, Nat.le_of_ble_eq_true rfl⟩) hPM hPX hNM (fun q h1 h2 => hd q h2 h1) hAM hS (x_m1 IM_0 (x_m1 IM_11 (x_m1 IM_12 (x_m1 IM_5 (x_m1 IM_6 rfl))))) (x_m1 IM_0 (x_m1 IM_11 (x_m1 IM_12 (x_m1 IM_5 (x_m1 IM_6 rfl))))) (IM_c (fun _ _ => rfl) (fun k_ hk_ => pt_ne [12] _ (fun hm_ => hk_ ((by decide : ∀ x ∈ ([12] : List Nat), x ∈ ([0, 11, 12, 5, 6] : List Nat)) k_ hm_))) (fun _ => rfl)) (fun H locs hPM hPX hS => ?_)
  refine lv_icmp_eq (tgt := 1436) hx hb dL_law_730 (by decide) (fun _ => ?_) (fun c_ => absurd rfl c_)
  exact kk (pt v [67] [o_rows']) j w (pt t [12] [o_D']) q H locs ⟨hRO, hRS, hRR, hRN, hRT, hF, hnb, hRI, hfa, hRA⟩ hPX hPM hS
set_option maxHeartbeats 4000000 in
set_option maxRecDepth 20000 in
theorem lk_counterexample (SS : LwS p s m meth c b L xs D G aX aM) (hR : Rel v j w t q) (hPX : xW D aX (IX G hX rX v j) H) (hPM : xW D aM (IM G hM rM w t q) H) (hS : va_S (fun q : Nat => s.heap.size ≤ q) s.heap H locs) (hl : lv_has ls 4 [(0, .ref b), (1, .ref (hX 0)), (2, .ref (hM 0)), (3, .int x3)]) (hi : LIn x3 L) (kk : LK p l e s m below meth c b D G aX aM hX rX hM rM 1436 ls) : W p l e room_1 s m #[Value.ref b] below meth c H locs 600000 7302249 (lw_Z below #[Value.ref b] s) (F0 m 735 ls []) := by
  obtain ⟨⟨hx, hb, hr, hml, hown, hts, hXb, hbl, hlocks, hgv⟩, hE, hNX, hNM, hd, hAX, hAM⟩ := SS
  have hown : s.vm.findClass RL = some m.cls := hown
  have htl : ∀ w ∈ wsL_law, w.before #[Value.ref b] s = true := fun w h => hts w (wsL_law_in w h)
  have hbA : ¬ (fun q : Nat => s.heap.size ≤ q) b := Nat.not_le.mpr hbl
  obtain ⟨hRO, hRS, hRR, hRN, hRT, hF, hnb, hRI, hfa, hRA⟩ := hR
  obtain ⟨op, hop, hox, hom⟩ := id hRO
  obtain ⟨sn, sm, sS, sT, sL, hsp, hsx, hsm, hw⟩ := id hRS
  obtain ⟨rc, rL, rR, hrp, hrx, hrm⟩ := id hRR
  obtain ⟨lt_, hlt, htx, htm⟩ := id hRT
  obtain ⟨li, hin, hix, him⟩ := id hRI
  obtain ⟨aK, har⟩ := id hRA
  obtain ⟨o_r, o_rows', o_D', e1, e2⟩ := s_counterexample 100000 (by decide) hsp hsx hsm (v 67) (t 12)
  refine lv_aload_n hx hb dL_law_735 rfl (lv_at hl 1 rfl) ?_
  refine l_goi (ps := [0, 67, 4, 8, 6, 7]) (I' := IX G hX rX (pt v [67] [o_rows']) j) (x_runV (As := []) (rest := []) (ps := [0, 67, 4, 8, 6, 7]) ⟨hx, hb, hml, hown, htl⟩ (k_X11_counterexample l D G 100000 (hX 0) (hX 1) (hX 4) (hX 9) (hX 12) (hX 15) (hX 20) (hX 23) (hX 26) (hX 33) (hX 40) (hX 42) (hX 55) (hX 57) (hX 63) (hX 67) (hX 5) (hX 6) (hX 7) (hX 8) (v 0 6) (v 4 0) (v 4 2) (v 67) (v 8) (v 6) (v 7) (o_r, o_rows') e1) (cwV 0 htl gL_law_X11_counterexample rfl rfl rfl (by decide +kernel) ⟨Nat.le_of_ble_eq_true rfl, Nat.le_of_ble_eq_true rfl⟩) hE hPX hNX (x_m1 IX_0 (x_m1 IX_67 (x_m1 IX_4 (x_m1 IX_8 (x_m1 IX_6 (x_m1 IX_7 rfl)))))) (by decide) 0 IX_0 rfl rfl hl.1 (Nat.le_of_ble_eq_true rfl) dL_law_736 ⟨Nat.le_of_ble_eq_true rfl, Nat.le_of_ble_eq_true rfl⟩) hPX hPM hNX hd hAX hS (x_m1 IX_0 (x_m1 IX_67 (x_m1 IX_4 (x_m1 IX_8 (x_m1 IX_6 (x_m1 IX_7 rfl)))))) (x_m1 IX_0 (x_m1 IX_67 (x_m1 IX_4 (x_m1 IX_8 (x_m1 IX_6 (x_m1 IX_7 rfl)))))) (IX_c (fun k_ hk_ => pt_ne [67] _ (fun hm_ => hk_ ((by decide : ∀ x ∈ ([67] : List Nat), x ∈ ([0, 67, 4, 8, 6, 7] : List Nat)) k_ hm_))) (fun _ => rfl)) (fun H locs hPX hPM hS => ?_)
  refine lv_aload_n hx hb dL_law_739 rfl (lv_at hl 2 rfl) ?_
  refine l_goi (ps := [0, 11, 12, 5, 6]) (I' := IM G hM rM w (pt t [12] [o_D']) q) (x_runV (As := []) (rest := [.int o_r]) (ps := [0, 11, 12, 5, 6]) ⟨hx, hb, hml, hown, htl⟩ (k_X12_counterexample l D G 100000 (hM 0) (hM 1) (hM 3) (hM 5) (hM 6) (hM 7) (hM 8) (hM 9) (hM 11) (hM 13) (hM 14) (hM 16) (hM 17) (hM 18) (hM 19) (hM 20) (hM 21) (hM 23) (hM 24) (hM 26) (hM 27) (hM 28) (hM 30) (hM 31) (hM 32) (hM 33) (hM 34) (hM 35) (hM 36) (hM 38) (hM 39) (hM 40) (hM 41) (hM 42) (hM 43) (hM 45) (hM 47) (rM 11) (w 0 2) (w 0 3) (w 0 11) (w 0 12) (w 0 16) (w 0 18) (w 0 20) (w 0 24) (w 0 25) (w 0 28) (w 0 29) (w 0 36) (w 0 40) (w 0 41) (w 0 42) (w 0 43) (t 12) (w 5) (w 6) (o_r, o_D') e2) (cwV 0 htl gL_law_X12_counterexample rfl rfl rfl (by decide +kernel) ⟨Nat.le_of_ble_eq_true rfl, Nat.le_of_ble_eq_true rfl⟩) hE hPM hNM (x_m1 IM_0 (x_m1 IM_11 (x_m1 IM_12 (x_m1 IM_5 (x_m1 IM_6 rfl))))) (by decide) 0 IM_0 rfl rfl hl.1 (Nat.le_of_ble_eq_true rfl) dL_law_740 ⟨Nat.le_of_ble_eq_true rfl, Nat.le_of_ble_eq_true rfl⟩) hPM hPX hNM (fun q h1 h2 => hd q h2 h1) hAM hS (x_m1 IM_0 (x_m1 IM_11 (x_m1 IM_12 (x_m1 IM_5 (x_m1 IM_6 rfl))))) (x_m1 IM_0 (x_m1 IM_11 (x_m1 IM_12 (x_m1 IM_5 (x_m1 IM_6 rfl))))) (IM_c (fun _ _ => rfl) (fun k_ hk_ => pt_ne [12] _ (fun hm_ => hk_ ((by decide : ∀ x ∈ ([12] : List Nat), x ∈ ([0, 11, 12, 5, 6] : List Nat)) k_ hm_))) (fun _ => rfl)) (fun H locs hPM hPX hS => ?_)
  refine lv_icmp_eq (tgt := 1436) hx hb dL_law_743 (by decide) (fun _ => ?_) (fun c_ => absurd rfl c_)
  exact kk (pt v [67] [o_rows']) j w (pt t [12] [o_D']) q H locs ⟨hRO, hRS, hRR, hRN, hRT, hF, hnb, hRI, hfa, hRA⟩ hPX hPM hS
set_option maxHeartbeats 4000000 in
set_option maxRecDepth 20000 in
theorem lk_isLocallyConfluent (SS : LwS p s m meth c b L xs D G aX aM) (hR : Rel v j w t q) (hPX : xW D aX (IX G hX rX v j) H) (hPM : xW D aM (IM G hM rM w t q) H) (hS : va_S (fun q : Nat => s.heap.size ≤ q) s.heap H locs) (hl : lv_has ls 4 [(0, .ref b), (1, .ref (hX 0)), (2, .ref (hM 0)), (3, .int x3)]) (hi : LIn x3 L) (kk : LK p l e s m below meth c b D G aX aM hX rX hM rM 1436 ls) : W p l e room_1 s m #[Value.ref b] below meth c H locs 600000 7302249 (lw_Z below #[Value.ref b] s) (F0 m 748 ls []) := by
  obtain ⟨⟨hx, hb, hr, hml, hown, hts, hXb, hbl, hlocks, hgv⟩, hE, hNX, hNM, hd, hAX, hAM⟩ := SS
  have hown : s.vm.findClass RL = some m.cls := hown
  have htl : ∀ w ∈ wsL_law, w.before #[Value.ref b] s = true := fun w h => hts w (wsL_law_in w h)
  have hbA : ¬ (fun q : Nat => s.heap.size ≤ q) b := Nat.not_le.mpr hbl
  obtain ⟨hRO, hRS, hRR, hRN, hRT, hF, hnb, hRI, hfa, hRA⟩ := hR
  obtain ⟨op, hop, hox, hom⟩ := id hRO
  obtain ⟨sn, sm, sS, sT, sL, hsp, hsx, hsm, hw⟩ := id hRS
  obtain ⟨rc, rL, rR, hrp, hrx, hrm⟩ := id hRR
  obtain ⟨lt_, hlt, htx, htm⟩ := id hRT
  obtain ⟨li, hin, hix, him⟩ := id hRI
  obtain ⟨aK, har⟩ := id hRA
  obtain ⟨o_r, o_pc, o_f, o_g, o_rows', o_D', e1, e2⟩ := s_isLocallyConfluent 100000 (by decide) hsp hsx hsm (v 24) (v 25) (v 67) (t 12)
  refine lv_aload_n hx hb dL_law_748 rfl (lv_at hl 1 rfl) ?_
  refine l_goi (ps := [0, 23, 24, 25, 67, 4, 8, 6, 7]) (I' := IX G hX rX (pt v [23, 24, 25, 67] [pt (v 23) [0] [o_pc], o_f, o_g, o_rows']) j) (x_runV (As := []) (rest := []) (ps := [0, 23, 24, 25, 67, 4, 8, 6, 7]) ⟨hx, hb, hml, hown, htl⟩ (k_X11_isLocallyConfluent l D G 100000 (hX 0) (hX 1) (hX 4) (hX 9) (hX 12) (hX 15) (hX 20) (hX 23) (hX 26) (hX 33) (hX 40) (hX 42) (hX 55) (hX 57) (hX 63) (hX 67) (hX 24) (hX 25) (hX 5) (hX 6) (hX 7) (hX 8) (v 0 6) (v 23 0) (v 4 0) (v 4 2) (v 24) (v 25) (v 67) (v 8) (v 6) (v 7) (o_r, o_pc, o_f, o_g, o_rows') e1) (cwV 0 htl gL_law_X11_isLocallyConfluent rfl rfl rfl (by decide +kernel) ⟨Nat.le_of_ble_eq_true rfl, Nat.le_of_ble_eq_true rfl⟩) hE hPX hNX (x_m1 IX_0 (x_m1 IX_23 (x_m1 IX_24 (x_m1 IX_25 (x_m1 IX_67 (x_m1 IX_4 (x_m1 IX_8 (x_m1 IX_6 (x_m1 IX_7 rfl))))))))) (by decide) 0 IX_0 rfl rfl hl.1 (Nat.le_of_ble_eq_true rfl) dL_law_749 ⟨Nat.le_of_ble_eq_true rfl, Nat.le_of_ble_eq_true rfl⟩) hPX hPM hNX hd hAX hS (x_m1 IX_0 (x_m1 IX_23 (x_m1 IX_24 (x_m1 IX_25 (x_m1 IX_67 (x_m1 IX_4 (x_m1 IX_8 (x_m1 IX_6 (x_m1 IX_7 rfl))))))))) (x_m1 IX_0 (x_m1 IX_23 (x_m1 IX_24 (x_m1 IX_25 (x_m1 IX_67 (x_m1 IX_4 (x_m1 IX_8 (x_m1 IX_6 (x_m1 IX_7 rfl))))))))) (IX_c (fun k_ hk_ => pt_ne [23, 24, 25, 67] _ (fun hm_ => hk_ ((by decide : ∀ x ∈ ([23, 24, 25, 67] : List Nat), x ∈ ([0, 23, 24, 25, 67, 4, 8, 6, 7] : List Nat)) k_ hm_))) (fun _ => rfl)) (fun H locs hPX hPM hS => ?_)
  refine lv_aload_n hx hb dL_law_752 rfl (lv_at hl 2 rfl) ?_
  refine l_goi (ps := [0, 11, 12, 5, 6]) (I' := IM G hM rM w (pt t [12] [o_D']) q) (x_runV (As := []) (rest := [.int o_r]) (ps := [0, 11, 12, 5, 6]) ⟨hx, hb, hml, hown, htl⟩ (k_X12_isLocallyConfluent l D G 100000 (hM 0) (hM 1) (hM 3) (hM 5) (hM 6) (hM 7) (hM 8) (hM 9) (hM 11) (hM 13) (hM 14) (hM 16) (hM 17) (hM 18) (hM 19) (hM 20) (hM 21) (hM 23) (hM 24) (hM 26) (hM 27) (hM 28) (hM 30) (hM 31) (hM 32) (hM 33) (hM 34) (hM 35) (hM 36) (hM 38) (hM 39) (hM 40) (hM 41) (hM 42) (hM 43) (hM 45) (hM 47) (rM 11) (w 0 2) (w 0 3) (w 0 11) (w 0 12) (w 0 16) (w 0 18) (w 0 20) (w 0 24) (w 0 25) (w 0 28) (w 0 29) (w 0 36) (w 0 40) (w 0 41) (w 0 42) (w 0 43) (t 12) (w 5) (w 6) (o_r, o_D') e2) (cwV 0 htl gL_law_X12_isLocallyConfluent rfl rfl rfl (by decide +kernel) ⟨Nat.le_of_ble_eq_true rfl, Nat.le_of_ble_eq_true rfl⟩) hE hPM hNM (x_m1 IM_0 (x_m1 IM_11 (x_m1 IM_12 (x_m1 IM_5 (x_m1 IM_6 rfl))))) (by decide) 0 IM_0 rfl rfl hl.1 (Nat.le_of_ble_eq_true rfl) dL_law_753 ⟨Nat.le_of_ble_eq_true rfl, Nat.le_of_ble_eq_true rfl⟩) hPM hPX hNM (fun q h1 h2 => hd q h2 h1) hAM hS (x_m1 IM_0 (x_m1 IM_11 (x_m1 IM_12 (x_m1 IM_5 (x_m1 IM_6 rfl))))) (x_m1 IM_0 (x_m1 IM_11 (x_m1 IM_12 (x_m1 IM_5 (x_m1 IM_6 rfl))))) (IM_c (fun _ _ => rfl) (fun k_ hk_ => pt_ne [12] _ (fun hm_ => hk_ ((by decide : ∀ x ∈ ([12] : List Nat), x ∈ ([0, 11, 12, 5, 6] : List Nat)) k_ hm_))) (fun _ => rfl)) (fun H locs hPM hPX hS => ?_)
  refine lv_icmp_eq (tgt := 1436) hx hb dL_law_756 (by decide) (fun _ => ?_) (fun c_ => absurd rfl c_)
  exact kk (pt v [23, 24, 25, 67] [pt (v 23) [0] [o_pc], o_f, o_g, o_rows']) j w (pt t [12] [o_D']) q H locs ⟨hRO, hRS, hRR, hRN, hRT, hF, hnb, hRI, hfa, hRA⟩ hPX hPM hS
set_option maxHeartbeats 4000000 in
set_option maxRecDepth 20000 in
theorem lk_peakCount (SS : LwS p s m meth c b L xs D G aX aM) (hR : Rel v j w t q) (hPX : xW D aX (IX G hX rX v j) H) (hPM : xW D aM (IM G hM rM w t q) H) (hS : va_S (fun q : Nat => s.heap.size ≤ q) s.heap H locs) (hl : lv_has ls 4 [(0, .ref b), (1, .ref (hX 0)), (2, .ref (hM 0)), (3, .int x3)]) (hi : LIn x3 L) (kk : LK p l e s m below meth c b D G aX aM hX rX hM rM 1436 ls) : W p l e room_1 s m #[Value.ref b] below meth c H locs 600000 7302249 (lw_Z below #[Value.ref b] s) (F0 m 761 ls []) := by
  obtain ⟨⟨hx, hb, hr, hml, hown, hts, hXb, hbl, hlocks, hgv⟩, hE, hNX, hNM, hd, hAX, hAM⟩ := SS
  have hown : s.vm.findClass RL = some m.cls := hown
  have htl : ∀ w ∈ wsL_law, w.before #[Value.ref b] s = true := fun w h => hts w (wsL_law_in w h)
  have hbA : ¬ (fun q : Nat => s.heap.size ≤ q) b := Nat.not_le.mpr hbl
  obtain ⟨hRO, hRS, hRR, hRN, hRT, hF, hnb, hRI, hfa, hRA⟩ := hR
  obtain ⟨op, hop, hox, hom⟩ := id hRO
  obtain ⟨sn, sm, sS, sT, sL, hsp, hsx, hsm, hw⟩ := id hRS
  obtain ⟨rc, rL, rR, hrp, hrx, hrm⟩ := id hRR
  obtain ⟨lt_, hlt, htx, htm⟩ := id hRT
  obtain ⟨li, hin, hix, him⟩ := id hRI
  obtain ⟨aK, har⟩ := id hRA
  obtain ⟨o_r, o_pc, o_f, o_g, o_a, o_b, e1, e2⟩ := s_peakCount 100000 (by decide) hsp hsx hsm (v 24) (v 25) (w 0 11) (w 0 12)
  refine lv_aload_n hx hb dL_law_761 rfl (lv_at hl 1 rfl) ?_
  refine l_goi (ps := [0, 23, 24, 25, 4, 6]) (I' := IX G hX rX (pt v [23, 24, 25] [pt (v 23) [0] [o_pc], o_f, o_g]) j) (x_runV (As := []) (rest := []) (ps := [0, 23, 24, 25, 4, 6]) ⟨hx, hb, hml, hown, htl⟩ (k_X11_peakCount l D G 100000 (hX 0) (hX 1) (hX 4) (hX 9) (hX 12) (hX 15) (hX 20) (hX 23) (hX 26) (hX 33) (hX 40) (hX 42) (hX 55) (hX 57) (hX 63) (hX 67) (hX 24) (hX 25) (hX 5) (hX 6) (hX 7) (hX 8) (v 0 6) (v 23 0) (v 4 0) (v 4 2) (v 24) (v 25) (v 6) (o_r, o_pc, o_f, o_g) e1) (cwV 0 htl gL_law_X11_peakCount rfl rfl rfl (by decide +kernel) ⟨Nat.le_of_ble_eq_true rfl, Nat.le_of_ble_eq_true rfl⟩) hE hPX hNX (x_m1 IX_0 (x_m1 IX_23 (x_m1 IX_24 (x_m1 IX_25 (x_m1 IX_4 (x_m1 IX_6 rfl)))))) (by decide) 0 IX_0 rfl rfl hl.1 (Nat.le_of_ble_eq_true rfl) dL_law_762 ⟨Nat.le_of_ble_eq_true rfl, Nat.le_of_ble_eq_true rfl⟩) hPX hPM hNX hd hAX hS (x_m1 IX_0 (x_m1 IX_23 (x_m1 IX_24 (x_m1 IX_25 (x_m1 IX_4 (x_m1 IX_6 rfl)))))) (x_m1 IX_0 (x_m1 IX_23 (x_m1 IX_24 (x_m1 IX_25 (x_m1 IX_4 (x_m1 IX_6 rfl)))))) (IX_c (fun k_ hk_ => pt_ne [23, 24, 25] _ (fun hm_ => hk_ ((by decide : ∀ x ∈ ([23, 24, 25] : List Nat), x ∈ ([0, 23, 24, 25, 4, 6] : List Nat)) k_ hm_))) (fun _ => rfl)) (fun H locs hPX hPM hS => ?_)
  refine lv_aload_n hx hb dL_law_765 rfl (lv_at hl 2 rfl) ?_
  refine l_goi (ps := [0, 5]) (I' := IM G hM rM (pt w [0] [pt (w 0) [11, 12] [o_a, o_b]]) t q) (x_runV (As := []) (rest := [.int o_r]) (ps := [0, 5]) ⟨hx, hb, hml, hown, htl⟩ (k_X12_peakCount l D G 100000 (hM 0) (hM 1) (hM 3) (hM 5) (hM 6) (hM 7) (hM 8) (hM 9) (hM 11) (hM 13) (hM 14) (hM 16) (hM 17) (hM 18) (hM 19) (hM 20) (hM 21) (hM 23) (hM 24) (hM 26) (hM 27) (hM 28) (hM 30) (hM 31) (hM 32) (hM 33) (hM 34) (hM 35) (hM 36) (hM 38) (hM 39) (hM 40) (hM 41) (hM 42) (hM 43) (hM 45) (hM 47) (w 0 2) (w 0 3) (w 0 11) (w 0 12) (w 0 16) (w 0 18) (w 0 20) (w 0 24) (w 0 25) (w 0 28) (w 0 29) (w 0 36) (w 0 40) (w 0 41) (w 0 42) (w 0 43) (w 5) (o_r, o_a, o_b) e2) (cwV 0 htl gL_law_X12_peakCount rfl rfl rfl (by decide +kernel) ⟨Nat.le_of_ble_eq_true rfl, Nat.le_of_ble_eq_true rfl⟩) hE hPM hNM (x_m1 IM_0 (x_m1 IM_5 rfl)) (by decide) 0 IM_0 rfl rfl hl.1 (Nat.le_of_ble_eq_true rfl) dL_law_766 ⟨Nat.le_of_ble_eq_true rfl, Nat.le_of_ble_eq_true rfl⟩) hPM hPX hNM (fun q h1 h2 => hd q h2 h1) hAM hS (x_m1 IM_0 (x_m1 IM_5 rfl)) (x_m1 IM_0 (x_m1 IM_5 rfl)) (IM_c (fun k_ hk_ => pt_ne [0] _ (fun hm_ => hk_ ((by decide : ∀ x ∈ ([0] : List Nat), x ∈ ([0, 5] : List Nat)) k_ hm_))) (fun _ _ => rfl) (fun _ => rfl)) (fun H locs hPM hPX hS => ?_)
  refine lv_icmp_eq (tgt := 1436) hx hb dL_law_769 (by decide) (fun _ => ?_) (fun c_ => absurd rfl c_)
  exact kk (pt v [23, 24, 25] [pt (v 23) [0] [o_pc], o_f, o_g]) j (pt w [0] [pt (w 0) [11, 12] [o_a, o_b]]) t q H locs ⟨hRO, hRS, hRR, hRN, hRT, hF, hnb, hRI, hfa, hRA⟩ hPX hPM hS
end LCASES
