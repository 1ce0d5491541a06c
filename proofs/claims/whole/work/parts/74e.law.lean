section LCASES
variable {p : Program} {l : Launch} {e : Env} {s : State} {m : MethodId} {below : List Frame} {meth : Method} {c : Code} {b L : Nat} {xs : Nat → Int32} {D : va_G} {G : Nat → ClassId} {aX aM : List (List Nat)} {hX : Nat → Nat} {rX : Nat → Nat → Nat} {hM : Nat → Nat} {rM : Nat → Nat → Nat} {v : Nat → Nat → Int32} {j : Nat → Nat → Int64} {w : Nat → Nat → Int32} {t : Nat → Nat → Nat → Int32} {q : Nat → Nat → Int64} {H : Heap} {locs : List Loc} {ls : Array Slot} {x3 : Int32}
set_option maxHeartbeats 4000000 in
set_option maxRecDepth 20000 in
theorem lk_peakStep (SS : LwS p s m meth c b L xs D G aX aM) (hR : Rel v j w t q) (hPX : xW D aX (IX G hX rX v j) H) (hPM : xW D aM (IM G hM rM w t q) H) (hS : va_S (fun q : Nat => s.heap.size ≤ q) s.heap H locs) (hl : lv_has ls 4 [(0, .ref b), (1, .ref (hX 0)), (2, .ref (hM 0)), (3, .int x3)]) (hi : LIn x3 L) (kk : LK p l e s m below meth c b D G aX aM hX rX hM rM 1436 ls) : W p l e room_1 s m #[Value.ref b] below meth c H locs 600000 7302249 (lw_Z below #[Value.ref b] s) (F0 m 774 ls []) := by
  obtain ⟨⟨hx, hb, hr, hml, hown, hts, hXb, hbl, hlocks, hgv⟩, hE, hNX, hNM, hd, hAX, hAM⟩ := SS
  have hown : s.vm.findClass RL = some m.cls := hown
  have htl : ∀ w ∈ wsL_law, w.before #[Value.ref b] s = true := fun w h => hts w (wsL_law_in w h)
  have hbA : ¬ (fun q : Nat => s.heap.size ≤ q) b := Nat.not_le.mpr hbl
  obtain ⟨i1, i2, i3, i4⟩ := hi
  obtain ⟨hRO, hRS, hRR, hRN, hRT, hF, hnb, hRI, hfa, hRA⟩ := hR
  obtain ⟨op, hop, hox, hom⟩ := id hRO
  obtain ⟨sn, sm, sS, sT, sL, hsp, hsx, hsm, hw⟩ := id hRS
  obtain ⟨rc, rL, rR, hrp, hrx, hrm⟩ := id hRR
  obtain ⟨lt_, hlt, htx, htm⟩ := id hRT
  obtain ⟨li, hin, hix, him⟩ := id hRI
  obtain ⟨aK, har⟩ := id hRA
  obtain ⟨o_r, o_pc, o_f, o_g, o_a, o_b, e1, e2⟩ := s_peakStep 100000 (by decide) hsp hsx hsm (v 24) (v 25) (w 0 11) (w 0 12) (xs (x3 + 1).toNatClampNeg) (xs (x3 + 2).toNatClampNeg)
  refine lv_aload_n hx hb dL_law_774 rfl (lv_at hl 1 rfl) ?_
  refine lv_aload_n hx hb dL_law_775 rfl (lv_at hl 0 rfl) ?_
  refine lv_iload_n hx hb dL_law_776 rfl (lv_at hl 3 rfl) ?_
  refine lv_iconst (v := 1) hx hb dL_law_777 (by decide) ?_
  refine lv_iadd hx hb dL_law_778 ?_
  refine va_sld hx hb hXb hbl hbA hS i1 dL_law_779 ?_
  refine lv_aload_n hx hb dL_law_780 rfl (lv_at hl 0 rfl) ?_
  refine lv_iload_n hx hb dL_law_781 rfl (lv_at hl 3 rfl) ?_
  refine lv_iconst (v := 2) hx hb dL_law_782 (by decide) ?_
  refine lv_iadd hx hb dL_law_783 ?_
  refine va_sld hx hb hXb hbl hbA hS i2 dL_law_784 ?_
  refine l_goi (ps := [0, 23, 24, 25, 4, 6]) (I' := IX G hX rX (pt v [23, 24, 25] [pt (v 23) [0] [o_pc], o_f, o_g]) j) (x_runV (As := [.int (xs (x3 + 1).toNatClampNeg), .int (xs (x3 + 2).toNatClampNeg)]) (rest := []) (ps := [0, 23, 24, 25, 4, 6]) ⟨hx, hb, hml, hown, htl⟩ (k_X11_peakStep l D G 100000 (hX 0) (hX 1) (hX 4) (hX 9) (hX 12) (hX 15) (hX 20) (hX 23) (hX 26) (hX 33) (hX 40) (hX 42) (hX 55) (hX 57) (hX 63) (hX 67) (hX 24) (hX 25) (hX 5) (hX 6) (hX 7) (hX 8) (v 0 6) (v 23 0) (v 4 0) (v 4 2) (v 24) (v 25) (v 6) (xs (x3 + 1).toNatClampNeg) (xs (x3 + 2).toNatClampNeg) (o_r, o_pc, o_f, o_g) e1) (cwV 2 htl gL_law_X11_peakStep rfl rfl rfl (by decide +kernel) ⟨Nat.le_of_ble_eq_true rfl, Nat.le_of_ble_eq_true rfl⟩) hE hPX hNX (x_m1 IX_0 (x_m1 IX_23 (x_m1 IX_24 (x_m1 IX_25 (x_m1 IX_4 (x_m1 IX_6 rfl)))))) (by decide) 0 IX_0 rfl rfl hl.1 (Nat.le_of_ble_eq_true rfl) dL_law_785 ⟨Nat.le_of_ble_eq_true rfl, Nat.le_of_ble_eq_true rfl⟩) hPX hPM hNX hd hAX hS (x_m1 IX_0 (x_m1 IX_23 (x_m1 IX_24 (x_m1 IX_25 (x_m1 IX_4 (x_m1 IX_6 rfl)))))) (x_m1 IX_0 (x_m1 IX_23 (x_m1 IX_24 (x_m1 IX_25 (x_m1 IX_4 (x_m1 IX_6 rfl)))))) (IX_c (fun k_ hk_ => pt_ne [23, 24, 25] _ (fun hm_ => hk_ ((by decide : ∀ x ∈ ([23, 24, 25] : List Nat), x ∈ ([0, 23, 24, 25, 4, 6] : List Nat)) k_ hm_))) (fun _ => rfl)) (fun H locs hPX hPM hS => ?_)
  refine lv_aload_n hx hb dL_law_788 rfl (lv_at hl 2 rfl) ?_
  refine lv_aload_n hx hb dL_law_789 rfl (lv_at hl 0 rfl) ?_
  refine lv_iload_n hx hb dL_law_790 rfl (lv_at hl 3 rfl) ?_
  refine lv_iconst (v := 1) hx hb dL_law_791 (by decide) ?_
  refine lv_iadd hx hb dL_law_792 ?_
  refine va_sld hx hb hXb hbl hbA hS i1 dL_law_793 ?_
  refine lv_aload_n hx hb dL_law_794 rfl (lv_at hl 0 rfl) ?_
  refine lv_iload_n hx hb dL_law_795 rfl (lv_at hl 3 rfl) ?_
  refine lv_iconst (v := 2) hx hb dL_law_796 (by decide) ?_
  refine lv_iadd hx hb dL_law_797 ?_
  refine va_sld hx hb hXb hbl hbA hS i2 dL_law_798 ?_
  refine l_goi (ps := [0, 5]) (I' := IM G hM rM (pt w [0] [pt (w 0) [11, 12] [o_a, o_b]]) t q) (x_runV (As := [.int (xs (x3 + 1).toNatClampNeg), .int (xs (x3 + 2).toNatClampNeg)]) (rest := [.int o_r]) (ps := [0, 5]) ⟨hx, hb, hml, hown, htl⟩ (k_X12_peakStep l D G 100000 (hM 0) (hM 1) (hM 3) (hM 5) (hM 6) (hM 7) (hM 8) (hM 9) (hM 11) (hM 13) (hM 14) (hM 16) (hM 17) (hM 18) (hM 19) (hM 20) (hM 21) (hM 23) (hM 24) (hM 26) (hM 27) (hM 28) (hM 30) (hM 31) (hM 32) (hM 33) (hM 34) (hM 35) (hM 36) (hM 38) (hM 39) (hM 40) (hM 41) (hM 42) (hM 43) (hM 45) (hM 47) (w 0 2) (w 0 3) (w 0 11) (w 0 12) (w 0 16) (w 0 18) (w 0 20) (w 0 24) (w 0 25) (w 0 28) (w 0 29) (w 0 36) (w 0 40) (w 0 41) (w 0 42) (w 0 43) (w 5) (xs (x3 + 1).toNatClampNeg) (xs (x3 + 2).toNatClampNeg) (o_r, o_a, o_b) e2) (cwV 2 htl gL_law_X12_peakStep rfl rfl rfl (by decide +kernel) ⟨Nat.le_of_ble_eq_true rfl, Nat.le_of_ble_eq_true rfl⟩) hE hPM hNM (x_m1 IM_0 (x_m1 IM_5 rfl)) (by decide) 0 IM_0 rfl rfl hl.1 (Nat.le_of_ble_eq_true rfl) dL_law_799 ⟨Nat.le_of_ble_eq_true rfl, Nat.le_of_ble_eq_true rfl⟩) hPM hPX hNM (fun q h1 h2 => hd q h2 h1) hAM hS (x_m1 IM_0 (x_m1 IM_5 rfl)) (x_m1 IM_0 (x_m1 IM_5 rfl)) (IM_c (fun k_ hk_ => pt_ne [0] _ (fun hm_ => hk_ ((by decide : ∀ x ∈ ([0] : List Nat), x ∈ ([0, 5] : List Nat)) k_ hm_))) (fun _ _ => rfl) (fun _ => rfl)) (fun H locs hPM hPX hS => ?_)
  refine lv_icmp_eq (tgt := 1436) hx hb dL_law_802 (by decide) (fun _ => ?_) (fun c_ => absurd rfl c_)
  exact kk (pt v [23, 24, 25] [pt (v 23) [0] [o_pc], o_f, o_g]) j (pt w [0] [pt (w 0) [11, 12] [o_a, o_b]]) t q H locs ⟨hRO, hRS, hRR, hRN, hRT, hF, hnb, hRI, hfa, hRA⟩ hPX hPM hS
set_option maxHeartbeats 4000000 in
set_option maxRecDepth 20000 in
theorem lk_isDecreasing (SS : LwS p s m meth c b L xs D G aX aM) (hR : Rel v j w t q) (hPX : xW D aX (IX G hX rX v j) H) (hPM : xW D aM (IM G hM rM w t q) H) (hS : va_S (fun q : Nat => s.heap.size ≤ q) s.heap H locs) (hl : lv_has ls 4 [(0, .ref b), (1, .ref (hX 0)), (2, .ref (hM 0)), (3, .int x3)]) (hi : LIn x3 L) (kk : LK p l e s m below meth c b D G aX aM hX rX hM rM 1436 ls) : W p l e room_1 s m #[Value.ref b] below meth c H locs 600000 7302249 (lw_Z below #[Value.ref b] s) (F0 m 807 ls []) := by
  obtain ⟨⟨hx, hb, hr, hml, hown, hts, hXb, hbl, hlocks, hgv⟩, hE, hNX, hNM, hd, hAX, hAM⟩ := SS
  have hown : s.vm.findClass RL = some m.cls := hown
  have htl : ∀ w ∈ wsL_law, w.before #[Value.ref b] s = true := fun w h => hts w (wsL_law_in w h)
  have hbA : ¬ (fun q : Nat => s.heap.size ≤ q) b := Nat.not_le.mpr hbl
  obtain ⟨i1, i2, i3, i4⟩ := hi
  obtain ⟨hRO, hRS, hRR, hRN, hRT, hF, hnb, hRI, hfa, hRA⟩ := hR
  obtain ⟨op, hop, hox, hom⟩ := id hRO
  obtain ⟨sn, sm, sS, sT, sL, hsp, hsx, hsm, hw⟩ := id hRS
  obtain ⟨rc, rL, rR, hrp, hrx, hrm⟩ := id hRR
  obtain ⟨lt_, hlt, htx, htm⟩ := id hRT
  obtain ⟨li, hin, hix, him⟩ := id hRI
  obtain ⟨aK, har⟩ := id hRA
  obtain ⟨o_r, o_pc, o_f, o_g, o_a, o_b, o_M, e1, e2⟩ := s_isDecreasing 100000 (by decide) hsp hsx hsm hox.1 hom.1 (v 24) (v 25) (w 0 11) (w 0 12) (t 15) (xs (x3 + 1).toNatClampNeg)
  refine lv_aload_n hx hb dL_law_807 rfl (lv_at hl 1 rfl) ?_
  refine lv_aload_n hx hb dL_law_808 rfl (lv_at hl 0 rfl) ?_
  refine lv_iload_n hx hb dL_law_809 rfl (lv_at hl 3 rfl) ?_
  refine lv_iconst (v := 1) hx hb dL_law_810 (by decide) ?_
  refine lv_iadd hx hb dL_law_811 ?_
  refine va_sld hx hb hXb hbl hbA hS i1 dL_law_812 ?_
  refine l_goi (ps := [0, 1, 3, 23, 24, 25, 4, 8, 6, 7]) (I' := IX G hX rX (pt v [23, 24, 25] [pt (v 23) [0] [o_pc], o_f, o_g]) j) (x_runV (As := [.int (xs (x3 + 1).toNatClampNeg)]) (rest := []) (ps := [0, 1, 3, 23, 24, 25, 4, 8, 6, 7]) ⟨hx, hb, hml, hown, htl⟩ (k_X11_isDecreasing l D G 100000 (hX 0) (hX 1) (hX 4) (hX 9) (hX 12) (hX 15) (hX 20) (hX 23) (hX 26) (hX 33) (hX 40) (hX 42) (hX 55) (hX 57) (hX 63) (hX 67) (hX 2) (hX 3) (hX 24) (hX 25) (hX 5) (hX 6) (hX 7) (hX 8) (v 0 6) (v 23 0) (v 4 0) (v 4 2) (v 3) (v 24) (v 25) (v 8) (v 6) (v 7) (xs (x3 + 1).toNatClampNeg) (o_r, o_pc, o_f, o_g) e1) (cwV 1 htl gL_law_X11_isDecreasing rfl rfl rfl (by decide +kernel) ⟨Nat.le_of_ble_eq_true rfl, Nat.le_of_ble_eq_true rfl⟩) hE hPX hNX (x_m1 IX_0 (x_m1 IX_1 (x_m1 IX_3 (x_m1 IX_23 (x_m1 IX_24 (x_m1 IX_25 (x_m1 IX_4 (x_m1 IX_8 (x_m1 IX_6 (x_m1 IX_7 rfl)))))))))) (by decide) 0 IX_0 rfl rfl hl.1 (Nat.le_of_ble_eq_true rfl) dL_law_813 ⟨Nat.le_of_ble_eq_true rfl, Nat.le_of_ble_eq_true rfl⟩) hPX hPM hNX hd hAX hS (x_m1 IX_0 (x_m1 IX_1 (x_m1 IX_3 (x_m1 IX_23 (x_m1 IX_24 (x_m1 IX_25 (x_m1 IX_4 (x_m1 IX_8 (x_m1 IX_6 (x_m1 IX_7 rfl)))))))))) (x_m1 IX_0 (x_m1 IX_1 (x_m1 IX_3 (x_m1 IX_23 (x_m1 IX_24 (x_m1 IX_25 (x_m1 IX_4 (x_m1 IX_8 (x_m1 IX_6 (x_m1 IX_7 rfl)))))))))) (IX_c (fun k_ hk_ => pt_ne [23, 24, 25] _ (fun hm_ => hk_ ((by decide : ∀ x ∈ ([23, 24, 25] : List Nat), x ∈ ([0, 1, 3, 23, 24, 25, 4, 8, 6, 7] : List Nat)) k_ hm_))) (fun _ => rfl)) (fun H locs hPX hPM hS => ?_)
  refine lv_aload_n hx hb dL_law_816 rfl (lv_at hl 2 rfl) ?_
  refine lv_aload_n hx hb dL_law_817 rfl (lv_at hl 0 rfl) ?_
  refine lv_iload_n hx hb dL_law_818 rfl (lv_at hl 3 rfl) ?_
  refine lv_iconst (v := 1) hx hb dL_law_819 (by decide) ?_
  refine lv_iadd hx hb dL_law_820 ?_
  refine va_sld hx hb hXb hbl hbA hS i1 dL_law_821 ?_
  refine l_goi (ps := [0, 3, 4, 7, 14, 15, 5, 6]) (I' := IM G hM rM (pt w [0] [pt (w 0) [11, 12] [o_a, o_b]]) (pt t [15] [o_M]) q) (x_runV (As := [.int (xs (x3 + 1).toNatClampNeg)]) (rest := [.int o_r]) (ps := [0, 3, 4, 7, 14, 15, 5, 6]) ⟨hx, hb, hml, hown, htl⟩ (k_X12_isDecreasing l D G 100000 (hM 0) (hM 1) (hM 3) (hM 5) (hM 6) (hM 7) (hM 8) (hM 9) (hM 11) (hM 13) (hM 14) (hM 16) (hM 17) (hM 18) (hM 19) (hM 20) (hM 21) (hM 23) (hM 24) (hM 26) (hM 27) (hM 28) (hM 30) (hM 31) (hM 32) (hM 33) (hM 34) (hM 35) (hM 36) (hM 38) (hM 39) (hM 40) (hM 41) (hM 42) (hM 43) (hM 45) (hM 47) (rM 3) (rM 14) (w 0 2) (w 0 3) (w 0 11) (w 0 12) (w 0 16) (w 0 18) (w 0 20) (w 0 24) (w 0 25) (w 0 28) (w 0 29) (w 0 36) (w 0 40) (w 0 41) (w 0 42) (w 0 43) (t 4) (w 7) (t 15) (w 5) (w 6) (xs (x3 + 1).toNatClampNeg) (o_r, o_a, o_M, o_b) e2) (cwV 1 htl gL_law_X12_isDecreasing rfl rfl rfl (by decide +kernel) ⟨Nat.le_of_ble_eq_true rfl, Nat.le_of_ble_eq_true rfl⟩) hE hPM hNM (x_m1 IM_0 (x_m1 IM_3 (x_m1 IM_4 (x_m1 IM_7 (x_m1 IM_14 (x_m1 IM_15 (x_m1 IM_5 (x_m1 IM_6 rfl)))))))) (by decide) 0 IM_0 rfl rfl hl.1 (Nat.le_of_ble_eq_true rfl) dL_law_822 ⟨Nat.le_of_ble_eq_true rfl, Nat.le_of_ble_eq_true rfl⟩) hPM hPX hNM (fun q h1 h2 => hd q h2 h1) hAM hS (x_m1 IM_0 (x_m1 IM_3 (x_m1 IM_4 (x_m1 IM_7 (x_m1 IM_14 (x_m1 IM_15 (x_m1 IM_5 (x_m1 IM_6 rfl)))))))) (x_m1 IM_0 (x_m1 IM_3 (x_m1 IM_4 (x_m1 IM_7 (x_m1 IM_14 (x_m1 IM_15 (x_m1 IM_5 (x_m1 IM_6 rfl)))))))) (IM_c (fun k_ hk_ => pt_ne [0] _ (fun hm_ => hk_ ((by decide : ∀ x ∈ ([0] : List Nat), x ∈ ([0, 3, 4, 7, 14, 15, 5, 6] : List Nat)) k_ hm_))) (fun k_ hk_ => pt_ne [15] _ (fun hm_ => hk_ ((by decide : ∀ x ∈ ([15] : List Nat), x ∈ ([0, 3, 4, 7, 14, 15, 5, 6] : List Nat)) k_ hm_))) (fun _ => rfl)) (fun H locs hPM hPX hS => ?_)
  refine lv_icmp_eq (tgt := 1436) hx hb dL_law_825 (by decide) (fun _ => ?_) (fun c_ => absurd rfl c_)
  exact kk (pt v [23, 24, 25] [pt (v 23) [0] [o_pc], o_f, o_g]) j (pt w [0] [pt (w 0) [11, 12] [o_a, o_b]]) (pt t [15] [o_M]) q H locs ⟨hRO, hRS, hRR, hRN, hRT, hF, hnb, hRI, hfa, hRA⟩ hPX hPM hS
set_option maxHeartbeats 4000000 in
set_option maxRecDepth 20000 in
theorem lk_valley (SS : LwS p s m meth c b L xs D G aX aM) (hR : Rel v j w t q) (hPX : xW D aX (IX G hX rX v j) H) (hPM : xW D aM (IM G hM rM w t q) H) (hS : va_S (fun q : Nat => s.heap.size ≤ q) s.heap H locs) (hl : lv_has ls 4 [(0, .ref b), (1, .ref (hX 0)), (2, .ref (hM 0)), (3, .int x3)]) (hi : LIn x3 L) (kk : LK p l e s m below meth c b D G aX aM hX rX hM rM 1436 ls) : W p l e room_1 s m #[Value.ref b] below meth c H locs 600000 7302249 (lw_Z below #[Value.ref b] s) (F0 m 830 ls []) := by
  obtain ⟨⟨hx, hb, hr, hml, hown, hts, hXb, hbl, hlocks, hgv⟩, hE, hNX, hNM, hd, hAX, hAM⟩ := SS
  have hown : s.vm.findClass RL = some m.cls := hown
  have htl : ∀ w ∈ wsL_law, w.before #[Value.ref b] s = true := fun w h => hts w (wsL_law_in w h)
  have hbA : ¬ (fun q : Nat => s.heap.size ≤ q) b := Nat.not_le.mpr hbl
  obtain ⟨i1, i2, i3, i4⟩ := hi
  obtain ⟨hRO, hRS, hRR, hRN, hRT, hF, hnb, hRI, hfa, hRA⟩ := hR
  obtain ⟨op, hop, hox, hom⟩ := id hRO
  obtain ⟨sn, sm, sS, sT, sL, hsp, hsx, hsm, hw⟩ := id hRS
  obtain ⟨rc, rL, rR, hrp, hrx, hrm⟩ := id hRR
  obtain ⟨lt_, hlt, htx, htm⟩ := id hRT
  obtain ⟨li, hin, hix, him⟩ := id hRI
  obtain ⟨aK, har⟩ := id hRA
  obtain ⟨o_r, o_X, o_a, o_b, o_M, e1, e2⟩ := s_valley 100000 (by decide) hsp hsx hsm hox.1 hom.1 (v 26 0) (v 26 1) (v 26 2) (v 26 3) (v 33 0) (v 33 1) (v 33 2) (v 33 3) (v 31) (v 32) (v 29) (v 27) (v 28) (v 30) (v 24) (v 25) (v 38) (v 39) (v 36) (v 34) (v 35) (v 37) (w 0 11) (w 0 12) (t 15) (xs (x3 + 1).toNatClampNeg)
  refine lv_aload_n hx hb dL_law_830 rfl (lv_at hl 1 rfl) ?_
  refine lv_aload_n hx hb dL_law_831 rfl (lv_at hl 0 rfl) ?_
  refine lv_iload_n hx hb dL_law_832 rfl (lv_at hl 3 rfl) ?_
  refine lv_iconst (v := 1) hx hb dL_law_833 (by decide) ?_
  refine lv_iadd hx hb dL_law_834 ?_
  refine va_sld hx hb hXb hbl hbA hS i1 dL_law_835 ?_
  refine l_goi (ps := [0, 26, 31, 32, 29, 27, 28, 30, 1, 3, 23, 24, 25, 33, 38, 39, 36, 34, 35, 37, 4, 8, 6, 7]) (I' := IX G hX rX (pt v [26, 31, 32, 29, 27, 28, 30, 23, 24, 25, 33, 38, 39, 36, 34, 35, 37] [pt (v 26) [0, 1, 2, 3] [(o_X.1 1), (o_X.1 0), (o_X.1 2), (o_X.1 3)], (o_X.2 0), (o_X.2 1), (o_X.2 2), (o_X.2 3), (o_X.2 4), (o_X.2 5), pt (v 23) [0] [(o_X.1 4)], (o_X.2 6), (o_X.2 7), pt (v 33) [0, 1, 2, 3] [(o_X.1 6), (o_X.1 5), (o_X.1 7), (o_X.1 8)], (o_X.2 8), (o_X.2 9), (o_X.2 10), (o_X.2 11), (o_X.2 12), (o_X.2 13)]) j) (x_runV (As := [.int (xs (x3 + 1).toNatClampNeg)]) (rest := []) (ps := [0, 26, 31, 32, 29, 27, 28, 30, 1, 3, 23, 24, 25, 33, 38, 39, 36, 34, 35, 37, 4, 8, 6, 7]) ⟨hx, hb, hml, hown, htl⟩ (k_X11_valley l D G 100000 (hX 0) (hX 1) (hX 4) (hX 9) (hX 12) (hX 15) (hX 20) (hX 23) (hX 26) (hX 33) (hX 40) (hX 42) (hX 55) (hX 57) (hX 63) (hX 67) (hX 27) (hX 28) (hX 29) (hX 30) (hX 31) (hX 32) (hX 2) (hX 3) (hX 24) (hX 25) (hX 34) (hX 35) (hX 36) (hX 37) (hX 38) (hX 39) (hX 5) (hX 6) (hX 7) (hX 8) (v 0 6) (v 26 0) (v 26 1) (v 26 2) (v 26 3) (v 23 0) (v 33 0) (v 33 1) (v 33 2) (v 33 3) (v 4 0) (v 4 2) (v 31) (v 32) (v 29) (v 27) (v 28) (v 30) (v 3) (v 24) (v 25) (v 38) (v 39) (v 36) (v 34) (v 35) (v 37) (v 8) (v 6) (v 7) (xs (x3 + 1).toNatClampNeg) (o_r, o_X) e1) (cwV 1 htl gL_law_X11_valley rfl rfl rfl (by decide +kernel) ⟨Nat.le_of_ble_eq_true rfl, Nat.le_of_ble_eq_true rfl⟩) hE hPX hNX (x_m1 IX_0 (x_m1 IX_26 (x_m1 IX_31 (x_m1 IX_32 (x_m1 IX_29 (x_m1 IX_27 (x_m1 IX_28 (x_m1 IX_30 (x_m1 IX_1 (x_m1 IX_3 (x_m1 IX_23 (x_m1 IX_24 (x_m1 IX_25 (x_m1 IX_33 (x_m1 IX_38 (x_m1 IX_39 (x_m1 IX_36 (x_m1 IX_34 (x_m1 IX_35 (x_m1 IX_37 (x_m1 IX_4 (x_m1 IX_8 (x_m1 IX_6 (x_m1 IX_7 rfl)))))))))))))))))))))))) (by decide) 0 IX_0 rfl rfl hl.1 (Nat.le_of_ble_eq_true rfl) dL_law_836 ⟨Nat.le_of_ble_eq_true rfl, Nat.le_of_ble_eq_true rfl⟩) hPX hPM hNX hd hAX hS (x_m1 IX_0 (x_m1 IX_26 (x_m1 IX_31 (x_m1 IX_32 (x_m1 IX_29 (x_m1 IX_27 (x_m1 IX_28 (x_m1 IX_30 (x_m1 IX_1 (x_m1 IX_3 (x_m1 IX_23 (x_m1 IX_24 (x_m1 IX_25 (x_m1 IX_33 (x_m1 IX_38 (x_m1 IX_39 (x_m1 IX_36 (x_m1 IX_34 (x_m1 IX_35 (x_m1 IX_37 (x_m1 IX_4 (x_m1 IX_8 (x_m1 IX_6 (x_m1 IX_7 rfl)))))))))))))))))))))))) (x_m1 IX_0 (x_m1 IX_26 (x_m1 IX_31 (x_m1 IX_32 (x_m1 IX_29 (x_m1 IX_27 (x_m1 IX_28 (x_m1 IX_30 (x_m1 IX_1 (x_m1 IX_3 (x_m1 IX_23 (x_m1 IX_24 (x_m1 IX_25 (x_m1 IX_33 (x_m1 IX_38 (x_m1 IX_39 (x_m1 IX_36 (x_m1 IX_34 (x_m1 IX_35 (x_m1 IX_37 (x_m1 IX_4 (x_m1 IX_8 (x_m1 IX_6 (x_m1 IX_7 rfl)))))))))))))))))))))))) (IX_c (fun k_ hk_ => pt_ne [26, 31, 32, 29, 27, 28, 30, 23, 24, 25, 33, 38, 39, 36, 34, 35, 37] _ (fun hm_ => hk_ ((by decide : ∀ x ∈ ([26, 31, 32, 29, 27, 28, 30, 23, 24, 25, 33, 38, 39, 36, 34, 35, 37] : List Nat), x ∈ ([0, 26, 31, 32, 29, 27, 28, 30, 1, 3, 23, 24, 25, 33, 38, 39, 36, 34, 35, 37, 4, 8, 6, 7] : List Nat)) k_ hm_))) (fun _ => rfl)) (fun H locs hPX hPM hS => ?_)
  refine lv_aload_n hx hb dL_law_839 rfl (lv_at hl 2 rfl) ?_
  refine lv_aload_n hx hb dL_law_840 rfl (lv_at hl 0 rfl) ?_
  refine lv_iload_n hx hb dL_law_841 rfl (lv_at hl 3 rfl) ?_
  refine lv_iconst (v := 1) hx hb dL_law_842 (by decide) ?_
  refine lv_iadd hx hb dL_law_843 ?_
  refine va_sld hx hb hXb hbl hbA hS i1 dL_law_844 ?_
  refine l_goi (ps := [0, 3, 4, 7, 14, 15, 5, 6]) (I' := IM G hM rM (pt w [0] [pt (w 0) [11, 12] [o_a, o_b]]) (pt t [15] [o_M]) q) (x_runV (As := [.int (xs (x3 + 1).toNatClampNeg)]) (rest := [.int o_r]) (ps := [0, 3, 4, 7, 14, 15, 5, 6]) ⟨hx, hb, hml, hown, htl⟩ (k_X12_valley l D G 100000 (hM 0) (hM 1) (hM 3) (hM 5) (hM 6) (hM 7) (hM 8) (hM 9) (hM 11) (hM 13) (hM 14) (hM 16) (hM 17) (hM 18) (hM 19) (hM 20) (hM 21) (hM 23) (hM 24) (hM 26) (hM 27) (hM 28) (hM 30) (hM 31) (hM 32) (hM 33) (hM 34) (hM 35) (hM 36) (hM 38) (hM 39) (hM 40) (hM 41) (hM 42) (hM 43) (hM 45) (hM 47) (rM 3) (rM 14) (w 0 2) (w 0 3) (w 0 11) (w 0 12) (w 0 16) (w 0 18) (w 0 20) (w 0 24) (w 0 25) (w 0 28) (w 0 29) (w 0 36) (w 0 40) (w 0 41) (w 0 42) (w 0 43) (t 4) (w 7) (t 15) (w 5) (w 6) (xs (x3 + 1).toNatClampNeg) (o_r, o_a, o_M, o_b) e2) (cwV 1 htl gL_law_X12_valley rfl rfl rfl (by decide +kernel) ⟨Nat.le_of_ble_eq_true rfl, Nat.le_of_ble_eq_true rfl⟩) hE hPM hNM (x_m1 IM_0 (x_m1 IM_3 (x_m1 IM_4 (x_m1 IM_7 (x_m1 IM_14 (x_m1 IM_15 (x_m1 IM_5 (x_m1 IM_6 rfl)))))))) (by decide) 0 IM_0 rfl rfl hl.1 (Nat.le_of_ble_eq_true rfl) dL_law_845 ⟨Nat.le_of_ble_eq_true rfl, Nat.le_of_ble_eq_true rfl⟩) hPM hPX hNM (fun q h1 h2 => hd q h2 h1) hAM hS (x_m1 IM_0 (x_m1 IM_3 (x_m1 IM_4 (x_m1 IM_7 (x_m1 IM_14 (x_m1 IM_15 (x_m1 IM_5 (x_m1 IM_6 rfl)))))))) (x_m1 IM_0 (x_m1 IM_3 (x_m1 IM_4 (x_m1 IM_7 (x_m1 IM_14 (x_m1 IM_15 (x_m1 IM_5 (x_m1 IM_6 rfl)))))))) (IM_c (fun k_ hk_ => pt_ne [0] _ (fun hm_ => hk_ ((by decide : ∀ x ∈ ([0] : List Nat), x ∈ ([0, 3, 4, 7, 14, 15, 5, 6] : List Nat)) k_ hm_))) (fun k_ hk_ => pt_ne [15] _ (fun hm_ => hk_ ((by decide : ∀ x ∈ ([15] : List Nat), x ∈ ([0, 3, 4, 7, 14, 15, 5, 6] : List Nat)) k_ hm_))) (fun _ => rfl)) (fun H locs hPM hPX hS => ?_)
  refine lv_icmp_eq (tgt := 1436) hx hb dL_law_848 (by decide) (fun _ => ?_) (fun c_ => absurd rfl c_)
  exact kk (pt v [26, 31, 32, 29, 27, 28, 30, 23, 24, 25, 33, 38, 39, 36, 34, 35, 37] [pt (v 26) [0, 1, 2, 3] [(o_X.1 1), (o_X.1 0), (o_X.1 2), (o_X.1 3)], (o_X.2 0), (o_X.2 1), (o_X.2 2), (o_X.2 3), (o_X.2 4), (o_X.2 5), pt (v 23) [0] [(o_X.1 4)], (o_X.2 6), (o_X.2 7), pt (v 33) [0, 1, 2, 3] [(o_X.1 6), (o_X.1 5), (o_X.1 7), (o_X.1 8)], (o_X.2 8), (o_X.2 9), (o_X.2 10), (o_X.2 11), (o_X.2 12), (o_X.2 13)]) j (pt w [0] [pt (w 0) [11, 12] [o_a, o_b]]) (pt t [15] [o_M]) q H locs ⟨hRO, hRS, hRR, hRN, hRT, hF, hnb, hRI, hfa, hRA⟩ hPX hPM hS
set_option maxHeartbeats 4000000 in
set_option maxRecDepth 20000 in
theorem lk_joinLength (SS : LwS p s m meth c b L xs D G aX aM) (hR : Rel v j w t q) (hPX : xW D aX (IX G hX rX v j) H) (hPM : xW D aM (IM G hM rM w t q) H) (hS : va_S (fun q : Nat => s.heap.size ≤ q) s.heap H locs) (hl : lv_has ls 4 [(0, .ref b), (1, .ref (hX 0)), (2, .ref (hM 0)), (3, .int x3)]) (hi : LIn x3 L) (kk : LK p l e s m below meth c b D G aX aM hX rX hM rM 1436 ls) : W p l e room_1 s m #[Value.ref b] below meth c H locs 600000 7302249 (lw_Z below #[Value.ref b] s) (F0 m 853 ls []) := by
  obtain ⟨⟨hx, hb, hr, hml, hown, hts, hXb, hbl, hlocks, hgv⟩, hE, hNX, hNM, hd, hAX, hAM⟩ := SS
  have hown : s.vm.findClass RL = some m.cls := hown
  have htl : ∀ w ∈ wsL_law, w.before #[Value.ref b] s = true := fun w h => hts w (wsL_law_in w h)
  have hbA : ¬ (fun q : Nat => s.heap.size ≤ q) b := Nat.not_le.mpr hbl
  obtain ⟨i1, i2, i3, i4⟩ := hi
  obtain ⟨hRO, hRS, hRR, hRN, hRT, hF, hnb, hRI, hfa, hRA⟩ := hR
  obtain ⟨op, hop, hox, hom⟩ := id hRO
  obtain ⟨sn, sm, sS, sT, sL, hsp, hsx, hsm, hw⟩ := id hRS
  obtain ⟨rc, rL, rR, hrp, hrx, hrm⟩ := id hRR
  obtain ⟨lt_, hlt, htx, htm⟩ := id hRT
  obtain ⟨li, hin, hix, him⟩ := id hRI
  obtain ⟨aK, har⟩ := id hRA
  obtain ⟨o_r, o_X, o_a, o_b, o_M, e1, e2⟩ := s_joinLength 100000 (by decide) hsp hsx hsm hox.1 hom.1 (v 26 0) (v 26 1) (v 26 2) (v 26 3) (v 23 0) (v 33 0) (v 33 1) (v 33 2) (v 33 3) (v 31) (v 32) (v 29) (v 27) (v 28) (v 30) (v 24) (v 25) (v 38) (v 39) (v 36) (v 34) (v 35) (v 37) (w 0 11) (w 0 12) (t 15) (xs (x3 + 1).toNatClampNeg) (xs (x3 + 2).toNatClampNeg)
  refine lv_aload_n hx hb dL_law_853 rfl (lv_at hl 1 rfl) ?_
  refine lv_aload_n hx hb dL_law_854 rfl (lv_at hl 0 rfl) ?_
  refine lv_iload_n hx hb dL_law_855 rfl (lv_at hl 3 rfl) ?_
  refine lv_iconst (v := 1) hx hb dL_law_856 (by decide) ?_
  refine lv_iadd hx hb dL_law_857 ?_
  refine va_sld hx hb hXb hbl hbA hS i1 dL_law_858 ?_
  refine lv_aload_n hx hb dL_law_859 rfl (lv_at hl 0 rfl) ?_
  refine lv_iload_n hx hb dL_law_860 rfl (lv_at hl 3 rfl) ?_
  refine lv_iconst (v := 2) hx hb dL_law_861 (by decide) ?_
  refine lv_iadd hx hb dL_law_862 ?_
  refine va_sld hx hb hXb hbl hbA hS i2 dL_law_863 ?_
  refine l_goi (ps := [0, 26, 31, 32, 29, 27, 28, 30, 1, 3, 23, 24, 25, 33, 38, 39, 36, 34, 35, 37, 4, 8, 6, 7]) (I' := IX G hX rX (pt v [26, 31, 32, 29, 27, 28, 30, 23, 24, 25, 33, 38, 39, 36, 34, 35, 37] [pt (v 26) [0, 1, 2, 3] [(o_X.1 1), (o_X.1 0), (o_X.1 2), (o_X.1 3)], (o_X.2 0), (o_X.2 1), (o_X.2 2), (o_X.2 3), (o_X.2 4), (o_X.2 5), pt (v 23) [0] [(o_X.1 4)], (o_X.2 6), (o_X.2 7), pt (v 33) [0, 1, 2, 3] [(o_X.1 6), (o_X.1 5), (o_X.1 7), (o_X.1 8)], (o_X.2 8), (o_X.2 9), (o_X.2 10), (o_X.2 11), (o_X.2 12), (o_X.2 13)]) j) (x_runV (As := [.int (xs (x3 + 1).toNatClampNeg), .int (xs (x3 + 2).toNatClampNeg)]) (rest := []) (ps := [0, 26, 31, 32, 29, 27, 28, 30, 1, 3, 23, 24, 25, 33, 38, 39, 36, 34, 35, 37, 4, 8, 6, 7]) ⟨hx, hb, hml, hown, htl⟩ (k_X11_joinLength l D G 100000 (hX 0) (hX 1) (hX 4) (hX 9) (hX 12) (hX 15) (hX 20) (hX 23) (hX 26) (hX 33) (hX 40) (hX 42) (hX 55) (hX 57) (hX 63) (hX 67) (hX 27) (hX 28) (hX 29) (hX 30) (hX 31) (hX 32) (hX 2) (hX 3) (hX 24) (hX 25) (hX 34) (hX 35) (hX 36) (hX 37) (hX 38) (hX 39) (hX 5) (hX 6) (hX 7) (hX 8) (v 0 6) (v 26 0) (v 26 1) (v 26 2) (v 26 3) (v 23 0) (v 33 0) (v 33 1) (v 33 2) (v 33 3) (v 4 0) (v 4 2) (v 31) (v 32) (v 29) (v 27) (v 28) (v 30) (v 3) (v 24) (v 25) (v 38) (v 39) (v 36) (v 34) (v 35) (v 37) (v 8) (v 6) (v 7) (xs (x3 + 1).toNatClampNeg) (xs (x3 + 2).toNatClampNeg) (o_r, o_X) e1) (cwV 2 htl gL_law_X11_joinLength rfl rfl rfl (by decide +kernel) ⟨Nat.le_of_ble_eq_true rfl, Nat.le_of_ble_eq_true rfl⟩) hE hPX hNX (x_m1 IX_0 (x_m1 IX_26 (x_m1 IX_31 (x_m1 IX_32 (x_m1 IX_29 (x_m1 IX_27 (x_m1 IX_28 (x_m1 IX_30 (x_m1 IX_1 (x_m1 IX_3 (x_m1 IX_23 (x_m1 IX_24 (x_m1 IX_25 (x_m1 IX_33 (x_m1 IX_38 (x_m1 IX_39 (x_m1 IX_36 (x_m1 IX_34 (x_m1 IX_35 (x_m1 IX_37 (x_m1 IX_4 (x_m1 IX_8 (x_m1 IX_6 (x_m1 IX_7 rfl)))))))))))))))))))))))) (by decide) 0 IX_0 rfl rfl hl.1 (Nat.le_of_ble_eq_true rfl) dL_law_864 ⟨Nat.le_of_ble_eq_true rfl, Nat.le_of_ble_eq_true rfl⟩) hPX hPM hNX hd hAX hS (x_m1 IX_0 (x_m1 IX_26 (x_m1 IX_31 (x_m1 IX_32 (x_m1 IX_29 (x_m1 IX_27 (x_m1 IX_28 (x_m1 IX_30 (x_m1 IX_1 (x_m1 IX_3 (x_m1 IX_23 (x_m1 IX_24 (x_m1 IX_25 (x_m1 IX_33 (x_m1 IX_38 (x_m1 IX_39 (x_m1 IX_36 (x_m1 IX_34 (x_m1 IX_35 (x_m1 IX_37 (x_m1 IX_4 (x_m1 IX_8 (x_m1 IX_6 (x_m1 IX_7 rfl)))))))))))))))))))))))) (x_m1 IX_0 (x_m1 IX_26 (x_m1 IX_31 (x_m1 IX_32 (x_m1 IX_29 (x_m1 IX_27 (x_m1 IX_28 (x_m1 IX_30 (x_m1 IX_1 (x_m1 IX_3 (x_m1 IX_23 (x_m1 IX_24 (x_m1 IX_25 (x_m1 IX_33 (x_m1 IX_38 (x_m1 IX_39 (x_m1 IX_36 (x_m1 IX_34 (x_m1 IX_35 (x_m1 IX_37 (x_m1 IX_4 (x_m1 IX_8 (x_m1 IX_6 (x_m1 IX_7 rfl)))))))))))))))))))))))) (IX_c (fun k_ hk_ => pt_ne [26, 31, 32, 29, 27, 28, 30, 23, 24, 25, 33, 38, 39, 36, 34, 35, 37] _ (fun hm_ => hk_ ((by decide : ∀ x ∈ ([26, 31, 32, 29, 27, 28, 30, 23, 24, 25, 33, 38, 39, 36, 34, 35, 37] : List Nat), x ∈ ([0, 26, 31, 32, 29, 27, 28, 30, 1, 3, 23, 24, 25, 33, 38, 39, 36, 34, 35, 37, 4, 8, 6, 7] : List Nat)) k_ hm_))) (fun _ => rfl)) (fun H locs hPX hPM hS => ?_)
  refine lv_aload_n hx hb dL_law_867 rfl (lv_at hl 2 rfl) ?_
  refine lv_aload_n hx hb dL_law_868 rfl (lv_at hl 0 rfl) ?_
  refine lv_iload_n hx hb dL_law_869 rfl (lv_at hl 3 rfl) ?_
  refine lv_iconst (v := 1) hx hb dL_law_870 (by decide) ?_
  refine lv_iadd hx hb dL_law_871 ?_
  refine va_sld hx hb hXb hbl hbA hS i1 dL_law_872 ?_
  refine lv_aload_n hx hb dL_law_873 rfl (lv_at hl 0 rfl) ?_
  refine lv_iload_n hx hb dL_law_874 rfl (lv_at hl 3 rfl) ?_
  refine lv_iconst (v := 2) hx hb dL_law_875 (by decide) ?_
  refine lv_iadd hx hb dL_law_876 ?_
  refine va_sld hx hb hXb hbl hbA hS i2 dL_law_877 ?_
  refine l_goi (ps := [0, 3, 4, 7, 14, 15, 5, 6]) (I' := IM G hM rM (pt w [0] [pt (w 0) [11, 12] [o_a, o_b]]) (pt t [15] [o_M]) q) (x_runV (As := [.int (xs (x3 + 1).toNatClampNeg), .int (xs (x3 + 2).toNatClampNeg)]) (rest := [.int o_r]) (ps := [0, 3, 4, 7, 14, 15, 5, 6]) ⟨hx, hb, hml, hown, htl⟩ (k_X12_joinLength l D G 100000 (hM 0) (hM 1) (hM 3) (hM 5) (hM 6) (hM 7) (hM 8) (hM 9) (hM 11) (hM 13) (hM 14) (hM 16) (hM 17) (hM 18) (hM 19) (hM 20) (hM 21) (hM 23) (hM 24) (hM 26) (hM 27) (hM 28) (hM 30) (hM 31) (hM 32) (hM 33) (hM 34) (hM 35) (hM 36) (hM 38) (hM 39) (hM 40) (hM 41) (hM 42) (hM 43) (hM 45) (hM 47) (rM 3) (rM 14) (w 0 2) (w 0 3) (w 0 11) (w 0 12) (w 0 16) (w 0 18) (w 0 20) (w 0 24) (w 0 25) (w 0 28) (w 0 29) (w 0 36) (w 0 40) (w 0 41) (w 0 42) (w 0 43) (t 4) (w 7) (t 15) (w 5) (w 6) (xs (x3 + 1).toNatClampNeg) (xs (x3 + 2).toNatClampNeg) (o_r, o_a, o_M, o_b) e2) (cwV 2 htl gL_law_X12_joinLength rfl rfl rfl (by decide +kernel) ⟨Nat.le_of_ble_eq_true rfl, Nat.le_of_ble_eq_true rfl⟩) hE hPM hNM (x_m1 IM_0 (x_m1 IM_3 (x_m1 IM_4 (x_m1 IM_7 (x_m1 IM_14 (x_m1 IM_15 (x_m1 IM_5 (x_m1 IM_6 rfl)))))))) (by decide) 0 IM_0 rfl rfl hl.1 (Nat.le_of_ble_eq_true rfl) dL_law_878 ⟨Nat.le_of_ble_eq_true rfl, Nat.le_of_ble_eq_true rfl⟩) hPM hPX hNM (fun q h1 h2 => hd q h2 h1) hAM hS (x_m1 IM_0 (x_m1 IM_3 (x_m1 IM_4 (x_m1 IM_7 (x_m1 IM_14 (x_m1 IM_15 (x_m1 IM_5 (x_m1 IM_6 rfl)))))))) (x_m1 IM_0 (x_m1 IM_3 (x_m1 IM_4 (x_m1 IM_7 (x_m1 IM_14 (x_m1 IM_15 (x_m1 IM_5 (x_m1 IM_6 rfl)))))))) (IM_c (fun k_ hk_ => pt_ne [0] _ (fun hm_ => hk_ ((by decide : ∀ x ∈ ([0] : List Nat), x ∈ ([0, 3, 4, 7, 14, 15, 5, 6] : List Nat)) k_ hm_))) (fun k_ hk_ => pt_ne [15] _ (fun hm_ => hk_ ((by decide : ∀ x ∈ ([15] : List Nat), x ∈ ([0, 3, 4, 7, 14, 15, 5, 6] : List Nat)) k_ hm_))) (fun _ => rfl)) (fun H locs hPM hPX hS => ?_)
  refine lv_icmp_eq (tgt := 1436) hx hb dL_law_881 (by decide) (fun _ => ?_) (fun c_ => absurd rfl c_)
  exact kk (pt v [26, 31, 32, 29, 27, 28, 30, 23, 24, 25, 33, 38, 39, 36, 34, 35, 37] [pt (v 26) [0, 1, 2, 3] [(o_X.1 1), (o_X.1 0), (o_X.1 2), (o_X.1 3)], (o_X.2 0), (o_X.2 1), (o_X.2 2), (o_X.2 3), (o_X.2 4), (o_X.2 5), pt (v 23) [0] [(o_X.1 4)], (o_X.2 6), (o_X.2 7), pt (v 33) [0, 1, 2, 3] [(o_X.1 6), (o_X.1 5), (o_X.1 7), (o_X.1 8)], (o_X.2 8), (o_X.2 9), (o_X.2 10), (o_X.2 11), (o_X.2 12), (o_X.2 13)]) j (pt w [0] [pt (w 0) [11, 12] [o_a, o_b]]) (pt t [15] [o_M]) q H locs ⟨hRO, hRS, hRR, hRN, hRT, hF, hnb, hRI, hfa, hRA⟩ hPX hPM hS
set_option maxHeartbeats 4000000 in
set_option maxRecDepth 20000 in
theorem lk_joinStep (SS : LwS p s m meth c b L xs D G aX aM) (hR : Rel v j w t q) (hPX : xW D aX (IX G hX rX v j) H) (hPM : xW D aM (IM G hM rM w t q) H) (hS : va_S (fun q : Nat => s.heap.size ≤ q) s.heap H locs) (hl : lv_has ls 4 [(0, .ref b), (1, .ref (hX 0)), (2, .ref (hM 0)), (3, .int x3)]) (hi : LIn x3 L) (kk : LK p l e s m below meth c b D G aX aM hX rX hM rM 1436 ls) : W p l e room_1 s m #[Value.ref b] below meth c H locs 600000 7302249 (lw_Z below #[Value.ref b] s) (F0 m 886 ls []) := by
  obtain ⟨⟨hx, hb, hr, hml, hown, hts, hXb, hbl, hlocks, hgv⟩, hE, hNX, hNM, hd, hAX, hAM⟩ := SS
  have hown : s.vm.findClass RL = some m.cls := hown
  have htl : ∀ w ∈ wsL_law, w.before #[Value.ref b] s = true := fun w h => hts w (wsL_law_in w h)
  have hbA : ¬ (fun q : Nat => s.heap.size ≤ q) b := Nat.not_le.mpr hbl
  obtain ⟨i1, i2, i3, i4⟩ := hi
  obtain ⟨hRO, hRS, hRR, hRN, hRT, hF, hnb, hRI, hfa, hRA⟩ := hR
  obtain ⟨op, hop, hox, hom⟩ := id hRO
  obtain ⟨sn, sm, sS, sT, sL, hsp, hsx, hsm, hw⟩ := id hRS
  obtain ⟨rc, rL, rR, hrp, hrx, hrm⟩ := id hRR
  obtain ⟨lt_, hlt, htx, htm⟩ := id hRT
  obtain ⟨li, hin, hix, him⟩ := id hRI
  obtain ⟨aK, har⟩ := id hRA
  obtain ⟨o_r, o_X, o_Y, e1, e2⟩ := s_joinStep 100000 (by decide) hsp hsx hsm hox.1 hom.1 (v 26 0) (v 26 1) (v 26 2) (v 26 3) (v 23 0) (v 33 0) (v 33 1) (v 33 2) (v 33 3) (v 31) (v 32) (v 29) (v 27) (v 28) (v 30) (v 24) (v 25) (v 38) (v 39) (v 36) (v 34) (v 35) (v 37) (w 0 11) (w 0 12) (w 0 16) (w 16) (w 17) (t 15) (xs (x3 + 1).toNatClampNeg) (xs (x3 + 2).toNatClampNeg) (xs (x3 + 3).toNatClampNeg)
  refine lv_aload_n hx hb dL_law_886 rfl (lv_at hl 1 rfl) ?_
  refine lv_aload_n hx hb dL_law_887 rfl (lv_at hl 0 rfl) ?_
  refine lv_iload_n hx hb dL_law_888 rfl (lv_at hl 3 rfl) ?_
  refine lv_iconst (v := 1) hx hb dL_law_889 (by decide) ?_
  refine lv_iadd hx hb dL_law_890 ?_
  refine va_sld hx hb hXb hbl hbA hS i1 dL_law_891 ?_
  refine lv_aload_n hx hb dL_law_892 rfl (lv_at hl 0 rfl) ?_
  refine lv_iload_n hx hb dL_law_893 rfl (lv_at hl 3 rfl) ?_
  refine lv_iconst (v := 2) hx hb dL_law_894 (by decide) ?_
  refine lv_iadd hx hb dL_law_895 ?_
  refine va_sld hx hb hXb hbl hbA hS i2 dL_law_896 ?_
  refine lv_aload_n hx hb dL_law_897 rfl (lv_at hl 0 rfl) ?_
  refine lv_iload_n hx hb dL_law_898 rfl (lv_at hl 3 rfl) ?_
  refine lv_iconst (v := 3) hx hb dL_law_899 (by decide) ?_
  refine lv_iadd hx hb dL_law_900 ?_
  refine va_sld hx hb hXb hbl hbA hS i3 dL_law_901 ?_
  refine l_goi (ps := [0, 26, 31, 32, 29, 27, 28, 30, 1, 3, 23, 24, 25, 33, 38, 39, 36, 34, 35, 37, 4, 8, 6, 7]) (I' := IX G hX rX (pt v [26, 31, 32, 29, 27, 28, 30, 23, 24, 25, 33, 38, 39, 36, 34, 35, 37] [pt (v 26) [0, 1, 2, 3] [(o_X.1 1), (o_X.1 0), (o_X.1 2), (o_X.1 3)], (o_X.2 0), (o_X.2 1), (o_X.2 2), (o_X.2 3), (o_X.2 4), (o_X.2 5), pt (v 23) [0] [(o_X.1 4)], (o_X.2 6), (o_X.2 7), pt (v 33) [0, 1, 2, 3] [(o_X.1 6), (o_X.1 5), (o_X.1 7), (o_X.1 8)], (o_X.2 8), (o_X.2 9), (o_X.2 10), (o_X.2 11), (o_X.2 12), (o_X.2 13)]) j) (x_runV (As := [.int (xs (x3 + 1).toNatClampNeg), .int (xs (x3 + 2).toNatClampNeg), .int (xs (x3 + 3).toNatClampNeg)]) (rest := []) (ps := [0, 26, 31, 32, 29, 27, 28, 30, 1, 3, 23, 24, 25, 33, 38, 39, 36, 34, 35, 37, 4, 8, 6, 7]) ⟨hx, hb, hml, hown, htl⟩ (k_X11_joinStep l D G 100000 (hX 0) (hX 1) (hX 4) (hX 9) (hX 12) (hX 15) (hX 20) (hX 23) (hX 26) (hX 33) (hX 40) (hX 42) (hX 55) (hX 57) (hX 63) (hX 67) (hX 27) (hX 28) (hX 29) (hX 30) (hX 31) (hX 32) (hX 2) (hX 3) (hX 24) (hX 25) (hX 34) (hX 35) (hX 36) (hX 37) (hX 38) (hX 39) (hX 5) (hX 6) (hX 7) (hX 8) (v 0 6) (v 26 0) (v 26 1) (v 26 2) (v 26 3) (v 23 0) (v 33 0) (v 33 1) (v 33 2) (v 33 3) (v 4 0) (v 4 2) (v 31) (v 32) (v 29) (v 27) (v 28) (v 30) (v 3) (v 24) (v 25) (v 38) (v 39) (v 36) (v 34) (v 35) (v 37) (v 8) (v 6) (v 7) (xs (x3 + 1).toNatClampNeg) (xs (x3 + 2).toNatClampNeg) (xs (x3 + 3).toNatClampNeg) (o_r, o_X) e1) (cwV 3 htl gL_law_X11_joinStep rfl rfl rfl (by decide +kernel) ⟨Nat.le_of_ble_eq_true rfl, Nat.le_of_ble_eq_true rfl⟩) hE hPX hNX (x_m1 IX_0 (x_m1 IX_26 (x_m1 IX_31 (x_m1 IX_32 (x_m1 IX_29 (x_m1 IX_27 (x_m1 IX_28 (x_m1 IX_30 (x_m1 IX_1 (x_m1 IX_3 (x_m1 IX_23 (x_m1 IX_24 (x_m1 IX_25 (x_m1 IX_33 (x_m1 IX_38 (x_m1 IX_39 (x_m1 IX_36 (x_m1 IX_34 (x_m1 IX_35 (x_m1 IX_37 (x_m1 IX_4 (x_m1 IX_8 (x_m1 IX_6 (x_m1 IX_7 rfl)))))))))))))))))))))))) (by decide) 0 IX_0 rfl rfl hl.1 (Nat.le_of_ble_eq_true rfl) dL_law_902 ⟨Nat.le_of_ble_eq_true rfl, Nat.le_of_ble_eq_true rfl⟩) hPX hPM hNX hd hAX hS (x_m1 IX_0 (x_m1 IX_26 (x_m1 IX_31 (x_m1 IX_32 (x_m1 IX_29 (x_m1 IX_27 (x_m1 IX_28 (x_m1 IX_30 (x_m1 IX_1 (x_m1 IX_3 (x_m1 IX_23 (x_m1 IX_24 (x_m1 IX_25 (x_m1 IX_33 (x_m1 IX_38 (x_m1 IX_39 (x_m1 IX_36 (x_m1 IX_34 (x_m1 IX_35 (x_m1 IX_37 (x_m1 IX_4 (x_m1 IX_8 (x_m1 IX_6 (x_m1 IX_7 rfl)))))))))))))))))))))))) (x_m1 IX_0 (x_m1 IX_26 (x_m1 IX_31 (x_m1 IX_32 (x_m1 IX_29 (x_m1 IX_27 (x_m1 IX_28 (x_m1 IX_30 (x_m1 IX_1 (x_m1 IX_3 (x_m1 IX_23 (x_m1 IX_24 (x_m1 IX_25 (x_m1 IX_33 (x_m1 IX_38 (x_m1 IX_39 (x_m1 IX_36 (x_m1 IX_34 (x_m1 IX_35 (x_m1 IX_37 (x_m1 IX_4 (x_m1 IX_8 (x_m1 IX_6 (x_m1 IX_7 rfl)))))))))))))))))))))))) (IX_c (fun k_ hk_ => pt_ne [26, 31, 32, 29, 27, 28, 30, 23, 24, 25, 33, 38, 39, 36, 34, 35, 37] _ (fun hm_ => hk_ ((by decide : ∀ x ∈ ([26, 31, 32, 29, 27, 28, 30, 23, 24, 25, 33, 38, 39, 36, 34, 35, 37] : List Nat), x ∈ ([0, 26, 31, 32, 29, 27, 28, 30, 1, 3, 23, 24, 25, 33, 38, 39, 36, 34, 35, 37, 4, 8, 6, 7] : List Nat)) k_ hm_))) (fun _ => rfl)) (fun H locs hPX hPM hS => ?_)
  refine lv_aload_n hx hb dL_law_905 rfl (lv_at hl 2 rfl) ?_
  refine lv_aload_n hx hb dL_law_906 rfl (lv_at hl 0 rfl) ?_
  refine lv_iload_n hx hb dL_law_907 rfl (lv_at hl 3 rfl) ?_
  refine lv_iconst (v := 1) hx hb dL_law_908 (by decide) ?_
  refine lv_iadd hx hb dL_law_909 ?_
  refine va_sld hx hb hXb hbl hbA hS i1 dL_law_910 ?_
  refine lv_aload_n hx hb dL_law_911 rfl (lv_at hl 0 rfl) ?_
  refine lv_iload_n hx hb dL_law_912 rfl (lv_at hl 3 rfl) ?_
  refine lv_iconst (v := 2) hx hb dL_law_913 (by decide) ?_
  refine lv_iadd hx hb dL_law_914 ?_
  refine va_sld hx hb hXb hbl hbA hS i2 dL_law_915 ?_
  refine lv_aload_n hx hb dL_law_916 rfl (lv_at hl 0 rfl) ?_
  refine lv_iload_n hx hb dL_law_917 rfl (lv_at hl 3 rfl) ?_
  refine lv_iconst (v := 3) hx hb dL_law_918 (by decide) ?_
  refine lv_iadd hx hb dL_law_919 ?_
  refine va_sld hx hb hXb hbl hbA hS i3 dL_law_920 ?_
  refine l_goi (ps := [0, 3, 4, 7, 16, 14, 15, 17, 5, 6]) (I' := IM G hM rM (pt w [0, 16, 17] [pt (w 0) [11, 12, 16] [(o_Y.1 0), (o_Y.1 2), (o_Y.1 1)], (o_Y.2.1 0), (o_Y.2.1 1)]) (pt t [15] [(o_Y.2.2 0)]) q) (x_runV (As := [.int (xs (x3 + 1).toNatClampNeg), .int (xs (x3 + 2).toNatClampNeg), .int (xs (x3 + 3).toNatClampNeg)]) (rest := [.int o_r]) (ps := [0, 3, 4, 7, 16, 14, 15, 17, 5, 6]) ⟨hx, hb, hml, hown, htl⟩ (k_X12_joinStep l D G 100000 (hM 0) (hM 1) (hM 3) (hM 5) (hM 6) (hM 7) (hM 8) (hM 9) (hM 11) (hM 13) (hM 14) (hM 16) (hM 17) (hM 18) (hM 19) (hM 20) (hM 21) (hM 23) (hM 24) (hM 26) (hM 27) (hM 28) (hM 30) (hM 31) (hM 32) (hM 33) (hM 34) (hM 35) (hM 36) (hM 38) (hM 39) (hM 40) (hM 41) (hM 42) (hM 43) (hM 45) (hM 47) (rM 3) (rM 14) (w 0 2) (w 0 3) (w 0 11) (w 0 12) (w 0 16) (w 0 18) (w 0 20) (w 0 24) (w 0 25) (w 0 28) (w 0 29) (w 0 36) (w 0 40) (w 0 41) (w 0 42) (w 0 43) (t 4) (w 7) (w 16) (t 15) (w 17) (w 5) (w 6) (xs (x3 + 1).toNatClampNeg) (xs (x3 + 2).toNatClampNeg) (xs (x3 + 3).toNatClampNeg) (o_r, o_Y) e2) (cwV 3 htl gL_law_X12_joinStep rfl rfl rfl (by decide +kernel) ⟨Nat.le_of_ble_eq_true rfl, Nat.le_of_ble_eq_true rfl⟩) hE hPM hNM (x_m1 IM_0 (x_m1 IM_3 (x_m1 IM_4 (x_m1 IM_7 (x_m1 IM_16 (x_m1 IM_14 (x_m1 IM_15 (x_m1 IM_17 (x_m1 IM_5 (x_m1 IM_6 rfl)))))))))) (by decide) 0 IM_0 rfl rfl hl.1 (Nat.le_of_ble_eq_true rfl) dL_law_921 ⟨Nat.le_of_ble_eq_true rfl, Nat.le_of_ble_eq_true rfl⟩) hPM hPX hNM (fun q h1 h2 => hd q h2 h1) hAM hS (x_m1 IM_0 (x_m1 IM_3 (x_m1 IM_4 (x_m1 IM_7 (x_m1 IM_16 (x_m1 IM_14 (x_m1 IM_15 (x_m1 IM_17 (x_m1 IM_5 (x_m1 IM_6 rfl)))))))))) (x_m1 IM_0 (x_m1 IM_3 (x_m1 IM_4 (x_m1 IM_7 (x_m1 IM_16 (x_m1 IM_14 (x_m1 IM_15 (x_m1 IM_17 (x_m1 IM_5 (x_m1 IM_6 rfl)))))))))) (IM_c (fun k_ hk_ => pt_ne [0, 16, 17] _ (fun hm_ => hk_ ((by decide : ∀ x ∈ ([0, 16, 17] : List Nat), x ∈ ([0, 3, 4, 7, 16, 14, 15, 17, 5, 6] : List Nat)) k_ hm_))) (fun k_ hk_ => pt_ne [15] _ (fun hm_ => hk_ ((by decide : ∀ x ∈ ([15] : List Nat), x ∈ ([0, 3, 4, 7, 16, 14, 15, 17, 5, 6] : List Nat)) k_ hm_))) (fun _ => rfl)) (fun H locs hPM hPX hS => ?_)
  refine lv_icmp_eq (tgt := 1436) hx hb dL_law_924 (by decide) (fun _ => ?_) (fun c_ => absurd rfl c_)
  exact kk (pt v [26, 31, 32, 29, 27, 28, 30, 23, 24, 25, 33, 38, 39, 36, 34, 35, 37] [pt (v 26) [0, 1, 2, 3] [(o_X.1 1), (o_X.1 0), (o_X.1 2), (o_X.1 3)], (o_X.2 0), (o_X.2 1), (o_X.2 2), (o_X.2 3), (o_X.2 4), (o_X.2 5), pt (v 23) [0] [(o_X.1 4)], (o_X.2 6), (o_X.2 7), pt (v 33) [0, 1, 2, 3] [(o_X.1 6), (o_X.1 5), (o_X.1 7), (o_X.1 8)], (o_X.2 8), (o_X.2 9), (o_X.2 10), (o_X.2 11), (o_X.2 12), (o_X.2 13)]) j (pt w [0, 16, 17] [pt (w 0) [11, 12, 16] [(o_Y.1 0), (o_Y.1 2), (o_Y.1 1)], (o_Y.2.1 0), (o_Y.2.1 1)]) (pt t [15] [(o_Y.2.2 0)]) q H locs ⟨hRO, hRS, hRR, hRN, hRT, hF, hnb, hRI, hfa, hRA⟩ hPX hPM hS
set_option maxHeartbeats 4000000 in
set_option maxRecDepth 20000 in
theorem lk_decreasingCount (SS : LwS p s m meth c b L xs D G aX aM) (hR : Rel v j w t q) (hPX : xW D aX (IX G hX rX v j) H) (hPM : xW D aM (IM G hM rM w t q) H) (hS : va_S (fun q : Nat => s.heap.size ≤ q) s.heap H locs) (hl : lv_has ls 4 [(0, .ref b), (1, .ref (hX 0)), (2, .ref (hM 0)), (3, .int x3)]) (hi : LIn x3 L) (kk : LK p l e s m below meth c b D G aX aM hX rX hM rM 1436 ls) : W p l e room_1 s m #[Value.ref b] below meth c H locs 600000 7302249 (lw_Z below #[Value.ref b] s) (F0 m 929 ls []) := by
  obtain ⟨⟨hx, hb, hr, hml, hown, hts, hXb, hbl, hlocks, hgv⟩, hE, hNX, hNM, hd, hAX, hAM⟩ := SS
  have hown : s.vm.findClass RL = some m.cls := hown
  have htl : ∀ w ∈ wsL_law, w.before #[Value.ref b] s = true := fun w h => hts w (wsL_law_in w h)
  have hbA : ¬ (fun q : Nat => s.heap.size ≤ q) b := Nat.not_le.mpr hbl
  obtain ⟨hRO, hRS, hRR, hRN, hRT, hF, hnb, hRI, hfa, hRA⟩ := hR
  obtain ⟨op, hop, hox, hom⟩ := id hRO
  obtain ⟨sn, sm, sS, sT, sL, hsp, hsx, hsm, hw⟩ := id hRS
  obtain ⟨rc, rL, rR, hrp, hrx, hrm⟩ := id hRR
  obtain ⟨lt_, hlt, htx, htm⟩ := id hRT
  obtain ⟨li, hin, hix, him⟩ := id hRI
  obtain ⟨aK, har⟩ := id hRA
  obtain ⟨o_r, o_pc, o_f, o_g, o_a, o_b, o_M, e1, e2⟩ := s_decreasingCount 100000 (by decide) hsp hsx hsm hox.1 hom.1 (v 24) (v 25) (w 0 11) (w 0 12) (t 15)
  refine lv_aload_n hx hb dL_law_929 rfl (lv_at hl 1 rfl) ?_
  refine l_goi (ps := [0, 1, 3, 23, 24, 25, 4, 8, 6, 7]) (I' := IX G hX rX (pt v [23, 24, 25] [pt (v 23) [0] [o_pc], o_f, o_g]) j) (x_runV (As := []) (rest := []) (ps := [0, 1, 3, 23, 24, 25, 4, 8, 6, 7]) ⟨hx, hb, hml, hown, htl⟩ (k_X11_decreasingCount l D G 100000 (hX 0) (hX 1) (hX 4) (hX 9) (hX 12) (hX 15) (hX 20) (hX 23) (hX 26) (hX 33) (hX 40) (hX 42) (hX 55) (hX 57) (hX 63) (hX 67) (hX 2) (hX 3) (hX 24) (hX 25) (hX 5) (hX 6) (hX 7) (hX 8) (v 0 6) (v 23 0) (v 4 0) (v 4 2) (v 3) (v 24) (v 25) (v 8) (v 6) (v 7) (o_r, o_pc, o_f, o_g) e1) (cwV 0 htl gL_law_X11_decreasingCount rfl rfl rfl (by decide +kernel) ⟨Nat.le_of_ble_eq_true rfl, Nat.le_of_ble_eq_true rfl⟩) hE hPX hNX (x_m1 IX_0 (x_m1 IX_1 (x_m1 IX_3 (x_m1 IX_23 (x_m1 IX_24 (x_m1 IX_25 (x_m1 IX_4 (x_m1 IX_8 (x_m1 IX_6 (x_m1 IX_7 rfl)))))))))) (by decide) 0 IX_0 rfl rfl hl.1 (Nat.le_of_ble_eq_true rfl) dL_law_930 ⟨Nat.le_of_ble_eq_true rfl, Nat.le_of_ble_eq_true rfl⟩) hPX hPM hNX hd hAX hS (x_m1 IX_0 (x_m1 IX_1 (x_m1 IX_3 (x_m1 IX_23 (x_m1 IX_24 (x_m1 IX_25 (x_m1 IX_4 (x_m1 IX_8 (x_m1 IX_6 (x_m1 IX_7 rfl)))))))))) (x_m1 IX_0 (x_m1 IX_1 (x_m1 IX_3 (x_m1 IX_23 (x_m1 IX_24 (x_m1 IX_25 (x_m1 IX_4 (x_m1 IX_8 (x_m1 IX_6 (x_m1 IX_7 rfl)))))))))) (IX_c (fun k_ hk_ => pt_ne [23, 24, 25] _ (fun hm_ => hk_ ((by decide : ∀ x ∈ ([23, 24, 25] : List Nat), x ∈ ([0, 1, 3, 23, 24, 25, 4, 8, 6, 7] : List Nat)) k_ hm_))) (fun _ => rfl)) (fun H locs hPX hPM hS => ?_)
  refine lv_aload_n hx hb dL_law_933 rfl (lv_at hl 2 rfl) ?_
  refine l_goi (ps := [0, 3, 4, 7, 14, 15, 5, 6]) (I' := IM G hM rM (pt w [0] [pt (w 0) [11, 12] [o_a, o_b]]) (pt t [15] [o_M]) q) (x_runV (As := []) (rest := [.int o_r]) (ps := [0, 3, 4, 7, 14, 15, 5, 6]) ⟨hx, hb, hml, hown, htl⟩ (k_X12_decreasingCount l D G 100000 (hM 0) (hM 1) (hM 3) (hM 5) (hM 6) (hM 7) (hM 8) (hM 9) (hM 11) (hM 13) (hM 14) (hM 16) (hM 17) (hM 18) (hM 19) (hM 20) (hM 21) (hM 23) (hM 24) (hM 26) (hM 27) (hM 28) (hM 30) (hM 31) (hM 32) (hM 33) (hM 34) (hM 35) (hM 36) (hM 38) (hM 39) (hM 40) (hM 41) (hM 42) (hM 43) (hM 45) (hM 47) (rM 3) (rM 14) (w 0 2) (w 0 3) (w 0 11) (w 0 12) (w 0 16) (w 0 18) (w 0 20) (w 0 24) (w 0 25) (w 0 28) (w 0 29) (w 0 36) (w 0 40) (w 0 41) (w 0 42) (w 0 43) (t 4) (w 7) (t 15) (w 5) (w 6) (o_r, o_a, o_M, o_b) e2) (cwV 0 htl gL_law_X12_decreasingCount rfl rfl rfl (by decide +kernel) ⟨Nat.le_of_ble_eq_true rfl, Nat.le_of_ble_eq_true rfl⟩) hE hPM hNM (x_m1 IM_0 (x_m1 IM_3 (x_m1 IM_4 (x_m1 IM_7 (x_m1 IM_14 (x_m1 IM_15 (x_m1 IM_5 (x_m1 IM_6 rfl)))))))) (by decide) 0 IM_0 rfl rfl hl.1 (Nat.le_of_ble_eq_true rfl) dL_law_934 ⟨Nat.le_of_ble_eq_true rfl, Nat.le_of_ble_eq_true rfl⟩) hPM hPX hNM (fun q h1 h2 => hd q h2 h1) hAM hS (x_m1 IM_0 (x_m1 IM_3 (x_m1 IM_4 (x_m1 IM_7 (x_m1 IM_14 (x_m1 IM_15 (x_m1 IM_5 (x_m1 IM_6 rfl)))))))) (x_m1 IM_0 (x_m1 IM_3 (x_m1 IM_4 (x_m1 IM_7 (x_m1 IM_14 (x_m1 IM_15 (x_m1 IM_5 (x_m1 IM_6 rfl)))))))) (IM_c (fun k_ hk_ => pt_ne [0] _ (fun hm_ => hk_ ((by decide : ∀ x ∈ ([0] : List Nat), x ∈ ([0, 3, 4, 7, 14, 15, 5, 6] : List Nat)) k_ hm_))) (fun k_ hk_ => pt_ne [15] _ (fun hm_ => hk_ ((by decide : ∀ x ∈ ([15] : List Nat), x ∈ ([0, 3, 4, 7, 14, 15, 5, 6] : List Nat)) k_ hm_))) (fun _ => rfl)) (fun H locs hPM hPX hS => ?_)
  refine lv_icmp_eq (tgt := 1436) hx hb dL_law_937 (by decide) (fun _ => ?_) (fun c_ => absurd rfl c_)
  exact kk (pt v [23, 24, 25] [pt (v 23) [0] [o_pc], o_f, o_g]) j (pt w [0] [pt (w 0) [11, 12] [o_a, o_b]]) (pt t [15] [o_M]) q H locs ⟨hRO, hRS, hRR, hRN, hRT, hF, hnb, hRI, hfa, hRA⟩ hPX hPM hS
end LCASES
