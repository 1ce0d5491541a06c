section LCASES
variable {p : Program} {l : Launch} {e : Env} {s : State} {m : MethodId} {below : List Frame} {meth : Method} {c : Code} {b L : Nat} {xs : Nat → Int32} {D : va_G} {G : Nat → ClassId} {aX aM : List (List Nat)} {hX : Nat → Nat} {rX : Nat → Nat → Nat} {hM : Nat → Nat} {rM : Nat → Nat → Nat} {v : Nat → Nat → Int32} {j : Nat → Nat → Int64} {w : Nat → Nat → Int32} {t : Nat → Nat → Nat → Int32} {q : Nat → Nat → Int64} {H : Heap} {locs : List Loc} {ls : Array Slot} {x3 : Int32}
set_option maxHeartbeats 4000000 in
set_option maxRecDepth 20000 in
theorem lk_firstFailure (SS : LwS p s m meth c b L xs D G aX aM) (hR : Rel v j w t q) (hPX : xW D aX (IX G hX rX v j) H) (hPM : xW D aM (IM G hM rM w t q) H) (hS : va_S (fun q : Nat => s.heap.size ≤ q) s.heap H locs) (hl : lv_has ls 4 [(0, .ref b), (1, .ref (hX 0)), (2, .ref (hM 0)), (3, .int x3)]) (hi : LIn x3 L) (kk : LK p l e s m below meth c b D G aX aM hX rX hM rM 1436 ls) : W p l e room_1 s m #[Value.ref b] below meth c H locs 600000 7302249 (lw_Z below #[Value.ref b] s) (F0 m 942 ls []) := by
  obtain ⟨⟨hx, hb, hr, hml, hown, hts, hXb, hbl, hlocks, hgv⟩, hE, hNX, hNM, hd, hAX, hAM⟩ := SS
  have hown : s.vm.findClass RL = some m.cls := hown
  have htl : ∀ w ∈ wsL_law, w.before #[Value.ref b] s = true := fun w h => hts w (wsL_law_in w h)
  have hbA : ¬ (fun q : Nat => s.heap.size ≤ q) b := Nat.not_le.mpr hbl
  obtain ⟨hRO, hRS, hRR, hRN, hRT, hF, hnb, hRI, hfa, hRA⟩ := hR
  obtain ⟨op, hop, hox, hom⟩ := id hRO
  obtain ⟨sn, sm, sS, sT, sL, hsp, hsx, hsm, hw⟩ := id hRS
  obtain ⟨rc, rL, rR, hrp, hrx, hrm⟩ := id hRR
  obtain ⟨lt_, hlt, htx, htm⟩ := id hRT
  obtain ⟨li, hin, hix, him⟩ := id hRI
  obtain ⟨aK, har⟩ := id hRA
  obtain ⟨o_r, o_pc, o_f, o_g, o_a, o_b, o_M, e1, e2⟩ := s_firstFailure 100000 (by decide) hsp hsx hsm hox.1 hom.1 (v 24) (v 25) (w 0 11) (w 0 12) (t 15)
  refine lv_aload_n hx hb dL_law_942 rfl (lv_at hl 1 rfl) ?_
  refine l_goi (ps := [0, 1, 3, 23, 24, 25, 4, 8, 6, 7]) (I' := IX G hX rX (pt v [23, 24, 25] [pt (v 23) [0] [o_pc], o_f, o_g]) j) (x_runV (As := []) (rest := []) (ps := [0, 1, 3, 23, 24, 25, 4, 8, 6, 7]) ⟨hx, hb, hml, hown, htl⟩ (k_X11_firstFailure l D G 100000 (hX 0) (hX 1) (hX 4) (hX 9) (hX 12) (hX 15) (hX 20) (hX 23) (hX 26) (hX 33) (hX 40) (hX 42) (hX 55) (hX 57) (hX 63) (hX 67) (hX 2) (hX 3) (hX 24) (hX 25) (hX 5) (hX 6) (hX 7) (hX 8) (v 0 6) (v 23 0) (v 4 0) (v 4 2) (v 3) (v 24) (v 25) (v 8) (v 6) (v 7) (o_r, o_pc, o_f, o_g) e1) (cwV 0 htl gL_law_X11_firstFailure rfl rfl rfl (by decide +kernel) ⟨Nat.le_of_ble_eq_true rfl, Nat.le_of_ble_eq_true rfl⟩) hE hPX hNX (x_m1 IX_0 (x_m1 IX_1 (x_m1 IX_3 (x_m1 IX_23 (x_m1 IX_24 (x_m1 IX_25 (x_m1 IX_4 (x_m1 IX_8 (x_m1 IX_6 (x_m1 IX_7 rfl)))))))))) (by decide) 0 IX_0 rfl rfl hl.1 (Nat.le_of_ble_eq_true rfl) dL_law_943 ⟨Nat.le_of_ble_eq_true rfl, Nat.le_of_ble_eq_true rfl⟩) hPX hPM hNX hd hAX hS (x_m1 IX_0 (x_m1 IX_1 (x_m1 IX_3 (x_m1 IX_23 (x_m1 IX_24 (x_m1 IX_25 (x_m1 IX_4 (x_m1 IX_8 (x_m1 IX_6 (x_m1 IX_7 rfl)))))))))) (x_m1 IX_0 (x_m1 IX_1 (x_m1 IX_3 (x_m1 IX_23 (x_m1 IX_24 (x_m1 IX_25 (x_m1 IX_4 (x_m1 IX_8 (x_m1 IX_6 (x_m1 IX_7 rfl)))))))))) (IX_c (fun k_ hk_ => pt_ne [23, 24, 25] _ (fun hm_ => hk_ ((by decide : ∀ x ∈ ([23, 24, 25] : List Nat), x ∈ ([0, 1, 3, 23, 24, 25, 4, 8, 6, 7] : List Nat)) k_ hm_))) (fun _ => rfl)) (fun H locs hPX hPM hS => ?_)
  refine lv_aload_n hx hb dL_law_946 rfl (lv_at hl 2 rfl) ?_
  refine l_goi (ps := [0, 3, 4, 7, 14, 15, 5, 6]) (I' := IM G hM rM (pt w [0] [pt (w 0) [11, 12] [o_a, o_b]]) (pt t [15] [o_M]) q) (x_runV (As := []) (rest := [.int o_r]) (ps := [0, 3, 4, 7, 14, 15, 5, 6]) ⟨hx, hb, hml, hown, htl⟩ (k_X12_firstFailure l D G 100000 (hM 0) (hM 1) (hM 3) (hM 5) (hM 6) (hM 7) (hM 8) (hM 9) (hM 11) (hM 13) (hM 14) (hM 16) (hM 17) (hM 18) (hM 19) (hM 20) (hM 21) (hM 23) (hM 24) (hM 26) (hM 27) (hM 28) (hM 30) (hM 31) (hM 32) (hM 33) (hM 34) (hM 35) (hM 36) (hM 38) (hM 39) (hM 40) (hM 41) (hM 42) (hM 43) (hM 45) (hM 47) (rM 3) (rM 14) (w 0 2) (w 0 3) (w 0 11) (w 0 12) (w 0 16) (w 0 18) (w 0 20) (w 0 24) (w 0 25) (w 0 28) (w 0 29) (w 0 36) (w 0 40) (w 0 41) (w 0 42) (w 0 43) (t 4) (w 7) (t 15) (w 5) (w 6) (o_r, o_a, o_M, o_b) e2) (cwV 0 htl gL_law_X12_firstFailure rfl rfl rfl (by decide +kernel) ⟨Nat.le_of_ble_eq_true rfl, Nat.le_of_ble_eq_true rfl⟩) hE hPM hNM (x_m1 IM_0 (x_m1 IM_3 (x_m1 IM_4 (x_m1 IM_7 (x_m1 IM_14 (x_m1 IM_15 (x_m1 IM_5 (x_m1 IM_6 rfl)))))))) (by decide) 0 IM_0 rfl rfl hl.1 (Nat.le_of_ble_eq_true rfl) dL_law_947 ⟨Nat.le_of_ble_eq_true rfl, Nat.le_of_ble_eq_true rfl⟩) hPM hPX hNM (fun q h1 h2 => hd q h2 h1) hAM hS (x_m1 IM_0 (x_m1 IM_3 (x_m1 IM_4 (x_m1 IM_7 (x_m1 IM_14 (x_m1 IM_15 (x_m1 IM_5 (x_m1 IM_6 rfl)))))))) (x_m1 IM_0 (x_m1 IM_3 (x_m1 IM_4 (x_m1 IM_7 (x_m1 IM_14 (x_m1 IM_15 (x_m1 IM_5 (x_m1 IM_6 rfl)))))))) (IM_c (fun k_ hk_ => pt_ne [0] _ (fun hm_ => hk_ ((by decide : ∀ x ∈ ([0] : List Nat), x ∈ ([0, 3, 4, 7, 14, 15, 5, 6] : List Nat)) k_ hm_))) (fun k_ hk_ => pt_ne [15] _ (fun hm_ => hk_ ((by decide : ∀ x ∈ ([15] : List Nat), x ∈ ([0, 3, 4, 7, 14, 15, 5, 6] : List Nat)) k_ hm_))) (fun _ => rfl)) (fun H locs hPM hPX hS => ?_)
  refine lv_icmp_eq (tgt := 1436) hx hb dL_law_950 (by decide) (fun _ => ?_) (fun c_ => absurd rfl c_)
  exact kk (pt v [23, 24, 25] [pt (v 23) [0] [o_pc], o_f, o_g]) j (pt w [0] [pt (w 0) [11, 12] [o_a, o_b]]) (pt t [15] [o_M]) q H locs ⟨hRO, hRS, hRR, hRN, hRT, hF, hnb, hRI, hfa, hRA⟩ hPX hPM hS
set_option maxHeartbeats 4000000 in
set_option maxRecDepth 20000 in
theorem lk_draw (SS : LwS p s m meth c b L xs D G aX aM) (hR : Rel v j w t q) (hPX : xW D aX (IX G hX rX v j) H) (hPM : xW D aM (IM G hM rM w t q) H) (hS : va_S (fun q : Nat => s.heap.size ≤ q) s.heap H locs) (hl : lv_has ls 4 [(0, .ref b), (1, .ref (hX 0)), (2, .ref (hM 0)), (3, .int x3)]) (hi : LIn x3 L) (kk : LK p l e s m below meth c b D G aX aM hX rX hM rM 1436 ls) : W p l e room_1 s m #[Value.ref b] below meth c H locs 600000 7302249 (lw_Z below #[Value.ref b] s) (F0 m 955 ls []) := by
  obtain ⟨⟨hx, hb, hr, hml, hown, hts, hXb, hbl, hlocks, hgv⟩, hE, hNX, hNM, hd, hAX, hAM⟩ := SS
  have hown : s.vm.findClass RL = some m.cls := hown
  have htl : ∀ w ∈ wsL_law, w.before #[Value.ref b] s = true := fun w h => hts w (wsL_law_in w h)
  have hbA : ¬ (fun q : Nat => s.heap.size ≤ q) b := Nat.not_le.mpr hbl
  obtain ⟨i1, i2, i3, i4⟩ := hi
  obtain ⟨hRO, hRS, hRR, hRN, hRT, hF, hnb, hRI, hfa, hRA⟩ := hR
  obtain ⟨op, hop, hox, hom⟩ := id hRO
  obtain ⟨sn, sm, sS, sT, sL, hsp, hsx, hsm, hw⟩ := id hRS
  obtain ⟨rc, rL, rR, hrp, hrx, hrm⟩ := id hRR
  obtain ⟨lt_, hlt, htx, htm⟩ := id hRT
  obtain ⟨li, hin, hix, him⟩ := id hRI
  obtain ⟨aK, har⟩ := id hRA
  obtain ⟨o_r, o_V1, o_V2, o_W1, o_W2, o_W3, o_l, e1, e2, h1, h2, h3⟩ := s_draw 100000 (by decide) hsp hsx hsm hox.1 hom.1 (v 26 0) (v 26 1) (v 26 2) (v 26 3) (v 33 0) (v 33 1) (v 33 2) (v 33 3) (v 40 0) (v 31) (v 32) (v 29) (v 27) (v 28) (v 30) (v 24) (v 25) (v 38) (v 39) (v 36) (v 34) (v 35) (v 37) (v 41) (w 0 11) (w 0 12) (w 0 16) (w 0 18) (w 16) (w 18) (w 17) (t 15) hlt htx htm (xs (x3 + 1).toNatClampNeg)
  refine lv_aload_n hx hb dL_law_955 rfl (lv_at hl 1 rfl) ?_
  refine lv_aload_n hx hb dL_law_956 rfl (lv_at hl 0 rfl) ?_
  refine lv_iload_n hx hb dL_law_957 rfl (lv_at hl 3 rfl) ?_
  refine lv_iconst (v := 1) hx hb dL_law_958 (by decide) ?_
  refine lv_iadd hx hb dL_law_959 ?_
  refine va_sld hx hb hXb hbl hbA hS i1 dL_law_960 ?_
  refine l_goi (ps := [0, 26, 31, 32, 29, 27, 28, 30, 1, 3, 23, 24, 25, 33, 38, 39, 36, 34, 35, 37, 4, 8, 6, 7, 40, 41]) (I' := IX G hX rX (pt v [26, 31, 32, 29, 27, 28, 30, 23, 24, 25, 33, 38, 39, 36, 34, 35, 37, 40, 41] [pt (v 26) [0, 1, 2, 3] [(o_V1 1), (o_V1 0), (o_V1 2), (o_V1 3)], (o_V2 0), (o_V2 1), (o_V2 2), (o_V2 3), (o_V2 4), (o_V2 5), pt (v 23) [0] [(o_V1 4)], (o_V2 6), (o_V2 7), pt (v 33) [0, 1, 2, 3] [(o_V1 6), (o_V1 5), (o_V1 7), (o_V1 8)], (o_V2 8), (o_V2 9), (o_V2 10), (o_V2 11), (o_V2 12), (o_V2 13), pt (v 40) [0] [(o_V1 9)], (o_V2 14)]) j) (x_runV (As := [.int (xs (x3 + 1).toNatClampNeg)]) (rest := []) (ps := [0, 26, 31, 32, 29, 27, 28, 30, 1, 3, 23, 24, 25, 33, 38, 39, 36, 34, 35, 37, 4, 8, 6, 7, 40, 41]) ⟨hx, hb, hml, hown, htl⟩ (k_X11_draw l D G 100000 (hX 0) (hX 1) (hX 4) (hX 9) (hX 12) (hX 15) (hX 20) (hX 23) (hX 26) (hX 33) (hX 40) (hX 42) (hX 55) (hX 57) (hX 63) (hX 67) (hX 27) (hX 28) (hX 29) (hX 30) (hX 31) (hX 32) (hX 2) (hX 3) (hX 24) (hX 25) (hX 34) (hX 35) (hX 36) (hX 37) (hX 38) (hX 39) (hX 5) (hX 6) (hX 7) (hX 8) (hX 41) (v 0 6) (v 26 0) (v 26 1) (v 26 2) (v 26 3) (v 23 0) (v 33 0) (v 33 1) (v 33 2) (v 33 3) (v 4 0) (v 4 2) (v 40 0) (v 31) (v 32) (v 29) (v 27) (v 28) (v 30) (v 3) (v 24) (v 25) (v 38) (v 39) (v 36) (v 34) (v 35) (v 37) (v 8) (v 6) (v 7) (v 41) (xs (x3 + 1).toNatClampNeg) (o_r, o_V1, o_V2) e1) (cwV 1 htl gL_law_X11_draw rfl rfl rfl (by decide +kernel) ⟨Nat.le_of_ble_eq_true rfl, Nat.le_of_ble_eq_true rfl⟩) hE hPX hNX (x_m1 IX_0 (x_m1 IX_26 (x_m1 IX_31 (x_m1 IX_32 (x_m1 IX_29 (x_m1 IX_27 (x_m1 IX_28 (x_m1 IX_30 (x_m1 IX_1 (x_m1 IX_3 (x_m1 IX_23 (x_m1 IX_24 (x_m1 IX_25 (x_m1 IX_33 (x_m1 IX_38 (x_m1 IX_39 (x_m1 IX_36 (x_m1 IX_34 (x_m1 IX_35 (x_m1 IX_37 (x_m1 IX_4 (x_m1 IX_8 (x_m1 IX_6 (x_m1 IX_7 (x_m1 IX_40 (x_m1 IX_41 rfl)))))))))))))))))))))))))) (by decide) 0 IX_0 rfl rfl hl.1 (Nat.le_of_ble_eq_true rfl) dL_law_961 ⟨Nat.le_of_ble_eq_true rfl, Nat.le_of_ble_eq_true rfl⟩) hPX hPM hNX hd hAX hS (x_m1 IX_0 (x_m1 IX_26 (x_m1 IX_31 (x_m1 IX_32 (x_m1 IX_29 (x_m1 IX_27 (x_m1 IX_28 (x_m1 IX_30 (x_m1 IX_1 (x_m1 IX_3 (x_m1 IX_23 (x_m1 IX_24 (x_m1 IX_25 (x_m1 IX_33 (x_m1 IX_38 (x_m1 IX_39 (x_m1 IX_36 (x_m1 IX_34 (x_m1 IX_35 (x_m1 IX_37 (x_m1 IX_4 (x_m1 IX_8 (x_m1 IX_6 (x_m1 IX_7 (x_m1 IX_40 (x_m1 IX_41 rfl)))))))))))))))))))))))))) (x_m1 IX_0 (x_m1 IX_26 (x_m1 IX_31 (x_m1 IX_32 (x_m1 IX_29 (x_m1 IX_27 (x_m1 IX_28 (x_m1 IX_30 (x_m1 IX_1 (x_m1 IX_3 (x_m1 IX_23 (x_m1 IX_24 (x_m1 IX_25 (x_m1 IX_33 (x_m1 IX_38 (x_m1 IX_39 (x_m1 IX_36 (x_m1 IX_34 (x_m1 IX_35 (x_m1 IX_37 (x_m1 IX_4 (x_m1 IX_8 (x_m1 IX_6 (x_m1 IX_7 (x_m1 IX_40 (x_m1 IX_41 rfl)))))))))))))))))))))))))) (IX_c (fun k_ hk_ => pt_ne [26, 31, 32, 29, 27, 28, 30, 23, 24, 25, 33, 38, 39, 36, 34, 35, 37, 40, 41] _ (fun hm_ => hk_ ((by decide : ∀ x ∈ ([26, 31, 32, 29, 27, 28, 30, 23, 24, 25, 33, 38, 39, 36, 34, 35, 37, 40, 41] : List Nat), x ∈ ([0, 26, 31, 32, 29, 27, 28, 30, 1, 3, 23, 24, 25, 33, 38, 39, 36, 34, 35, 37, 4, 8, 6, 7, 40, 41] : List Nat)) k_ hm_))) (fun _ => rfl)) (fun H locs hPX hPM hS => ?_)
  refine lv_aload_n hx hb dL_law_964 rfl (lv_at hl 2 rfl) ?_
  refine lv_aload_n hx hb dL_law_965 rfl (lv_at hl 0 rfl) ?_
  refine lv_iload_n hx hb dL_law_966 rfl (lv_at hl 3 rfl) ?_
  refine lv_iconst (v := 1) hx hb dL_law_967 (by decide) ?_
  refine lv_iadd hx hb dL_law_968 ?_
  refine va_sld hx hb hXb hbl hbA hS i1 dL_law_969 ?_
  refine l_goi (ps := [0, 3, 4, 7, 16, 14, 15, 18, 17, 5, 6]) (I' := IM G hM rM (pt w [0, 16, 18, 17] [pt (w 0) [11, 12, 16, 18] [(o_W1 0), (o_W1 3), (o_W1 2), (o_W1 1)], (o_W2 0), (o_W2 1), (o_W2 2)]) (pt t [15] [(o_W3 0)]) q) (x_runV (As := [.int (xs (x3 + 1).toNatClampNeg)]) (rest := [.int o_r]) (ps := [0, 3, 4, 7, 16, 14, 15, 18, 17, 5, 6]) ⟨hx, hb, hml, hown, htl⟩ (k_X12_draw l D G 100000 (hM 0) (hM 1) (hM 3) (hM 5) (hM 6) (hM 7) (hM 8) (hM 9) (hM 11) (hM 13) (hM 14) (hM 16) (hM 17) (hM 18) (hM 19) (hM 20) (hM 21) (hM 23) (hM 24) (hM 26) (hM 27) (hM 28) (hM 30) (hM 31) (hM 32) (hM 33) (hM 34) (hM 35) (hM 36) (hM 38) (hM 39) (hM 40) (hM 41) (hM 42) (hM 43) (hM 45) (hM 47) (rM 3) (rM 14) (w 0 2) (w 0 3) (w 0 11) (w 0 12) (w 0 16) (w 0 18) (w 0 20) (w 0 24) (w 0 25) (w 0 28) (w 0 29) (w 0 36) (w 0 40) (w 0 41) (w 0 42) (w 0 43) (t 4) (w 7) (w 16) (t 15) (w 18) (w 17) (w 5) (w 6) (xs (x3 + 1).toNatClampNeg) (o_r, o_W1, o_W2, o_W3) e2) (cwV 1 htl gL_law_X12_draw rfl rfl rfl (by decide +kernel) ⟨Nat.le_of_ble_eq_true rfl, Nat.le_of_ble_eq_true rfl⟩) hE hPM hNM (x_m1 IM_0 (x_m1 IM_3 (x_m1 IM_4 (x_m1 IM_7 (x_m1 IM_16 (x_m1 IM_14 (x_m1 IM_15 (x_m1 IM_18 (x_m1 IM_17 (x_m1 IM_5 (x_m1 IM_6 rfl))))))))))) (by decide) 0 IM_0 rfl rfl hl.1 (Nat.le_of_ble_eq_true rfl) dL_law_970 ⟨Nat.le_of_ble_eq_true rfl, Nat.le_of_ble_eq_true rfl⟩) hPM hPX hNM (fun q h1 h2 => hd q h2 h1) hAM hS (x_m1 IM_0 (x_m1 IM_3 (x_m1 IM_4 (x_m1 IM_7 (x_m1 IM_16 (x_m1 IM_14 (x_m1 IM_15 (x_m1 IM_18 (x_m1 IM_17 (x_m1 IM_5 (x_m1 IM_6 rfl))))))))))) (x_m1 IM_0 (x_m1 IM_3 (x_m1 IM_4 (x_m1 IM_7 (x_m1 IM_16 (x_m1 IM_14 (x_m1 IM_15 (x_m1 IM_18 (x_m1 IM_17 (x_m1 IM_5 (x_m1 IM_6 rfl))))))))))) (IM_c (fun k_ hk_ => pt_ne [0, 16, 18, 17] _ (fun hm_ => hk_ ((by decide : ∀ x ∈ ([0, 16, 18, 17] : List Nat), x ∈ ([0, 3, 4, 7, 16, 14, 15, 18, 17, 5, 6] : List Nat)) k_ hm_))) (fun k_ hk_ => pt_ne [15] _ (fun hm_ => hk_ ((by decide : ∀ x ∈ ([15] : List Nat), x ∈ ([0, 3, 4, 7, 16, 14, 15, 18, 17, 5, 6] : List Nat)) k_ hm_))) (fun _ => rfl)) (fun H locs hPM hPX hS => ?_)
  refine lv_icmp_eq (tgt := 1436) hx hb dL_law_973 (by decide) (fun _ => ?_) (fun c_ => absurd rfl c_)
  exact kk (pt v [26, 31, 32, 29, 27, 28, 30, 23, 24, 25, 33, 38, 39, 36, 34, 35, 37, 40, 41] [pt (v 26) [0, 1, 2, 3] [(o_V1 1), (o_V1 0), (o_V1 2), (o_V1 3)], (o_V2 0), (o_V2 1), (o_V2 2), (o_V2 3), (o_V2 4), (o_V2 5), pt (v 23) [0] [(o_V1 4)], (o_V2 6), (o_V2 7), pt (v 33) [0, 1, 2, 3] [(o_V1 6), (o_V1 5), (o_V1 7), (o_V1 8)], (o_V2 8), (o_V2 9), (o_V2 10), (o_V2 11), (o_V2 12), (o_V2 13), pt (v 40) [0] [(o_V1 9)], (o_V2 14)]) j (pt w [0, 16, 18, 17] [pt (w 0) [11, 12, 16, 18] [(o_W1 0), (o_W1 3), (o_W1 2), (o_W1 1)], (o_W2 0), (o_W2 1), (o_W2 2)]) (pt t [15] [(o_W3 0)]) q H locs ⟨hRO, hRS, hRR, hRN, ⟨o_l, h1, h2, h3⟩, hF, hnb, hRI, hfa, hRA⟩ hPX hPM hS
set_option maxHeartbeats 4000000 in
set_option maxRecDepth 20000 in
theorem lk_output (SS : LwS p s m meth c b L xs D G aX aM) (hR : Rel v j w t q) (hPX : xW D aX (IX G hX rX v j) H) (hPM : xW D aM (IM G hM rM w t q) H) (hS : va_S (fun q : Nat => s.heap.size ≤ q) s.heap H locs) (hl : lv_has ls 4 [(0, .ref b), (1, .ref (hX 0)), (2, .ref (hM 0)), (3, .int x3)]) (hi : LIn x3 L) (kk : LK p l e s m below meth c b D G aX aM hX rX hM rM 1436 ls) : W p l e room_1 s m #[Value.ref b] below meth c H locs 600000 7302249 (lw_Z below #[Value.ref b] s) (F0 m 978 ls []) := by
  obtain ⟨⟨hx, hb, hr, hml, hown, hts, hXb, hbl, hlocks, hgv⟩, hE, hNX, hNM, hd, hAX, hAM⟩ := SS
  have hown : s.vm.findClass RL = some m.cls := hown
  have htl : ∀ w ∈ wsL_law, w.before #[Value.ref b] s = true := fun w h => hts w (wsL_law_in w h)
  have hbA : ¬ (fun q : Nat => s.heap.size ≤ q) b := Nat.not_le.mpr hbl
  obtain ⟨i1, i2, i3, i4⟩ := hi
  obtain ⟨hRO, hRS, hRR, hRN, hRT, hF, hnb, hRI, hfa, hRA⟩ := hR
  obtain ⟨op, hop, hox, hom⟩ := id hRO
  obtain ⟨sn, sm, sS, sT, sL, hsp, hsx, hsm, hw⟩ := id hRS
  obtain ⟨rc, rL, rR, hrp, hrx, hrm⟩ := id hRR
  obtain ⟨lt_, hlt, htx, htm⟩ := id hRT
  obtain ⟨li, hin, hix, him⟩ := id hRI
  obtain ⟨aK, har⟩ := id hRA
  obtain ⟨o_r, e1, e2⟩ := s_output hlt htx htm (xs (x3 + 1).toNatClampNeg)
  refine lv_aload_n hx hb dL_law_978 rfl (lv_at hl 1 rfl) ?_
  refine lv_aload_n hx hb dL_law_979 rfl (lv_at hl 0 rfl) ?_
  refine lv_iload_n hx hb dL_law_980 rfl (lv_at hl 3 rfl) ?_
  refine lv_iconst (v := 1) hx hb dL_law_981 (by decide) ?_
  refine lv_iadd hx hb dL_law_982 ?_
  refine va_sld hx hb hXb hbl hbA hS i1 dL_law_983 ?_
  refine l_goi (ps := [0, 40, 41]) (I' := IX G hX rX v j) (x_runV (As := [.int (xs (x3 + 1).toNatClampNeg)]) (rest := []) (ps := [0, 40, 41]) ⟨hx, hb, hml, hown, htl⟩ (k_X11_output l D G 100000 (hX 0) (hX 1) (hX 4) (hX 9) (hX 12) (hX 15) (hX 20) (hX 23) (hX 26) (hX 33) (hX 40) (hX 42) (hX 55) (hX 57) (hX 63) (hX 67) (hX 41) (v 0 6) (v 40 0) (v 41) (xs (x3 + 1).toNatClampNeg) o_r e1) (cwV 1 htl gL_law_X11_output rfl rfl rfl (by decide +kernel) ⟨Nat.le_of_ble_eq_true rfl, Nat.le_of_ble_eq_true rfl⟩) hE hPX hNX (x_m1 IX_0 (x_m1 IX_40 (x_m1 IX_41 rfl))) (by decide) 0 IX_0 rfl rfl hl.1 (Nat.le_of_ble_eq_true rfl) dL_law_984 ⟨Nat.le_of_ble_eq_true rfl, Nat.le_of_ble_eq_true rfl⟩) hPX hPM hNX hd hAX hS (x_m1 IX_0 (x_m1 IX_40 (x_m1 IX_41 rfl))) (x_m1 IX_0 (x_m1 IX_40 (x_m1 IX_41 rfl))) (IX_c (fun _ _ => rfl) (fun _ => rfl)) (fun H locs hPX hPM hS => ?_)
  refine lv_aload_n hx hb dL_law_987 rfl (lv_at hl 2 rfl) ?_
  refine lv_aload_n hx hb dL_law_988 rfl (lv_at hl 0 rfl) ?_
  refine lv_iload_n hx hb dL_law_989 rfl (lv_at hl 3 rfl) ?_
  refine lv_iconst (v := 1) hx hb dL_law_990 (by decide) ?_
  refine lv_iadd hx hb dL_law_991 ?_
  refine va_sld hx hb hXb hbl hbA hS i1 dL_law_992 ?_
  refine l_goi (ps := [0, 18]) (I' := IM G hM rM w t q) (x_runV (As := [.int (xs (x3 + 1).toNatClampNeg)]) (rest := [.int o_r]) (ps := [0, 18]) ⟨hx, hb, hml, hown, htl⟩ (k_X12_output l D G 100000 (hM 0) (hM 1) (hM 3) (hM 5) (hM 6) (hM 7) (hM 8) (hM 9) (hM 11) (hM 13) (hM 14) (hM 16) (hM 17) (hM 18) (hM 19) (hM 20) (hM 21) (hM 23) (hM 24) (hM 26) (hM 27) (hM 28) (hM 30) (hM 31) (hM 32) (hM 33) (hM 34) (hM 35) (hM 36) (hM 38) (hM 39) (hM 40) (hM 41) (hM 42) (hM 43) (hM 45) (hM 47) (w 0 2) (w 0 3) (w 0 11) (w 0 12) (w 0 16) (w 0 18) (w 0 20) (w 0 24) (w 0 25) (w 0 28) (w 0 29) (w 0 36) (w 0 40) (w 0 41) (w 0 42) (w 0 43) (w 18) (xs (x3 + 1).toNatClampNeg) o_r e2) (cwV 1 htl gL_law_X12_output rfl rfl rfl (by decide +kernel) ⟨Nat.le_of_ble_eq_true rfl, Nat.le_of_ble_eq_true rfl⟩) hE hPM hNM (x_m1 IM_0 (x_m1 IM_18 rfl)) (by decide) 0 IM_0 rfl rfl hl.1 (Nat.le_of_ble_eq_true rfl) dL_law_993 ⟨Nat.le_of_ble_eq_true rfl, Nat.le_of_ble_eq_true rfl⟩) hPM hPX hNM (fun q h1 h2 => hd q h2 h1) hAM hS (x_m1 IM_0 (x_m1 IM_18 rfl)) (x_m1 IM_0 (x_m1 IM_18 rfl)) (IM_c (fun _ _ => rfl) (fun _ _ => rfl) (fun _ => rfl)) (fun H locs hPM hPX hS => ?_)
  refine lv_icmp_eq (tgt := 1436) hx hb dL_law_996 (by decide) (fun _ => ?_) (fun c_ => absurd rfl c_)
  exact kk v j w t q H locs ⟨hRO, hRS, hRR, hRN, hRT, hF, hnb, hRI, hfa, hRA⟩ hPX hPM hS
set_option maxHeartbeats 4000000 in
set_option maxRecDepth 20000 in
theorem lk_findLabelling (SS : LwS p s m meth c b L xs D G aX aM) (hR : Rel v j w t q) (hPX : xW D aX (IX G hX rX v j) H) (hPM : xW D aM (IM G hM rM w t q) H) (hS : va_S (fun q : Nat => s.heap.size ≤ q) s.heap H locs) (hl : lv_has ls 4 [(0, .ref b), (1, .ref (hX 0)), (2, .ref (hM 0)), (3, .int x3)]) (hi : LIn x3 L) (kk : LK p l e s m below meth c b D G aX aM hX rX hM rM 1436 ls) : W p l e room_1 s m #[Value.ref b] below meth c H locs 600000 7302249 (lw_Z below #[Value.ref b] s) (F0 m 1001 ls []) := by
  obtain ⟨⟨hx, hb, hr, hml, hown, hts, hXb, hbl, hlocks, hgv⟩, hE, hNX, hNM, hd, hAX, hAM⟩ := SS
  have hown : s.vm.findClass RL = some m.cls := hown
  have htl : ∀ w ∈ wsL_law, w.before #[Value.ref b] s = true := fun w h => hts w (wsL_law_in w h)
  have hbA : ¬ (fun q : Nat => s.heap.size ≤ q) b := Nat.not_le.mpr hbl
  obtain ⟨i1, i2, i3, i4⟩ := hi
  obtain ⟨hRO, hRS, hRR, hRN, hRT, hF, hnb, hRI, hfa, hRA⟩ := hR
  obtain ⟨op, hop, hox, hom⟩ := id hRO
  obtain ⟨sn, sm, sS, sT, sL, hsp, hsx, hsm, hw⟩ := id hRS
  obtain ⟨rc, rL, rR, hrp, hrx, hrm⟩ := id hRR
  obtain ⟨lt_, hlt, htx, htm⟩ := id hRT
  obtain ⟨li, hin, hix, him⟩ := id hRI
  obtain ⟨aK, har⟩ := id hRA
  obtain ⟨o_r, o_V1, o_V2, o_W1, o_W2, o_W3, e1, e2, h1, h2, h3⟩ := s_findLabelling 100000 (by decide) hsp hsx hsm hom hnb hF (v 43 0) (v 43 2) (v 51 0) (w 0 11) (w 0 12) (v 47) (v 45) (v 46) (v 44) (v 52) (v 53) (v 5) (w 20) (t 22) (t 15) (xs (x3 + 1).toNatClampNeg)
  refine lv_aload_n hx hb dL_law_1001 rfl (lv_at hl 1 rfl) ?_
  refine lv_aload_n hx hb dL_law_1002 rfl (lv_at hl 0 rfl) ?_
  refine lv_iload_n hx hb dL_law_1003 rfl (lv_at hl 3 rfl) ?_
  refine lv_iconst (v := 1) hx hb dL_law_1004 (by decide) ?_
  refine lv_iadd hx hb dL_law_1005 ?_
  refine va_sld hx hb hXb hbl hbA hS i1 dL_law_1006 ?_
  refine l_goi (ps := [0, 42, 54, 48, 50, 43, 47, 45, 46, 44, 51, 52, 53, 4, 8, 6, 7, 5]) (I' := IX G hX rX (pt v [42, 54, 43, 47, 45, 46, 44, 51, 52, 53] [pt (v 42) [4] [(o_V1 0)], (o_V2 0), pt (v 43) [0, 2] [(o_V1 2), (o_V1 3)], (o_V2 3), (o_V2 4), (o_V2 5), (o_V2 6), pt (v 51) [0] [(o_V1 1)], (o_V2 1), (o_V2 2)]) j) (x_runV (As := [.int (xs (x3 + 1).toNatClampNeg)]) (rest := []) (ps := [0, 42, 54, 48, 50, 43, 47, 45, 46, 44, 51, 52, 53, 4, 8, 6, 7, 5]) ⟨hx, hb, hml, hown, htl⟩ (k_X11_findLabelling l D G 100000 (hX 0) (hX 1) (hX 4) (hX 9) (hX 12) (hX 15) (hX 20) (hX 23) (hX 26) (hX 33) (hX 40) (hX 42) (hX 55) (hX 57) (hX 63) (hX 67) (hX 43) (hX 48) (hX 51) (hX 54) (hX 49) (hX 50) (hX 44) (hX 45) (hX 46) (hX 47) (hX 52) (hX 53) (hX 5) (hX 6) (hX 7) (hX 8) (v 0 6) (v 42 4) (v 43 0) (v 43 2) (v 51 0) (v 4 0) (v 4 2) (v 54) (v 50) (v 47) (v 45) (v 46) (v 44) (v 52) (v 53) (v 8) (v 6) (v 7) (v 5) (xs (x3 + 1).toNatClampNeg) (o_r, o_V1, o_V2) e1) (cwV 1 htl gL_law_X11_findLabelling rfl rfl rfl (by decide +kernel) ⟨Nat.le_of_ble_eq_true rfl, Nat.le_of_ble_eq_true rfl⟩) hE hPX hNX (x_m1 IX_0 (x_m1 IX_42 (x_m1 IX_54 (x_m1 IX_48 (x_m1 IX_50 (x_m1 IX_43 (x_m1 IX_47 (x_m1 IX_45 (x_m1 IX_46 (x_m1 IX_44 (x_m1 IX_51 (x_m1 IX_52 (x_m1 IX_53 (x_m1 IX_4 (x_m1 IX_8 (x_m1 IX_6 (x_m1 IX_7 (x_m1 IX_5 rfl)))))))))))))))))) (by decide) 0 IX_0 rfl rfl hl.1 (Nat.le_of_ble_eq_true rfl) dL_law_1007 ⟨Nat.le_of_ble_eq_true rfl, Nat.le_of_ble_eq_true rfl⟩) hPX hPM hNX hd hAX hS (x_m1 IX_0 (x_m1 IX_42 (x_m1 IX_54 (x_m1 IX_48 (x_m1 IX_50 (x_m1 IX_43 (x_m1 IX_47 (x_m1 IX_45 (x_m1 IX_46 (x_m1 IX_44 (x_m1 IX_51 (x_m1 IX_52 (x_m1 IX_53 (x_m1 IX_4 (x_m1 IX_8 (x_m1 IX_6 (x_m1 IX_7 (x_m1 IX_5 rfl)))))))))))))))))) (x_m1 IX_0 (x_m1 IX_42 (x_m1 IX_54 (x_m1 IX_48 (x_m1 IX_50 (x_m1 IX_43 (x_m1 IX_47 (x_m1 IX_45 (x_m1 IX_46 (x_m1 IX_44 (x_m1 IX_51 (x_m1 IX_52 (x_m1 IX_53 (x_m1 IX_4 (x_m1 IX_8 (x_m1 IX_6 (x_m1 IX_7 (x_m1 IX_5 rfl)))))))))))))))))) (IX_c (fun k_ hk_ => pt_ne [42, 54, 43, 47, 45, 46, 44, 51, 52, 53] _ (fun hm_ => hk_ ((by decide : ∀ x ∈ ([42, 54, 43, 47, 45, 46, 44, 51, 52, 53] : List Nat), x ∈ ([0, 42, 54, 48, 50, 43, 47, 45, 46, 44, 51, 52, 53, 4, 8, 6, 7, 5] : List Nat)) k_ hm_))) (fun _ => rfl)) (fun H locs hPX hPM hS => ?_)
  refine lv_aload_n hx hb dL_law_1010 rfl (lv_at hl 2 rfl) ?_
  refine lv_aload_n hx hb dL_law_1011 rfl (lv_at hl 0 rfl) ?_
  refine lv_iload_n hx hb dL_law_1012 rfl (lv_at hl 3 rfl) ?_
  refine lv_iconst (v := 1) hx hb dL_law_1013 (by decide) ?_
  refine lv_iadd hx hb dL_law_1014 ?_
  refine va_sld hx hb hXb hbl hbA hS i1 dL_law_1015 ?_
  refine l_goi (ps := [0, 3, 4, 19, 20, 21, 22, 7, 14, 15, 1, 2, 5, 6]) (I' := IM G hM rM (pt w [0, 19, 20, 7] [pt (w 0) [11, 12, 20] [(o_W1 0), (o_W1 2), (o_W1 1)], (o_W2 0), (o_W2 1), (o_W2 2)]) (pt t [4, 22, 15, 2] [(o_W3 0), (o_W3 1), (o_W3 2), (o_W3 3)]) q) (x_runV (As := [.int (xs (x3 + 1).toNatClampNeg)]) (rest := [.int o_r]) (ps := [0, 3, 4, 19, 20, 21, 22, 7, 14, 15, 1, 2, 5, 6]) ⟨hx, hb, hml, hown, htl⟩ (k_X12_findLabelling l D G 100000 (hM 0) (hM 1) (hM 3) (hM 5) (hM 6) (hM 7) (hM 8) (hM 9) (hM 11) (hM 13) (hM 14) (hM 16) (hM 17) (hM 18) (hM 19) (hM 20) (hM 21) (hM 23) (hM 24) (hM 26) (hM 27) (hM 28) (hM 30) (hM 31) (hM 32) (hM 33) (hM 34) (hM 35) (hM 36) (hM 38) (hM 39) (hM 40) (hM 41) (hM 42) (hM 43) (hM 45) (hM 47) (rM 3) (rM 21) (rM 14) (rM 1) (w 0 2) (w 0 3) (w 0 11) (w 0 12) (w 0 16) (w 0 18) (w 0 20) (w 0 24) (w 0 25) (w 0 28) (w 0 29) (w 0 36) (w 0 40) (w 0 41) (w 0 42) (w 0 43) (t 4) (w 19) (w 20) (t 22) (w 7) (t 15) (t 2) (w 5) (w 6) (xs (x3 + 1).toNatClampNeg) (o_r, o_W1, o_W2, o_W3) e2) (cwV 1 htl gL_law_X12_findLabelling rfl rfl rfl (by decide +kernel) ⟨Nat.le_of_ble_eq_true rfl, Nat.le_of_ble_eq_true rfl⟩) hE hPM hNM (x_m1 IM_0 (x_m1 IM_3 (x_m1 IM_4 (x_m1 IM_19 (x_m1 IM_20 (x_m1 IM_21 (x_m1 IM_22 (x_m1 IM_7 (x_m1 IM_14 (x_m1 IM_15 (x_m1 IM_1 (x_m1 IM_2 (x_m1 IM_5 (x_m1 IM_6 rfl)))))))))))))) (by decide) 0 IM_0 rfl rfl hl.1 (Nat.le_of_ble_eq_true rfl) dL_law_1016 ⟨Nat.le_of_ble_eq_true rfl, Nat.le_of_ble_eq_true rfl⟩) hPM hPX hNM (fun q h1 h2 => hd q h2 h1) hAM hS (x_m1 IM_0 (x_m1 IM_3 (x_m1 IM_4 (x_m1 IM_19 (x_m1 IM_20 (x_m1 IM_21 (x_m1 IM_22 (x_m1 IM_7 (x_m1 IM_14 (x_m1 IM_15 (x_m1 IM_1 (x_m1 IM_2 (x_m1 IM_5 (x_m1 IM_6 rfl)))))))))))))) (x_m1 IM_0 (x_m1 IM_3 (x_m1 IM_4 (x_m1 IM_19 (x_m1 IM_20 (x_m1 IM_21 (x_m1 IM_22 (x_m1 IM_7 (x_m1 IM_14 (x_m1 IM_15 (x_m1 IM_1 (x_m1 IM_2 (x_m1 IM_5 (x_m1 IM_6 rfl)))))))))))))) (IM_c (fun k_ hk_ => pt_ne [0, 19, 20, 7] _ (fun hm_ => hk_ ((by decide : ∀ x ∈ ([0, 19, 20, 7] : List Nat), x ∈ ([0, 3, 4, 19, 20, 21, 22, 7, 14, 15, 1, 2, 5, 6] : List Nat)) k_ hm_))) (fun k_ hk_ => pt_ne [4, 22, 15, 2] _ (fun hm_ => hk_ ((by decide : ∀ x ∈ ([4, 22, 15, 2] : List Nat), x ∈ ([0, 3, 4, 19, 20, 21, 22, 7, 14, 15, 1, 2, 5, 6] : List Nat)) k_ hm_))) (fun _ => rfl)) (fun H locs hPM hPX hS => ?_)
  refine lv_icmp_eq (tgt := 1436) hx hb dL_law_1019 (by decide) (fun _ => ?_) (fun c_ => absurd rfl c_)
  exact kk (pt v [42, 54, 43, 47, 45, 46, 44, 51, 52, 53] [pt (v 42) [4] [(o_V1 0)], (o_V2 0), pt (v 43) [0, 2] [(o_V1 2), (o_V1 3)], (o_V2 3), (o_V2 4), (o_V2 5), (o_V2 6), pt (v 51) [0] [(o_V1 1)], (o_V2 1), (o_V2 2)]) j (pt w [0, 19, 20, 7] [pt (w 0) [11, 12, 20] [(o_W1 0), (o_W1 2), (o_W1 1)], (o_W2 0), (o_W2 1), (o_W2 2)]) (pt t [4, 22, 15, 2] [(o_W3 0), (o_W3 1), (o_W3 2), (o_W3 3)]) q H locs ⟨⟨op, hop, hox, h3⟩, ⟨sn, sm, sS, sT, sL, hsp, hsx, h2, hw⟩, hRR, hRN, hRT, h1, hnb, hRI, hfa, hRA⟩ hPX hPM hS
set_option maxHeartbeats 4000000 in
set_option maxRecDepth 20000 in
theorem lk_labellingCount (SS : LwS p s m meth c b L xs D G aX aM) (hR : Rel v j w t q) (hPX : xW D aX (IX G hX rX v j) H) (hPM : xW D aM (IM G hM rM w t q) H) (hS : va_S (fun q : Nat => s.heap.size ≤ q) s.heap H locs) (hl : lv_has ls 4 [(0, .ref b), (1, .ref (hX 0)), (2, .ref (hM 0)), (3, .int x3)]) (hi : LIn x3 L) (kk : LK p l e s m below meth c b D G aX aM hX rX hM rM 1436 ls) : W p l e room_1 s m #[Value.ref b] below meth c H locs 600000 7302249 (lw_Z below #[Value.ref b] s) (F0 m 1024 ls []) := by
  obtain ⟨⟨hx, hb, hr, hml, hown, hts, hXb, hbl, hlocks, hgv⟩, hE, hNX, hNM, hd, hAX, hAM⟩ := SS
  have hown : s.vm.findClass RL = some m.cls := hown
  have htl : ∀ w ∈ wsL_law, w.before #[Value.ref b] s = true := fun w h => hts w (wsL_law_in w h)
  have hbA : ¬ (fun q : Nat => s.heap.size ≤ q) b := Nat.not_le.mpr hbl
  obtain ⟨i1, i2, i3, i4⟩ := hi
  obtain ⟨hRO, hRS, hRR, hRN, hRT, hF, hnb, hRI, hfa, hRA⟩ := hR
  obtain ⟨op, hop, hox, hom⟩ := id hRO
  obtain ⟨sn, sm, sS, sT, sL, hsp, hsx, hsm, hw⟩ := id hRS
  obtain ⟨rc, rL, rR, hrp, hrx, hrm⟩ := id hRR
  obtain ⟨lt_, hlt, htx, htm⟩ := id hRT
  obtain ⟨li, hin, hix, him⟩ := id hRI
  obtain ⟨aK, har⟩ := id hRA
  obtain ⟨o_r, o_V1, o_V2, o_W1, o_W2, o_W3, e1, e2, h1, h2, h3⟩ := s_labellingCount 100000 (by decide) hsp hsx hsm hom hnb hF (v 43 0) (v 43 2) (v 51 0) (w 0 11) (w 0 12) (v 47) (v 45) (v 46) (v 44) (v 52) (v 53) (v 5) (w 20) (t 22) (t 15) (xs (x3 + 1).toNatClampNeg)
  refine lv_aload_n hx hb dL_law_1024 rfl (lv_at hl 1 rfl) ?_
  refine lv_aload_n hx hb dL_law_1025 rfl (lv_at hl 0 rfl) ?_
  refine lv_iload_n hx hb dL_law_1026 rfl (lv_at hl 3 rfl) ?_
  refine lv_iconst (v := 1) hx hb dL_law_1027 (by decide) ?_
  refine lv_iadd hx hb dL_law_1028 ?_
  refine va_sld hx hb hXb hbl hbA hS i1 dL_law_1029 ?_
  refine l_goi (ps := [0, 42, 48, 50, 43, 47, 45, 46, 44, 51, 52, 53, 4, 8, 6, 7, 5]) (I' := IX G hX rX (pt v [43, 47, 45, 46, 44, 51, 52, 53] [pt (v 43) [0, 2] [(o_V1 1), (o_V1 2)], (o_V2 2), (o_V2 3), (o_V2 4), (o_V2 5), pt (v 51) [0] [(o_V1 0)], (o_V2 0), (o_V2 1)]) j) (x_runV (As := [.int (xs (x3 + 1).toNatClampNeg)]) (rest := []) (ps := [0, 42, 48, 50, 43, 47, 45, 46, 44, 51, 52, 53, 4, 8, 6, 7, 5]) ⟨hx, hb, hml, hown, htl⟩ (k_X11_labellingCount l D G 100000 (hX 0) (hX 1) (hX 4) (hX 9) (hX 12) (hX 15) (hX 20) (hX 23) (hX 26) (hX 33) (hX 40) (hX 42) (hX 55) (hX 57) (hX 63) (hX 67) (hX 43) (hX 48) (hX 51) (hX 54) (hX 49) (hX 50) (hX 44) (hX 45) (hX 46) (hX 47) (hX 52) (hX 53) (hX 5) (hX 6) (hX 7) (hX 8) (v 0 6) (v 42 4) (v 43 0) (v 43 2) (v 51 0) (v 4 0) (v 4 2) (v 50) (v 47) (v 45) (v 46) (v 44) (v 52) (v 53) (v 8) (v 6) (v 7) (v 5) (xs (x3 + 1).toNatClampNeg) (o_r, o_V1, o_V2) e1) (cwV 1 htl gL_law_X11_labellingCount rfl rfl rfl (by decide +kernel) ⟨Nat.le_of_ble_eq_true rfl, Nat.le_of_ble_eq_true rfl⟩) hE hPX hNX (x_m1 IX_0 (x_m1 IX_42 (x_m1 IX_48 (x_m1 IX_50 (x_m1 IX_43 (x_m1 IX_47 (x_m1 IX_45 (x_m1 IX_46 (x_m1 IX_44 (x_m1 IX_51 (x_m1 IX_52 (x_m1 IX_53 (x_m1 IX_4 (x_m1 IX_8 (x_m1 IX_6 (x_m1 IX_7 (x_m1 IX_5 rfl))))))))))))))))) (by decide) 0 IX_0 rfl rfl hl.1 (Nat.le_of_ble_eq_true rfl) dL_law_1030 ⟨Nat.le_of_ble_eq_true rfl, Nat.le_of_ble_eq_true rfl⟩) hPX hPM hNX hd hAX hS (x_m1 IX_0 (x_m1 IX_42 (x_m1 IX_48 (x_m1 IX_50 (x_m1 IX_43 (x_m1 IX_47 (x_m1 IX_45 (x_m1 IX_46 (x_m1 IX_44 (x_m1 IX_51 (x_m1 IX_52 (x_m1 IX_53 (x_m1 IX_4 (x_m1 IX_8 (x_m1 IX_6 (x_m1 IX_7 (x_m1 IX_5 rfl))))))))))))))))) (x_m1 IX_0 (x_m1 IX_42 (x_m1 IX_48 (x_m1 IX_50 (x_m1 IX_43 (x_m1 IX_47 (x_m1 IX_45 (x_m1 IX_46 (x_m1 IX_44 (x_m1 IX_51 (x_m1 IX_52 (x_m1 IX_53 (x_m1 IX_4 (x_m1 IX_8 (x_m1 IX_6 (x_m1 IX_7 (x_m1 IX_5 rfl))))))))))))))))) (IX_c (fun k_ hk_ => pt_ne [43, 47, 45, 46, 44, 51, 52, 53] _ (fun hm_ => hk_ ((by decide : ∀ x ∈ ([43, 47, 45, 46, 44, 51, 52, 53] : List Nat), x ∈ ([0, 42, 48, 50, 43, 47, 45, 46, 44, 51, 52, 53, 4, 8, 6, 7, 5] : List Nat)) k_ hm_))) (fun _ => rfl)) (fun H locs hPX hPM hS => ?_)
  refine lv_aload_n hx hb dL_law_1033 rfl (lv_at hl 2 rfl) ?_
  refine lv_aload_n hx hb dL_law_1034 rfl (lv_at hl 0 rfl) ?_
  refine lv_iload_n hx hb dL_law_1035 rfl (lv_at hl 3 rfl) ?_
  refine lv_iconst (v := 1) hx hb dL_law_1036 (by decide) ?_
  refine lv_iadd hx hb dL_law_1037 ?_
  refine va_sld hx hb hXb hbl hbA hS i1 dL_law_1038 ?_
  refine l_goi (ps := [0, 3, 4, 19, 20, 21, 22, 7, 14, 15, 1, 2, 5, 6]) (I' := IM G hM rM (pt w [0, 19, 20, 7] [pt (w 0) [11, 12, 20] [(o_W1 0), (o_W1 2), (o_W1 1)], (o_W2 0), (o_W2 1), (o_W2 2)]) (pt t [4, 22, 15, 2] [(o_W3 0), (o_W3 1), (o_W3 2), (o_W3 3)]) q) (x_runV (As := [.int (xs (x3 + 1).toNatClampNeg)]) (rest := [.int o_r]) (ps := [0, 3, 4, 19, 20, 21, 22, 7, 14, 15, 1, 2, 5, 6]) ⟨hx, hb, hml, hown, htl⟩ (k_X12_labellingCount l D G 100000 (hM 0) (hM 1) (hM 3) (hM 5) (hM 6) (hM 7) (hM 8) (hM 9) (hM 11) (hM 13) (hM 14) (hM 16) (hM 17) (hM 18) (hM 19) (hM 20) (hM 21) (hM 23) (hM 24) (hM 26) (hM 27) (hM 28) (hM 30) (hM 31) (hM 32) (hM 33) (hM 34) (hM 35) (hM 36) (hM 38) (hM 39) (hM 40) (hM 41) (hM 42) (hM 43) (hM 45) (hM 47) (rM 3) (rM 21) (rM 14) (rM 1) (w 0 2) (w 0 3) (w 0 11) (w 0 12) (w 0 16) (w 0 18) (w 0 20) (w 0 24) (w 0 25) (w 0 28) (w 0 29) (w 0 36) (w 0 40) (w 0 41) (w 0 42) (w 0 43) (t 4) (w 19) (w 20) (t 22) (w 7) (t 15) (t 2) (w 5) (w 6) (xs (x3 + 1).toNatClampNeg) (o_r, o_W1, o_W2, o_W3) e2) (cwV 1 htl gL_law_X12_labellingCount rfl rfl rfl (by decide +kernel) ⟨Nat.le_of_ble_eq_true rfl, Nat.le_of_ble_eq_true rfl⟩) hE hPM hNM (x_m1 IM_0 (x_m1 IM_3 (x_m1 IM_4 (x_m1 IM_19 (x_m1 IM_20 (x_m1 IM_21 (x_m1 IM_22 (x_m1 IM_7 (x_m1 IM_14 (x_m1 IM_15 (x_m1 IM_1 (x_m1 IM_2 (x_m1 IM_5 (x_m1 IM_6 rfl)))))))))))))) (by decide) 0 IM_0 rfl rfl hl.1 (Nat.le_of_ble_eq_true rfl) dL_law_1039 ⟨Nat.le_of_ble_eq_true rfl, Nat.le_of_ble_eq_true rfl⟩) hPM hPX hNM (fun q h1 h2 => hd q h2 h1) hAM hS (x_m1 IM_0 (x_m1 IM_3 (x_m1 IM_4 (x_m1 IM_19 (x_m1 IM_20 (x_m1 IM_21 (x_m1 IM_22 (x_m1 IM_7 (x_m1 IM_14 (x_m1 IM_15 (x_m1 IM_1 (x_m1 IM_2 (x_m1 IM_5 (x_m1 IM_6 rfl)))))))))))))) (x_m1 IM_0 (x_m1 IM_3 (x_m1 IM_4 (x_m1 IM_19 (x_m1 IM_20 (x_m1 IM_21 (x_m1 IM_22 (x_m1 IM_7 (x_m1 IM_14 (x_m1 IM_15 (x_m1 IM_1 (x_m1 IM_2 (x_m1 IM_5 (x_m1 IM_6 rfl)))))))))))))) (IM_c (fun k_ hk_ => pt_ne [0, 19, 20, 7] _ (fun hm_ => hk_ ((by decide : ∀ x ∈ ([0, 19, 20, 7] : List Nat), x ∈ ([0, 3, 4, 19, 20, 21, 22, 7, 14, 15, 1, 2, 5, 6] : List Nat)) k_ hm_))) (fun k_ hk_ => pt_ne [4, 22, 15, 2] _ (fun hm_ => hk_ ((by decide : ∀ x ∈ ([4, 22, 15, 2] : List Nat), x ∈ ([0, 3, 4, 19, 20, 21, 22, 7, 14, 15, 1, 2, 5, 6] : List Nat)) k_ hm_))) (fun _ => rfl)) (fun H locs hPM hPX hS => ?_)
  refine lv_icmp_eq (tgt := 1436) hx hb dL_law_1042 (by decide) (fun _ => ?_) (fun c_ => absurd rfl c_)
  exact kk (pt v [43, 47, 45, 46, 44, 51, 52, 53] [pt (v 43) [0, 2] [(o_V1 1), (o_V1 2)], (o_V2 2), (o_V2 3), (o_V2 4), (o_V2 5), pt (v 51) [0] [(o_V1 0)], (o_V2 0), (o_V2 1)]) j (pt w [0, 19, 20, 7] [pt (w 0) [11, 12, 20] [(o_W1 0), (o_W1 2), (o_W1 1)], (o_W2 0), (o_W2 1), (o_W2 2)]) (pt t [4, 22, 15, 2] [(o_W3 0), (o_W3 1), (o_W3 2), (o_W3 3)]) q H locs ⟨⟨op, hop, hox, h3⟩, ⟨sn, sm, sS, sT, sL, hsp, hsx, h2, hw⟩, hRR, hRN, hRT, h1, hnb, hRI, hfa, hRA⟩ hPX hPM hS
set_option maxHeartbeats 4000000 in
set_option maxRecDepth 20000 in
theorem lk_foundLabel (SS : LwS p s m meth c b L xs D G aX aM) (hR : Rel v j w t q) (hPX : xW D aX (IX G hX rX v j) H) (hPM : xW D aM (IM G hM rM w t q) H) (hS : va_S (fun q : Nat => s.heap.size ≤ q) s.heap H locs) (hl : lv_has ls 4 [(0, .ref b), (1, .ref (hX 0)), (2, .ref (hM 0)), (3, .int x3)]) (hi : LIn x3 L) (kk : LK p l e s m below meth c b D G aX aM hX rX hM rM 1436 ls) : W p l e room_1 s m #[Value.ref b] below meth c H locs 600000 7302249 (lw_Z below #[Value.ref b] s) (F0 m 1047 ls []) := by
  obtain ⟨⟨hx, hb, hr, hml, hown, hts, hXb, hbl, hlocks, hgv⟩, hE, hNX, hNM, hd, hAX, hAM⟩ := SS
  have hown : s.vm.findClass RL = some m.cls := hown
  have htl : ∀ w ∈ wsL_law, w.before #[Value.ref b] s = true := fun w h => hts w (wsL_law_in w h)
  have hbA : ¬ (fun q : Nat => s.heap.size ≤ q) b := Nat.not_le.mpr hbl
  obtain ⟨i1, i2, i3, i4⟩ := hi
  obtain ⟨hRO, hRS, hRR, hRN, hRT, hF, hnb, hRI, hfa, hRA⟩ := hR
  obtain ⟨op, hop, hox, hom⟩ := id hRO
  obtain ⟨sn, sm, sS, sT, sL, hsp, hsx, hsm, hw⟩ := id hRS
  obtain ⟨rc, rL, rR, hrp, hrx, hrm⟩ := id hRR
  obtain ⟨lt_, hlt, htx, htm⟩ := id hRT
  obtain ⟨li, hin, hix, him⟩ := id hRI
  obtain ⟨aK, har⟩ := id hRA
  obtain ⟨o_r, e1, e2⟩ := s_foundLabel hF (xs (x3 + 1).toNatClampNeg)
  refine lv_aload_n hx hb dL_law_1047 rfl (lv_at hl 1 rfl) ?_
  refine lv_aload_n hx hb dL_law_1048 rfl (lv_at hl 0 rfl) ?_
  refine lv_iload_n hx hb dL_law_1049 rfl (lv_at hl 3 rfl) ?_
  refine lv_iconst (v := 1) hx hb dL_law_1050 (by decide) ?_
  refine lv_iadd hx hb dL_law_1051 ?_
  refine va_sld hx hb hXb hbl hbA hS i1 dL_law_1052 ?_
  refine l_goi (ps := [0, 42, 54]) (I' := IX G hX rX v j) (x_runV (As := [.int (xs (x3 + 1).toNatClampNeg)]) (rest := []) (ps := [0, 42, 54]) ⟨hx, hb, hml, hown, htl⟩ (k_X11_foundLabel l D G 100000 (hX 0) (hX 1) (hX 4) (hX 9) (hX 12) (hX 15) (hX 20) (hX 23) (hX 26) (hX 33) (hX 40) (hX 42) (hX 55) (hX 57) (hX 63) (hX 67) (hX 43) (hX 48) (hX 51) (hX 54) (v 0 6) (v 42 4) (v 54) (xs (x3 + 1).toNatClampNeg) o_r e1) (cwV 1 htl gL_law_X11_foundLabel rfl rfl rfl (by decide +kernel) ⟨Nat.le_of_ble_eq_true rfl, Nat.le_of_ble_eq_true rfl⟩) hE hPX hNX (x_m1 IX_0 (x_m1 IX_42 (x_m1 IX_54 rfl))) (by decide) 0 IX_0 rfl rfl hl.1 (Nat.le_of_ble_eq_true rfl) dL_law_1053 ⟨Nat.le_of_ble_eq_true rfl, Nat.le_of_ble_eq_true rfl⟩) hPX hPM hNX hd hAX hS (x_m1 IX_0 (x_m1 IX_42 (x_m1 IX_54 rfl))) (x_m1 IX_0 (x_m1 IX_42 (x_m1 IX_54 rfl))) (IX_c (fun _ _ => rfl) (fun _ => rfl)) (fun H locs hPX hPM hS => ?_)
  refine lv_aload_n hx hb dL_law_1056 rfl (lv_at hl 2 rfl) ?_
  refine lv_aload_n hx hb dL_law_1057 rfl (lv_at hl 0 rfl) ?_
  refine lv_iload_n hx hb dL_law_1058 rfl (lv_at hl 3 rfl) ?_
  refine lv_iconst (v := 1) hx hb dL_law_1059 (by decide) ?_
  refine lv_iadd hx hb dL_law_1060 ?_
  refine va_sld hx hb hXb hbl hbA hS i1 dL_law_1061 ?_
  refine l_goi (ps := [0, 19]) (I' := IM G hM rM w t q) (x_runV (As := [.int (xs (x3 + 1).toNatClampNeg)]) (rest := [.int o_r]) (ps := [0, 19]) ⟨hx, hb, hml, hown, htl⟩ (k_X12_foundLabel l D G 100000 (hM 0) (hM 1) (hM 3) (hM 5) (hM 6) (hM 7) (hM 8) (hM 9) (hM 11) (hM 13) (hM 14) (hM 16) (hM 17) (hM 18) (hM 19) (hM 20) (hM 21) (hM 23) (hM 24) (hM 26) (hM 27) (hM 28) (hM 30) (hM 31) (hM 32) (hM 33) (hM 34) (hM 35) (hM 36) (hM 38) (hM 39) (hM 40) (hM 41) (hM 42) (hM 43) (hM 45) (hM 47) (w 0 2) (w 0 3) (w 0 11) (w 0 12) (w 0 16) (w 0 18) (w 0 20) (w 0 24) (w 0 25) (w 0 28) (w 0 29) (w 0 36) (w 0 40) (w 0 41) (w 0 42) (w 0 43) (w 19) (xs (x3 + 1).toNatClampNeg) o_r e2) (cwV 1 htl gL_law_X12_foundLabel rfl rfl rfl (by decide +kernel) ⟨Nat.le_of_ble_eq_true rfl, Nat.le_of_ble_eq_true rfl⟩) hE hPM hNM (x_m1 IM_0 (x_m1 IM_19 rfl)) (by decide) 0 IM_0 rfl rfl hl.1 (Nat.le_of_ble_eq_true rfl) dL_law_1062 ⟨Nat.le_of_ble_eq_true rfl, Nat.le_of_ble_eq_true rfl⟩) hPM hPX hNM (fun q h1 h2 => hd q h2 h1) hAM hS (x_m1 IM_0 (x_m1 IM_19 rfl)) (x_m1 IM_0 (x_m1 IM_19 rfl)) (IM_c (fun _ _ => rfl) (fun _ _ => rfl) (fun _ => rfl)) (fun H locs hPM hPX hS => ?_)
  refine lv_icmp_eq (tgt := 1436) hx hb dL_law_1065 (by decide) (fun _ => ?_) (fun c_ => absurd rfl c_)
  exact kk v j w t q H locs ⟨hRO, hRS, hRR, hRN, hRT, hF, hnb, hRI, hfa, hRA⟩ hPX hPM hS
end LCASES
