section LCASES
variable {p : Program} {l : Launch} {e : Env} {s : State} {m : MethodId} {below : List Frame} {meth : Method} {c : Code} {b L : Nat} {xs : Nat → Int32} {D : va_G} {G : Nat → ClassId} {aX aM : List (List Nat)} {hX : Nat → Nat} {rX : Nat → Nat → Nat} {hM : Nat → Nat} {rM : Nat → Nat → Nat} {v : Nat → Nat → Int32} {j : Nat → Nat → Int64} {w : Nat → Nat → Int32} {t : Nat → Nat → Nat → Int32} {q : Nat → Nat → Int64} {H : Heap} {locs : List Loc} {ls : Array Slot} {x3 : Int32}
set_option maxHeartbeats 4000000 in
set_option maxRecDepth 20000 in
theorem lk_wordLength (SS : LwS p s m meth c b L xs D G aX aM) (hR : Rel v j w t q) (hPX : xW D aX (IX G hX rX v j) H) (hPM : xW D aM (IM G hM rM w t q) H) (hS : va_S (fun q : Nat => s.heap.size ≤ q) s.heap H locs) (hl : lv_has ls 4 [(0, .ref b), (1, .ref (hX 0)), (2, .ref (hM 0)), (3, .int x3)]) (hi : LIn x3 L) (kk : LK p l e s m below meth c b D G aX aM hX rX hM rM 1436 ls) : W p l e room_1 s m #[Value.ref b] below meth c H locs 600000 7302249 (lw_Z below #[Value.ref b] s) (F0 m 1168 ls []) := by
  obtain ⟨⟨hx, hb, hr, hml, hown, hts, hXb, hbl, hlocks, hgv⟩, hE, hNX, hNM, hd, hAX, hAM⟩ := SS
  have hown : s.vm.findClass RL = some m.cls := hown
  have htl : ∀ w ∈ wsL_law, w.before #[Value.ref b] s = true := fun w h => hts w (wsL_law_in w h)
  have hbA : ¬ (fun q : Nat => s.heap.size ≤ q) b := Nat.not_le.mpr hbl
  obtain ⟨i1, i2, i3, i4⟩ := hi
  obtain ⟨hRO, hRS, hRR, hRN, hRT, hF, hnb, hRI, hfa, hRA⟩ := hR
  obtain ⟨op, hop, hox, hom⟩ := id hRO
  obtain ⟨sn, sm, sS, sT, sL, hsp, hsx, hsm, hw⟩ := id hRS
  obtain ⟨rc, rL, rR, hrp, hrx, hrm⟩ := id hRR
  obtain ⟨lt_, hlt, htx, htm⟩ := id hRT
  obtain ⟨li, hin, hix, him⟩ := id hRI
  obtain ⟨aK, har⟩ := id hRA
  obtain ⟨o_r, e1, e2⟩ := s_wordLength 100000 (by decide) hsp hsx hsm hw (xs (x3 + 1).toNatClampNeg)
  refine lv_aload_n hx hb dL_law_1168 rfl (lv_at hl 1 rfl) ?_
  refine lv_aload_n hx hb dL_law_1169 rfl (lv_at hl 0 rfl) ?_
  refine lv_iload_n hx hb dL_law_1170 rfl (lv_at hl 3 rfl) ?_
  refine lv_iconst (v := 1) hx hb dL_law_1171 (by decide) ?_
  refine lv_iadd hx hb dL_law_1172 ?_
  refine va_sld hx hb hXb hbl hbA hS i1 dL_law_1173 ?_
  refine l_goi (ps := [0, 4, 5]) (I' := IX G hX rX v j) (x_runV (As := [.int (xs (x3 + 1).toNatClampNeg)]) (rest := []) (ps := [0, 4, 5]) ⟨hx, hb, hml, hown, htl⟩ (k_X11_wordLength l D G 100000 (hX 0) (hX 1) (hX 4) (hX 9) (hX 12) (hX 15) (hX 20) (hX 23) (hX 26) (hX 33) (hX 40) (hX 42) (hX 55) (hX 57) (hX 63) (hX 67) (hX 5) (hX 6) (hX 7) (hX 8) (v 0 6) (v 4 0) (v 4 2) (v 5) (xs (x3 + 1).toNatClampNeg) o_r e1) (cwV 1 htl gL_law_X11_wordLength rfl rfl rfl (by decide +kernel) ⟨Nat.le_of_ble_eq_true rfl, Nat.le_of_ble_eq_true rfl⟩) hE hPX hNX (x_m1 IX_0 (x_m1 IX_4 (x_m1 IX_5 rfl))) (by decide) 0 IX_0 rfl rfl hl.1 (Nat.le_of_ble_eq_true rfl) dL_law_1174 ⟨Nat.le_of_ble_eq_true rfl, Nat.le_of_ble_eq_true rfl⟩) hPX hPM hNX hd hAX hS (x_m1 IX_0 (x_m1 IX_4 (x_m1 IX_5 rfl))) (x_m1 IX_0 (x_m1 IX_4 (x_m1 IX_5 rfl))) (IX_c (fun _ _ => rfl) (fun _ => rfl)) (fun H locs hPX hPM hS => ?_)
  refine lv_aload_n hx hb dL_law_1177 rfl (lv_at hl 2 rfl) ?_
  refine lv_aload_n hx hb dL_law_1178 rfl (lv_at hl 0 rfl) ?_
  refine lv_iload_n hx hb dL_law_1179 rfl (lv_at hl 3 rfl) ?_
  refine lv_iconst (v := 1) hx hb dL_law_1180 (by decide) ?_
  refine lv_iadd hx hb dL_law_1181 ?_
  refine va_sld hx hb hXb hbl hbA hS i1 dL_law_1182 ?_
  refine l_goi (ps := [0, 8]) (I' := IM G hM rM w t q) (x_runV (As := [.int (xs (x3 + 1).toNatClampNeg)]) (rest := [.int o_r]) (ps := [0, 8]) ⟨hx, hb, hml, hown, htl⟩ (k_X12_wordLength l D G 100000 (hM 0) (hM 1) (hM 3) (hM 5) (hM 6) (hM 7) (hM 8) (hM 9) (hM 11) (hM 13) (hM 14) (hM 16) (hM 17) (hM 18) (hM 19) (hM 20) (hM 21) (hM 23) (hM 24) (hM 26) (hM 27) (hM 28) (hM 30) (hM 31) (hM 32) (hM 33) (hM 34) (hM 35) (hM 36) (hM 38) (hM 39) (hM 40) (hM 41) (hM 42) (hM 43) (hM 45) (hM 47) (w 0 2) (w 0 3) (w 0 11) (w 0 12) (w 0 16) (w 0 18) (w 0 20) (w 0 24) (w 0 25) (w 0 28) (w 0 29) (w 0 36) (w 0 40) (w 0 41) (w 0 42) (w 0 43) (w 8) (xs (x3 + 1).toNatClampNeg) o_r e2) (cwV 1 htl gL_law_X12_wordLength rfl rfl rfl (by decide +kernel) ⟨Nat.le_of_ble_eq_true rfl, Nat.le_of_ble_eq_true rfl⟩) hE hPM hNM (x_m1 IM_0 (x_m1 IM_8 rfl)) (by decide) 0 IM_0 rfl rfl hl.1 (Nat.le_of_ble_eq_true rfl) dL_law_1183 ⟨Nat.le_of_ble_eq_true rfl, Nat.le_of_ble_eq_true rfl⟩) hPM hPX hNM (fun q h1 h2 => hd q h2 h1) hAM hS (x_m1 IM_0 (x_m1 IM_8 rfl)) (x_m1 IM_0 (x_m1 IM_8 rfl)) (IM_c (fun _ _ => rfl) (fun _ _ => rfl) (fun _ => rfl)) (fun H locs hPM hPX hS => ?_)
  refine lv_icmp_eq (tgt := 1436) hx hb dL_law_1186 (by decide) (fun _ => ?_) (fun c_ => absurd rfl c_)
  exact kk v j w t q H locs ⟨hRO, hRS, hRR, hRN, hRT, hF, hnb, hRI, hfa, hRA⟩ hPX hPM hS
set_option maxHeartbeats 4000000 in
set_option maxRecDepth 20000 in
theorem lk_letter (SS : LwS p s m meth c b L xs D G aX aM) (hR : Rel v j w t q) (hPX : xW D aX (IX G hX rX v j) H) (hPM : xW D aM (IM G hM rM w t q) H) (hS : va_S (fun q : Nat => s.heap.size ≤ q) s.heap H locs) (hl : lv_has ls 4 [(0, .ref b), (1, .ref (hX 0)), (2, .ref (hM 0)), (3, .int x3)]) (hi : LIn x3 L) (kk : LK p l e s m below meth c b D G aX aM hX rX hM rM 1436 ls) : W p l e room_1 s m #[Value.ref b] below meth c H locs 600000 7302249 (lw_Z below #[Value.ref b] s) (F0 m 1191 ls []) := by
  obtain ⟨⟨hx, hb, hr, hml, hown, hts, hXb, hbl, hlocks, hgv⟩, hE, hNX, hNM, hd, hAX, hAM⟩ := SS
  have hown : s.vm.findClass RL = some m.cls := hown
  have htl : ∀ w ∈ wsL_law, w.before #[Value.ref b] s = true := fun w h => hts w (wsL_law_in w h)
  have hbA : ¬ (fun q : Nat => s.heap.size ≤ q) b := Nat.not_le.mpr hbl
  obtain ⟨i1, i2, i3, i4⟩ := hi
  obtain ⟨hRO, hRS, hRR, hRN, hRT, hF, hnb, hRI, hfa, hRA⟩ := hR
  obtain ⟨op, hop, hox, hom⟩ := id hRO
  obtain ⟨sn, sm, sS, sT, sL, hsp, hsx, hsm, hw⟩ := id hRS
  obtain ⟨rc, rL, rR, hrp, hrx, hrm⟩ := id hRR
  obtain ⟨lt_, hlt, htx, htm⟩ := id hRT
  obtain ⟨li, hin, hix, him⟩ := id hRI
  obtain ⟨aK, har⟩ := id hRA
  obtain ⟨o_r, e1, e2⟩ := s_letter 100000 (by decide) hsp hsx hsm hw (xs (x3 + 1).toNatClampNeg) (xs (x3 + 2).toNatClampNeg)
  refine lv_aload_n hx hb dL_law_1191 rfl (lv_at hl 1 rfl) ?_
  refine lv_aload_n hx hb dL_law_1192 rfl (lv_at hl 0 rfl) ?_
  refine lv_iload_n hx hb dL_law_1193 rfl (lv_at hl 3 rfl) ?_
  refine lv_iconst (v := 1) hx hb dL_law_1194 (by decide) ?_
  refine lv_iadd hx hb dL_law_1195 ?_
  refine va_sld hx hb hXb hbl hbA hS i1 dL_law_1196 ?_
  refine lv_aload_n hx hb dL_law_1197 rfl (lv_at hl 0 rfl) ?_
  refine lv_iload_n hx hb dL_law_1198 rfl (lv_at hl 3 rfl) ?_
  refine lv_iconst (v := 2) hx hb dL_law_1199 (by decide) ?_
  refine lv_iadd hx hb dL_law_1200 ?_
  refine va_sld hx hb hXb hbl hbA hS i2 dL_law_1201 ?_
  refine l_goi (ps := [0, 4, 5]) (I' := IX G hX rX v j) (x_runV (As := [.int (xs (x3 + 1).toNatClampNeg), .int (xs (x3 + 2).toNatClampNeg)]) (rest := []) (ps := [0, 4, 5]) ⟨hx, hb, hml, hown, htl⟩ (k_X11_letter l D G 100000 (hX 0) (hX 1) (hX 4) (hX 9) (hX 12) (hX 15) (hX 20) (hX 23) (hX 26) (hX 33) (hX 40) (hX 42) (hX 55) (hX 57) (hX 63) (hX 67) (hX 5) (hX 6) (hX 7) (hX 8) (v 0 6) (v 4 0) (v 4 2) (v 5) (xs (x3 + 1).toNatClampNeg) (xs (x3 + 2).toNatClampNeg) o_r e1) (cwV 2 htl gL_law_X11_letter rfl rfl rfl (by decide +kernel) ⟨Nat.le_of_ble_eq_true rfl, Nat.le_of_ble_eq_true rfl⟩) hE hPX hNX (x_m1 IX_0 (x_m1 IX_4 (x_m1 IX_5 rfl))) (by decide) 0 IX_0 rfl rfl hl.1 (Nat.le_of_ble_eq_true rfl) dL_law_1202 ⟨Nat.le_of_ble_eq_true rfl, Nat.le_of_ble_eq_true rfl⟩) hPX hPM hNX hd hAX hS (x_m1 IX_0 (x_m1 IX_4 (x_m1 IX_5 rfl))) (x_m1 IX_0 (x_m1 IX_4 (x_m1 IX_5 rfl))) (IX_c (fun _ _ => rfl) (fun _ => rfl)) (fun H locs hPX hPM hS => ?_)
  refine lv_aload_n hx hb dL_law_1205 rfl (lv_at hl 2 rfl) ?_
  refine lv_aload_n hx hb dL_law_1206 rfl (lv_at hl 0 rfl) ?_
  refine lv_iload_n hx hb dL_law_1207 rfl (lv_at hl 3 rfl) ?_
  refine lv_iconst (v := 1) hx hb dL_law_1208 (by decide) ?_
  refine lv_iadd hx hb dL_law_1209 ?_
  refine va_sld hx hb hXb hbl hbA hS i1 dL_law_1210 ?_
  refine lv_aload_n hx hb dL_law_1211 rfl (lv_at hl 0 rfl) ?_
  refine lv_iload_n hx hb dL_law_1212 rfl (lv_at hl 3 rfl) ?_
  refine lv_iconst (v := 2) hx hb dL_law_1213 (by decide) ?_
  refine lv_iadd hx hb dL_law_1214 ?_
  refine va_sld hx hb hXb hbl hbA hS i2 dL_law_1215 ?_
  refine l_goi (ps := [0, 8, 9, 10]) (I' := IM G hM rM w t q) (x_runV (As := [.int (xs (x3 + 1).toNatClampNeg), .int (xs (x3 + 2).toNatClampNeg)]) (rest := [.int o_r]) (ps := [0, 8, 9, 10]) ⟨hx, hb, hml, hown, htl⟩ (k_X12_letter l D G 100000 (hM 0) (hM 1) (hM 3) (hM 5) (hM 6) (hM 7) (hM 8) (hM 9) (hM 11) (hM 13) (hM 14) (hM 16) (hM 17) (hM 18) (hM 19) (hM 20) (hM 21) (hM 23) (hM 24) (hM 26) (hM 27) (hM 28) (hM 30) (hM 31) (hM 32) (hM 33) (hM 34) (hM 35) (hM 36) (hM 38) (hM 39) (hM 40) (hM 41) (hM 42) (hM 43) (hM 45) (hM 47) (rM 9) (w 0 2) (w 0 3) (w 0 11) (w 0 12) (w 0 16) (w 0 18) (w 0 20) (w 0 24) (w 0 25) (w 0 28) (w 0 29) (w 0 36) (w 0 40) (w 0 41) (w 0 42) (w 0 43) (w 8) (t 10) (xs (x3 + 1).toNatClampNeg) (xs (x3 + 2).toNatClampNeg) o_r e2) (cwV 2 htl gL_law_X12_letter rfl rfl rfl (by decide +kernel) ⟨Nat.le_of_ble_eq_true rfl, Nat.le_of_ble_eq_true rfl⟩) hE hPM hNM (x_m1 IM_0 (x_m1 IM_8 (x_m1 IM_9 (x_m1 IM_10 rfl)))) (by decide) 0 IM_0 rfl rfl hl.1 (Nat.le_of_ble_eq_true rfl) dL_law_1216 ⟨Nat.le_of_ble_eq_true rfl, Nat.le_of_ble_eq_true rfl⟩) hPM hPX hNM (fun q h1 h2 => hd q h2 h1) hAM hS (x_m1 IM_0 (x_m1 IM_8 (x_m1 IM_9 (x_m1 IM_10 rfl)))) (x_m1 IM_0 (x_m1 IM_8 (x_m1 IM_9 (x_m1 IM_10 rfl)))) (IM_c (fun _ _ => rfl) (fun _ _ => rfl) (fun _ => rfl)) (fun H locs hPM hPX hS => ?_)
  refine lv_icmp_eq (tgt := 1436) hx hb dL_law_1219 (by decide) (fun _ => ?_) (fun c_ => absurd rfl c_)
  exact kk v j w t q H locs ⟨hRO, hRS, hRR, hRN, hRT, hF, hnb, hRI, hfa, hRA⟩ hPX hPM hS
set_option maxHeartbeats 4000000 in
set_option maxRecDepth 20000 in
theorem lk_newArray (SS : LwS p s m meth c b L xs D G aX aM) (hR : Rel v j w t q) (hPX : xW D aX (IX G hX rX v j) H) (hPM : xW D aM (IM G hM rM w t q) H) (hS : va_S (fun q : Nat => s.heap.size ≤ q) s.heap H locs) (hl : lv_has ls 4 [(0, .ref b), (1, .ref (hX 0)), (2, .ref (hM 0)), (3, .int x3)]) (hi : LIn x3 L) (kk : LK p l e s m below meth c b D G aX aM hX rX hM rM 1436 ls) : W p l e room_1 s m #[Value.ref b] below meth c H locs 600000 7302249 (lw_Z below #[Value.ref b] s) (F0 m 1224 ls []) := by
  obtain ⟨⟨hx, hb, hr, hml, hown, hts, hXb, hbl, hlocks, hgv⟩, hE, hNX, hNM, hd, hAX, hAM⟩ := SS
  have hown : s.vm.findClass RL = some m.cls := hown
  have htl : ∀ w ∈ wsL_law, w.before #[Value.ref b] s = true := fun w h => hts w (wsL_law_in w h)
  have hbA : ¬ (fun q : Nat => s.heap.size ≤ q) b := Nat.not_le.mpr hbl
  obtain ⟨i1, i2, i3, i4⟩ := hi
  obtain ⟨hRO, hRS, hRR, hRN, hRT, hF, hnb, hRI, hfa, hRA⟩ := hR
  obtain ⟨op, hop, hox, hom⟩ := id hRO
  obtain ⟨sn, sm, sS, sT, sL, hsp, hsx, hsm, hw⟩ := id hRS
  obtain ⟨rc, rL, rR, hrp, hrx, hrm⟩ := id hRR
  obtain ⟨lt_, hlt, htx, htm⟩ := id hRT
  obtain ⟨li, hin, hix, him⟩ := id hRI
  obtain ⟨aK, har⟩ := id hRA
  obtain ⟨o_r, o_sx', o_vx', o_sm', o_vm', o_K', e1, e2, h1⟩ := s_newArray 100000 (by decide) har (xs (x3 + 1).toNatClampNeg) (xs (x3 + 2).toNatClampNeg)
  refine lv_aload_n hx hb dL_law_1224 rfl (lv_at hl 1 rfl) ?_
  refine lv_aload_n hx hb dL_law_1225 rfl (lv_at hl 0 rfl) ?_
  refine lv_iload_n hx hb dL_law_1226 rfl (lv_at hl 3 rfl) ?_
  refine lv_iconst (v := 1) hx hb dL_law_1227 (by decide) ?_
  refine lv_iadd hx hb dL_law_1228 ?_
  refine va_sld hx hb hXb hbl hbA hS i1 dL_law_1229 ?_
  refine lv_aload_n hx hb dL_law_1230 rfl (lv_at hl 0 rfl) ?_
  refine lv_iload_n hx hb dL_law_1231 rfl (lv_at hl 3 rfl) ?_
  refine lv_iconst (v := 2) hx hb dL_law_1232 (by decide) ?_
  refine lv_iadd hx hb dL_law_1233 ?_
  refine va_sld hx hb hXb hbl hbA hS i2 dL_law_1234 ?_
  refine l_goi (ps := [0, 63, 64, 65, 66]) (I' := IX G hX rX (pt v [64] [o_sx']) o_vx') (x_runV (As := [.int (xs (x3 + 1).toNatClampNeg), .int (xs (x3 + 2).toNatClampNeg)]) (rest := []) (ps := [0, 63, 64, 65, 66]) ⟨hx, hb, hml, hown, htl⟩ (k_X11_newArray l D G 100000 (hX 0) (hX 1) (hX 4) (hX 9) (hX 12) (hX 15) (hX 20) (hX 23) (hX 26) (hX 33) (hX 40) (hX 42) (hX 55) (hX 57) (hX 63) (hX 67) (hX 64) (hX 65) (rX 65) (v 0 6) (v 64) j (xs (x3 + 1).toNatClampNeg) (xs (x3 + 2).toNatClampNeg) (o_r, o_sx', o_vx') e1) (cwV 2 htl gL_law_X11_newArray rfl rfl rfl (by decide +kernel) ⟨Nat.le_of_ble_eq_true rfl, Nat.le_of_ble_eq_true rfl⟩) hE hPX hNX (x_m1 IX_0 (x_m1 IX_63 (x_m1 IX_64 (x_m1 IX_65 (x_m1 IX_66 rfl))))) (by decide) 0 IX_0 rfl rfl hl.1 (Nat.le_of_ble_eq_true rfl) dL_law_1235 ⟨Nat.le_of_ble_eq_true rfl, Nat.le_of_ble_eq_true rfl⟩) hPX hPM hNX hd hAX hS (x_m1 IX_0 (x_m1 IX_63 (x_m1 IX_64 (x_m1 IX_65 (x_m1 IX_66 rfl))))) (x_m1 IX_0 (x_m1 IX_63 (x_m1 IX_64 (x_m1 IX_65 (x_m1 IX_66 rfl))))) (IX_c (fun k_ hk_ => pt_ne [64] _ (fun hm_ => hk_ ((by decide : ∀ x ∈ ([64] : List Nat), x ∈ ([0, 63, 64, 65, 66] : List Nat)) k_ hm_))) (fun h_ => absurd (by decide : 66 ∈ ([0, 63, 64, 65, 66] : List Nat)) h_)) (fun H locs hPX hPM hS => ?_)
  refine lv_aload_n hx hb dL_law_1238 rfl (lv_at hl 2 rfl) ?_
  refine lv_aload_n hx hb dL_law_1239 rfl (lv_at hl 0 rfl) ?_
  refine lv_iload_n hx hb dL_law_1240 rfl (lv_at hl 3 rfl) ?_
  refine lv_iconst (v := 1) hx hb dL_law_1241 (by decide) ?_
  refine lv_iadd hx hb dL_law_1242 ?_
  refine va_sld hx hb hXb hbl hbA hS i1 dL_law_1243 ?_
  refine lv_aload_n hx hb dL_law_1244 rfl (lv_at hl 0 rfl) ?_
  refine lv_iload_n hx hb dL_law_1245 rfl (lv_at hl 3 rfl) ?_
  refine lv_iconst (v := 2) hx hb dL_law_1246 (by decide) ?_
  refine lv_iadd hx hb dL_law_1247 ?_
  refine va_sld hx hb hXb hbl hbA hS i2 dL_law_1248 ?_
  refine l_goi (ps := [0, 36, 37, 35]) (I' := IM G hM rM (pt w [35] [o_sm']) t o_vm') (x_runV (As := [.int (xs (x3 + 1).toNatClampNeg), .int (xs (x3 + 2).toNatClampNeg)]) (rest := [.int o_r]) (ps := [0, 36, 37, 35]) ⟨hx, hb, hml, hown, htl⟩ (k_X12_newArray l D G 100000 (hM 0) (hM 1) (hM 3) (hM 5) (hM 6) (hM 7) (hM 8) (hM 9) (hM 11) (hM 13) (hM 14) (hM 16) (hM 17) (hM 18) (hM 19) (hM 20) (hM 21) (hM 23) (hM 24) (hM 26) (hM 27) (hM 28) (hM 30) (hM 31) (hM 32) (hM 33) (hM 34) (hM 35) (hM 36) (hM 38) (hM 39) (hM 40) (hM 41) (hM 42) (hM 43) (hM 45) (hM 47) (rM 36) (w 0 2) (w 0 3) (w 0 11) (w 0 12) (w 0 16) (w 0 18) (w 0 20) (w 0 24) (w 0 25) (w 0 28) (w 0 29) (w 0 36) (w 0 40) (w 0 41) (w 0 42) (w 0 43) q (w 35) (xs (x3 + 1).toNatClampNeg) (xs (x3 + 2).toNatClampNeg) (o_r, o_vm', o_sm') e2) (cwV 2 htl gL_law_X12_newArray rfl rfl rfl (by decide +kernel) ⟨Nat.le_of_ble_eq_true rfl, Nat.le_of_ble_eq_true rfl⟩) hE hPM hNM (x_m1 IM_0 (x_m1 IM_36 (x_m1 IM_37 (x_m1 IM_35 rfl)))) (by decide) 0 IM_0 rfl rfl hl.1 (Nat.le_of_ble_eq_true rfl) dL_law_1249 ⟨Nat.le_of_ble_eq_true rfl, Nat.le_of_ble_eq_true rfl⟩) hPM hPX hNM (fun q h1 h2 => hd q h2 h1) hAM hS (x_m1 IM_0 (x_m1 IM_36 (x_m1 IM_37 (x_m1 IM_35 rfl)))) (x_m1 IM_0 (x_m1 IM_36 (x_m1 IM_37 (x_m1 IM_35 rfl)))) (IM_c (fun k_ hk_ => pt_ne [35] _ (fun hm_ => hk_ ((by decide : ∀ x ∈ ([35] : List Nat), x ∈ ([0, 36, 37, 35] : List Nat)) k_ hm_))) (fun _ _ => rfl) (fun h_ => absurd (by decide : 37 ∈ ([0, 36, 37, 35] : List Nat)) h_)) (fun H locs hPM hPX hS => ?_)
  refine lv_icmp_eq (tgt := 1436) hx hb dL_law_1252 (by decide) (fun _ => ?_) (fun c_ => absurd rfl c_)
  exact kk (pt v [64] [o_sx']) o_vx' (pt w [35] [o_sm']) t o_vm' H locs ⟨hRO, hRS, hRR, hRN, hRT, hF, hnb, hRI, hfa, ⟨o_K', h1⟩⟩ hPX hPM hS
set_option maxHeartbeats 4000000 in
set_option maxRecDepth 20000 in
theorem lk_setElement (SS : LwS p s m meth c b L xs D G aX aM) (hR : Rel v j w t q) (hPX : xW D aX (IX G hX rX v j) H) (hPM : xW D aM (IM G hM rM w t q) H) (hS : va_S (fun q : Nat => s.heap.size ≤ q) s.heap H locs) (hl : lv_has ls 4 [(0, .ref b), (1, .ref (hX 0)), (2, .ref (hM 0)), (3, .int x3)]) (hi : LIn x3 L) (kk : LK p l e s m below meth c b D G aX aM hX rX hM rM 1436 ls) : W p l e room_1 s m #[Value.ref b] below meth c H locs 600000 7302249 (lw_Z below #[Value.ref b] s) (F0 m 1257 ls []) := by
  obtain ⟨⟨hx, hb, hr, hml, hown, hts, hXb, hbl, hlocks, hgv⟩, hE, hNX, hNM, hd, hAX, hAM⟩ := SS
  have hown : s.vm.findClass RL = some m.cls := hown
  have htl : ∀ w ∈ wsL_law, w.before #[Value.ref b] s = true := fun w h => hts w (wsL_law_in w h)
  have hbA : ¬ (fun q : Nat => s.heap.size ≤ q) b := Nat.not_le.mpr hbl
  obtain ⟨i1, i2, i3, i4⟩ := hi
  obtain ⟨hRO, hRS, hRR, hRN, hRT, hF, hnb, hRI, hfa, hRA⟩ := hR
  obtain ⟨op, hop, hox, hom⟩ := id hRO
  obtain ⟨sn, sm, sS, sT, sL, hsp, hsx, hsm, hw⟩ := id hRS
  obtain ⟨rc, rL, rR, hrp, hrx, hrm⟩ := id hRR
  obtain ⟨lt_, hlt, htx, htm⟩ := id hRT
  obtain ⟨li, hin, hix, him⟩ := id hRI
  obtain ⟨aK, har⟩ := id hRA
  obtain ⟨o_r, o_vx', o_vm', e1, e2, h1⟩ := s_setElement har (xs (x3 + 1).toNatClampNeg) (xs (x3 + 2).toNatClampNeg) ((xs (x3 + 3).toNatClampNeg).toInt64 <<< ((32 : Int32).toInt64 &&& 63) ||| (xs (x3 + 4).toNatClampNeg).toInt64 &&& 4294967295)
  refine lv_aload_n hx hb dL_law_1257 rfl (lv_at hl 1 rfl) ?_
  refine lv_aload_n hx hb dL_law_1258 rfl (lv_at hl 0 rfl) ?_
  refine lv_iload_n hx hb dL_law_1259 rfl (lv_at hl 3 rfl) ?_
  refine lv_iconst (v := 1) hx hb dL_law_1260 (by decide) ?_
  refine lv_iadd hx hb dL_law_1261 ?_
  refine va_sld hx hb hXb hbl hbA hS i1 dL_law_1262 ?_
  refine lv_aload_n hx hb dL_law_1263 rfl (lv_at hl 0 rfl) ?_
  refine lv_iload_n hx hb dL_law_1264 rfl (lv_at hl 3 rfl) ?_
  refine lv_iconst (v := 2) hx hb dL_law_1265 (by decide) ?_
  refine lv_iadd hx hb dL_law_1266 ?_
  refine va_sld hx hb hXb hbl hbA hS i2 dL_law_1267 ?_
  refine lv_aload_n hx hb dL_law_1268 rfl (lv_at hl 0 rfl) ?_
  refine lv_iload_n hx hb dL_law_1269 rfl (lv_at hl 3 rfl) ?_
  refine lv_iconst (v := 3) hx hb dL_law_1270 (by decide) ?_
  refine lv_iadd hx hb dL_law_1271 ?_
  refine va_sld hx hb hXb hbl hbA hS i3 dL_law_1272 ?_
  refine lv_i2l hx hb dL_law_1273 rfl ?_
  refine lv_bipush (v := 32) hx hb dL_law_1274 (by decide) ?_
  refine lv_lshl hx hb dL_law_1276 rfl ?_
  refine lv_aload_n hx hb dL_law_1277 rfl (lv_at hl 0 rfl) ?_
  refine lv_iload_n hx hb dL_law_1278 rfl (lv_at hl 3 rfl) ?_
  refine lv_iconst (v := 4) hx hb dL_law_1279 (by decide) ?_
  refine lv_iadd hx hb dL_law_1280 ?_
  refine va_sld hx hb hXb hbl hbA hS i4 dL_law_1281 ?_
  refine lv_i2l hx hb dL_law_1282 rfl ?_
  refine lv_ldc2 hx hb hown (htl (.constantLong RL 197 4294967295) (List.mem_append_left _ (List.mem_of_getElem? (i := 6) rfl))) dL_law_1283 ?_
  refine lv_land hx hb dL_law_1286 ?_
  refine lv_lor hx hb dL_law_1287 ?_
  refine l_goi (ps := [0, 63, 64, 65, 66]) (I' := IX G hX rX v o_vx') (x_runV (As := [.int (xs (x3 + 1).toNatClampNeg), .int (xs (x3 + 2).toNatClampNeg), .long ((xs (x3 + 3).toNatClampNeg).toInt64 <<< ((32 : Int32).toInt64 &&& 63) ||| (xs (x3 + 4).toNatClampNeg).toInt64 &&& 4294967295)]) (rest := []) (ps := [0, 63, 64, 65, 66]) ⟨hx, hb, hml, hown, htl⟩ (k_X11_setElement l D G 100000 (hX 0) (hX 1) (hX 4) (hX 9) (hX 12) (hX 15) (hX 20) (hX 23) (hX 26) (hX 33) (hX 40) (hX 42) (hX 55) (hX 57) (hX 63) (hX 67) (hX 64) (hX 65) (rX 65) (v 0 6) (v 64) j (xs (x3 + 1).toNatClampNeg) (xs (x3 + 2).toNatClampNeg) ((xs (x3 + 3).toNatClampNeg).toInt64 <<< ((32 : Int32).toInt64 &&& 63) ||| (xs (x3 + 4).toNatClampNeg).toInt64 &&& 4294967295) (o_r, o_vx') e1) (cwV 3 htl gL_law_X11_setElement rfl rfl rfl (by decide +kernel) ⟨Nat.le_of_ble_eq_true rfl, Nat.le_of_ble_eq_true rfl⟩) hE hPX hNX (x_m1 IX_0 (x_m1 IX_63 (x_m1 IX_64 (x_m1 IX_65 (x_m1 IX_66 rfl))))) (by decide) 0 IX_0 rfl rfl hl.1 (Nat.le_of_ble_eq_true rfl) dL_law_1288 ⟨Nat.le_of_ble_eq_true rfl, Nat.le_of_ble_eq_true rfl⟩) hPX hPM hNX hd hAX hS (x_m1 IX_0 (x_m1 IX_63 (x_m1 IX_64 (x_m1 IX_65 (x_m1 IX_66 rfl))))) (x_m1 IX_0 (x_m1 IX_63 (x_m1 IX_64 (x_m1 IX_65 (x_m1 IX_66 rfl))))) (IX_c (fun _ _ => rfl) (fun h_ => absurd (by decide : 66 ∈ ([0, 63, 64, 65, 66] : List Nat)) h_)) (fun H locs hPX hPM hS => ?_)
  refine lv_aload_n hx hb dL_law_1291 rfl (lv_at hl 2 rfl) ?_
  refine lv_aload_n hx hb dL_law_1292 rfl (lv_at hl 0 rfl) ?_
  refine lv_iload_n hx hb dL_law_1293 rfl (lv_at hl 3 rfl) ?_
  refine lv_iconst (v := 1) hx hb dL_law_1294 (by decide) ?_
  refine lv_iadd hx hb dL_law_1295 ?_
  refine va_sld hx hb hXb hbl hbA hS i1 dL_law_1296 ?_
  refine lv_aload_n hx hb dL_law_1297 rfl (lv_at hl 0 rfl) ?_
  refine lv_iload_n hx hb dL_law_1298 rfl (lv_at hl 3 rfl) ?_
  refine lv_iconst (v := 2) hx hb dL_law_1299 (by decide) ?_
  refine lv_iadd hx hb dL_law_1300 ?_
  refine va_sld hx hb hXb hbl hbA hS i2 dL_law_1301 ?_
  refine lv_aload_n hx hb dL_law_1302 rfl (lv_at hl 0 rfl) ?_
  refine lv_iload_n hx hb dL_law_1303 rfl (lv_at hl 3 rfl) ?_
  refine lv_iconst (v := 3) hx hb dL_law_1304 (by decide) ?_
  refine lv_iadd hx hb dL_law_1305 ?_
  refine va_sld hx hb hXb hbl hbA hS i3 dL_law_1306 ?_
  refine lv_i2l hx hb dL_law_1307 rfl ?_
  refine lv_bipush (v := 32) hx hb dL_law_1308 (by decide) ?_
  refine lv_lshl hx hb dL_law_1310 rfl ?_
  refine lv_aload_n hx hb dL_law_1311 rfl (lv_at hl 0 rfl) ?_
  refine lv_iload_n hx hb dL_law_1312 rfl (lv_at hl 3 rfl) ?_
  refine lv_iconst (v := 4) hx hb dL_law_1313 (by decide) ?_
  refine lv_iadd hx hb dL_law_1314 ?_
  refine va_sld hx hb hXb hbl hbA hS i4 dL_law_1315 ?_
  refine lv_i2l hx hb dL_law_1316 rfl ?_
  refine lv_ldc2 hx hb hown (htl (.constantLong RL 197 4294967295) (List.mem_append_left _ (List.mem_of_getElem? (i := 6) rfl))) dL_law_1317 ?_
  refine lv_land hx hb dL_law_1320 ?_
  refine lv_lor hx hb dL_law_1321 ?_
  refine l_goi (ps := [0, 36, 37, 35]) (I' := IM G hM rM w t o_vm') (x_runV (As := [.int (xs (x3 + 1).toNatClampNeg), .int (xs (x3 + 2).toNatClampNeg), .long ((xs (x3 + 3).toNatClampNeg).toInt64 <<< ((32 : Int32).toInt64 &&& 63) ||| (xs (x3 + 4).toNatClampNeg).toInt64 &&& 4294967295)]) (rest := [.int o_r]) (ps := [0, 36, 37, 35]) ⟨hx, hb, hml, hown, htl⟩ (k_X12_setElement l D G 100000 (hM 0) (hM 1) (hM 3) (hM 5) (hM 6) (hM 7) (hM 8) (hM 9) (hM 11) (hM 13) (hM 14) (hM 16) (hM 17) (hM 18) (hM 19) (hM 20) (hM 21) (hM 23) (hM 24) (hM 26) (hM 27) (hM 28) (hM 30) (hM 31) (hM 32) (hM 33) (hM 34) (hM 35) (hM 36) (hM 38) (hM 39) (hM 40) (hM 41) (hM 42) (hM 43) (hM 45) (hM 47) (rM 36) (w 0 2) (w 0 3) (w 0 11) (w 0 12) (w 0 16) (w 0 18) (w 0 20) (w 0 24) (w 0 25) (w 0 28) (w 0 29) (w 0 36) (w 0 40) (w 0 41) (w 0 42) (w 0 43) q (w 35) (xs (x3 + 1).toNatClampNeg) (xs (x3 + 2).toNatClampNeg) ((xs (x3 + 3).toNatClampNeg).toInt64 <<< ((32 : Int32).toInt64 &&& 63) ||| (xs (x3 + 4).toNatClampNeg).toInt64 &&& 4294967295) (o_r, o_vm') e2) (cwV 3 htl gL_law_X12_setElement rfl rfl rfl (by decide +kernel) ⟨Nat.le_of_ble_eq_true rfl, Nat.le_of_ble_eq_true rfl⟩) hE hPM hNM (x_m1 IM_0 (x_m1 IM_36 (x_m1 IM_37 (x_m1 IM_35 rfl)))) (by decide) 0 IM_0 rfl rfl hl.1 (Nat.le_of_ble_eq_true rfl) dL_law_1322 ⟨Nat.le_of_ble_eq_true rfl, Nat.le_of_ble_eq_true rfl⟩) hPM hPX hNM (fun q h1 h2 => hd q h2 h1) hAM hS (x_m1 IM_0 (x_m1 IM_36 (x_m1 IM_37 (x_m1 IM_35 rfl)))) (x_m1 IM_0 (x_m1 IM_36 (x_m1 IM_37 (x_m1 IM_35 rfl)))) (IM_c (fun _ _ => rfl) (fun _ _ => rfl) (fun h_ => absurd (by decide : 37 ∈ ([0, 36, 37, 35] : List Nat)) h_)) (fun H locs hPM hPX hS => ?_)
  refine lv_icmp_eq (tgt := 1436) hx hb dL_law_1325 (by decide) (fun _ => ?_) (fun c_ => absurd rfl c_)
  exact kk v o_vx' w t o_vm' H locs ⟨hRO, hRS, hRR, hRN, hRT, hF, hnb, hRI, hfa, ⟨aK, h1⟩⟩ hPX hPM hS
set_option maxHeartbeats 4000000 in
set_option maxRecDepth 20000 in
theorem lk_element (SS : LwS p s m meth c b L xs D G aX aM) (hR : Rel v j w t q) (hPX : xW D aX (IX G hX rX v j) H) (hPM : xW D aM (IM G hM rM w t q) H) (hS : va_S (fun q : Nat => s.heap.size ≤ q) s.heap H locs) (hl : lv_has ls 4 [(0, .ref b), (1, .ref (hX 0)), (2, .ref (hM 0)), (3, .int x3)]) (hi : LIn x3 L) (kk : LK p l e s m below meth c b D G aX aM hX rX hM rM 1436 ls) : W p l e room_1 s m #[Value.ref b] below meth c H locs 600000 7302249 (lw_Z below #[Value.ref b] s) (F0 m 1330 ls []) := by
  obtain ⟨⟨hx, hb, hr, hml, hown, hts, hXb, hbl, hlocks, hgv⟩, hE, hNX, hNM, hd, hAX, hAM⟩ := SS
  have hown : s.vm.findClass RL = some m.cls := hown
  have htl : ∀ w ∈ wsL_law, w.before #[Value.ref b] s = true := fun w h => hts w (wsL_law_in w h)
  have hbA : ¬ (fun q : Nat => s.heap.size ≤ q) b := Nat.not_le.mpr hbl
  obtain ⟨i1, i2, i3, i4⟩ := hi
  obtain ⟨hRO, hRS, hRR, hRN, hRT, hF, hnb, hRI, hfa, hRA⟩ := hR
  obtain ⟨op, hop, hox, hom⟩ := id hRO
  obtain ⟨sn, sm, sS, sT, sL, hsp, hsx, hsm, hw⟩ := id hRS
  obtain ⟨rc, rL, rR, hrp, hrx, hrm⟩ := id hRR
  obtain ⟨lt_, hlt, htx, htm⟩ := id hRT
  obtain ⟨li, hin, hix, him⟩ := id hRI
  obtain ⟨aK, har⟩ := id hRA
  obtain ⟨o_r, e1, e2⟩ := s_element har (xs (x3 + 1).toNatClampNeg) (xs (x3 + 2).toNatClampNeg)
  refine lv_aload_n hx hb dL_law_1330 rfl (lv_at hl 1 rfl) ?_
  refine lv_aload_n hx hb dL_law_1331 rfl (lv_at hl 0 rfl) ?_
  refine lv_iload_n hx hb dL_law_1332 rfl (lv_at hl 3 rfl) ?_
  refine lv_iconst (v := 1) hx hb dL_law_1333 (by decide) ?_
  refine lv_iadd hx hb dL_law_1334 ?_
  refine va_sld hx hb hXb hbl hbA hS i1 dL_law_1335 ?_
  refine lv_aload_n hx hb dL_law_1336 rfl (lv_at hl 0 rfl) ?_
  refine lv_iload_n hx hb dL_law_1337 rfl (lv_at hl 3 rfl) ?_
  refine lv_iconst (v := 2) hx hb dL_law_1338 (by decide) ?_
  refine lv_iadd hx hb dL_law_1339 ?_
  refine va_sld hx hb hXb hbl hbA hS i2 dL_law_1340 ?_
  refine l_gol (ps := [0, 63, 64, 65, 66]) (I' := IX G hX rX v j) (x_runV (As := [.int (xs (x3 + 1).toNatClampNeg), .int (xs (x3 + 2).toNatClampNeg)]) (rest := []) (ps := [0, 63, 64, 65, 66]) ⟨hx, hb, hml, hown, htl⟩ (k_X11_element l D G 100000 (hX 0) (hX 1) (hX 4) (hX 9) (hX 12) (hX 15) (hX 20) (hX 23) (hX 26) (hX 33) (hX 40) (hX 42) (hX 55) (hX 57) (hX 63) (hX 67) (hX 64) (hX 65) (rX 65) (v 0 6) (v 64) j (xs (x3 + 1).toNatClampNeg) (xs (x3 + 2).toNatClampNeg) o_r e1) (cwV 2 htl gL_law_X11_element rfl rfl rfl (by decide +kernel) ⟨Nat.le_of_ble_eq_true rfl, Nat.le_of_ble_eq_true rfl⟩) hE hPX hNX (x_m1 IX_0 (x_m1 IX_63 (x_m1 IX_64 (x_m1 IX_65 (x_m1 IX_66 rfl))))) (by decide) 0 IX_0 rfl rfl hl.1 (Nat.le_of_ble_eq_true rfl) dL_law_1341 ⟨Nat.le_of_ble_eq_true rfl, Nat.le_of_ble_eq_true rfl⟩) hPX hPM hNX hd hAX hS (x_m1 IX_0 (x_m1 IX_63 (x_m1 IX_64 (x_m1 IX_65 (x_m1 IX_66 rfl))))) (x_m1 IX_0 (x_m1 IX_63 (x_m1 IX_64 (x_m1 IX_65 (x_m1 IX_66 rfl))))) (IX_c (fun _ _ => rfl) (fun _ => rfl)) (fun H locs hPX hPM hS => ?_)
  refine lv_aload_n hx hb dL_law_1344 rfl (lv_at hl 2 rfl) ?_
  refine lv_aload_n hx hb dL_law_1345 rfl (lv_at hl 0 rfl) ?_
  refine lv_iload_n hx hb dL_law_1346 rfl (lv_at hl 3 rfl) ?_
  refine lv_iconst (v := 1) hx hb dL_law_1347 (by decide) ?_
  refine lv_iadd hx hb dL_law_1348 ?_
  refine va_sld hx hb hXb hbl hbA hS i1 dL_law_1349 ?_
  refine lv_aload_n hx hb dL_law_1350 rfl (lv_at hl 0 rfl) ?_
  refine lv_iload_n hx hb dL_law_1351 rfl (lv_at hl 3 rfl) ?_
  refine lv_iconst (v := 2) hx hb dL_law_1352 (by decide) ?_
  refine lv_iadd hx hb dL_law_1353 ?_
  refine va_sld hx hb hXb hbl hbA hS i2 dL_law_1354 ?_
  refine l_gol (ps := [0, 36, 37, 35]) (I' := IM G hM rM w t q) (x_runV (As := [.int (xs (x3 + 1).toNatClampNeg), .int (xs (x3 + 2).toNatClampNeg)]) (rest := [.long o_r]) (ps := [0, 36, 37, 35]) ⟨hx, hb, hml, hown, htl⟩ (k_X12_element l D G 100000 (hM 0) (hM 1) (hM 3) (hM 5) (hM 6) (hM 7) (hM 8) (hM 9) (hM 11) (hM 13) (hM 14) (hM 16) (hM 17) (hM 18) (hM 19) (hM 20) (hM 21) (hM 23) (hM 24) (hM 26) (hM 27) (hM 28) (hM 30) (hM 31) (hM 32) (hM 33) (hM 34) (hM 35) (hM 36) (hM 38) (hM 39) (hM 40) (hM 41) (hM 42) (hM 43) (hM 45) (hM 47) (rM 36) (w 0 2) (w 0 3) (w 0 11) (w 0 12) (w 0 16) (w 0 18) (w 0 20) (w 0 24) (w 0 25) (w 0 28) (w 0 29) (w 0 36) (w 0 40) (w 0 41) (w 0 42) (w 0 43) q (w 35) (xs (x3 + 1).toNatClampNeg) (xs (x3 + 2).toNatClampNeg) o_r e2) (cwV 2 htl gL_law_X12_element rfl rfl rfl (by decide +kernel) ⟨Nat.le_of_ble_eq_true rfl, Nat.le_of_ble_eq_true rfl⟩) hE hPM hNM (x_m1 IM_0 (x_m1 IM_36 (x_m1 IM_37 (x_m1 IM_35 rfl)))) (by decide) 0 IM_0 rfl rfl hl.1 (Nat.le_of_ble_eq_true rfl) dL_law_1355 ⟨Nat.le_of_ble_eq_true rfl, Nat.le_of_ble_eq_true rfl⟩) hPM hPX hNM (fun q h1 h2 => hd q h2 h1) hAM hS (x_m1 IM_0 (x_m1 IM_36 (x_m1 IM_37 (x_m1 IM_35 rfl)))) (x_m1 IM_0 (x_m1 IM_36 (x_m1 IM_37 (x_m1 IM_35 rfl)))) (IM_c (fun _ _ => rfl) (fun _ _ => rfl) (fun _ => rfl)) (fun H locs hPM hPX hS => ?_)
  refine W.lcmp hx hb dL_law_1358 ?_
  refine lv_if_eq (tgt := 1436) hx hb dL_law_1359 (by decide) (fun _ => ?_) (fun c_ => absurd (by first | (simp [lg_cmp]; done) | (unfold lg_cmp; rw [if_neg (fun h_ => absurd h_ Int64.lt_irrefl), if_pos rfl])) c_)
  exact kk v j w t q H locs ⟨hRO, hRS, hRR, hRN, hRT, hF, hnb, hRI, hfa, hRA⟩ hPX hPM hS
set_option maxHeartbeats 4000000 in
set_option maxRecDepth 20000 in
theorem lk_saveReachable (SS : LwS p s m meth c b L xs D G aX aM) (hR : Rel v j w t q) (hPX : xW D aX (IX G hX rX v j) H) (hPM : xW D aM (IM G hM rM w t q) H) (hS : va_S (fun q : Nat => s.heap.size ≤ q) s.heap H locs) (hl : lv_has ls 4 [(0, .ref b), (1, .ref (hX 0)), (2, .ref (hM 0)), (3, .int x3)]) (hi : LIn x3 L) (kk : LK p l e s m below meth c b D G aX aM hX rX hM rM 1436 ls) : W p l e room_1 s m #[Value.ref b] below meth c H locs 600000 7302249 (lw_Z below #[Value.ref b] s) (F0 m 1364 ls []) := by
  obtain ⟨⟨hx, hb, hr, hml, hown, hts, hXb, hbl, hlocks, hgv⟩, hE, hNX, hNM, hd, hAX, hAM⟩ := SS
  have hown : s.vm.findClass RL = some m.cls := hown
  have htl : ∀ w ∈ wsL_law, w.before #[Value.ref b] s = true := fun w h => hts w (wsL_law_in w h)
  have hbA : ¬ (fun q : Nat => s.heap.size ≤ q) b := Nat.not_le.mpr hbl
  obtain ⟨i1, i2, i3, i4⟩ := hi
  obtain ⟨hRO, hRS, hRR, hRN, hRT, hF, hnb, hRI, hfa, hRA⟩ := hR
  obtain ⟨op, hop, hox, hom⟩ := id hRO
  obtain ⟨sn, sm, sS, sT, sL, hsp, hsx, hsm, hw⟩ := id hRS
  obtain ⟨rc, rL, rR, hrp, hrx, hrm⟩ := id hRR
  obtain ⟨lt_, hlt, htx, htm⟩ := id hRT
  obtain ⟨li, hin, hix, him⟩ := id hRI
  obtain ⟨aK, har⟩ := id hRA
  obtain ⟨o_r, o_zx', o_vx', o_rows', o_vm', o_D', o_zm', o_K', e1, e2, h1⟩ := s_saveReachable 100000 (by decide) hsp hsx hsm har (v 67) (t 12) (xs (x3 + 1).toNatClampNeg)
  refine lv_aload_n hx hb dL_law_1364 rfl (lv_at hl 1 rfl) ?_
  refine lv_aload_n hx hb dL_law_1365 rfl (lv_at hl 0 rfl) ?_
  refine lv_iload_n hx hb dL_law_1366 rfl (lv_at hl 3 rfl) ?_
  refine lv_iconst (v := 1) hx hb dL_law_1367 (by decide) ?_
  refine lv_iadd hx hb dL_law_1368 ?_
  refine va_sld hx hb hXb hbl hbA hS i1 dL_law_1369 ?_
  refine l_goi (ps := [0, 63, 64, 65, 66, 67, 4, 8, 6, 7]) (I' := IX G hX rX (pt v [64, 67] [o_zx', o_rows']) o_vx') (x_runV (As := [.int (xs (x3 + 1).toNatClampNeg)]) (rest := []) (ps := [0, 63, 64, 65, 66, 67, 4, 8, 6, 7]) ⟨hx, hb, hml, hown, htl⟩ (k_X11_saveReachable l D G 100000 (hX 0) (hX 1) (hX 4) (hX 9) (hX 12) (hX 15) (hX 20) (hX 23) (hX 26) (hX 33) (hX 40) (hX 42) (hX 55) (hX 57) (hX 63) (hX 67) (hX 64) (hX 65) (rX 65) (hX 5) (hX 6) (hX 7) (hX 8) (v 0 6) (v 4 0) (v 4 2) (v 64) j (v 67) (v 8) (v 6) (v 7) (xs (x3 + 1).toNatClampNeg) (o_r, o_zx', o_vx', o_rows') e1) (cwV 1 htl gL_law_X11_saveReachable rfl rfl rfl (by decide +kernel) ⟨Nat.le_of_ble_eq_true rfl, Nat.le_of_ble_eq_true rfl⟩) hE hPX hNX (x_m1 IX_0 (x_m1 IX_63 (x_m1 IX_64 (x_m1 IX_65 (x_m1 IX_66 (x_m1 IX_67 (x_m1 IX_4 (x_m1 IX_8 (x_m1 IX_6 (x_m1 IX_7 rfl)))))))))) (by decide) 0 IX_0 rfl rfl hl.1 (Nat.le_of_ble_eq_true rfl) dL_law_1370 ⟨Nat.le_of_ble_eq_true rfl, Nat.le_of_ble_eq_true rfl⟩) hPX hPM hNX hd hAX hS (x_m1 IX_0 (x_m1 IX_63 (x_m1 IX_64 (x_m1 IX_65 (x_m1 IX_66 (x_m1 IX_67 (x_m1 IX_4 (x_m1 IX_8 (x_m1 IX_6 (x_m1 IX_7 rfl)))))))))) (x_m1 IX_0 (x_m1 IX_63 (x_m1 IX_64 (x_m1 IX_65 (x_m1 IX_66 (x_m1 IX_67 (x_m1 IX_4 (x_m1 IX_8 (x_m1 IX_6 (x_m1 IX_7 rfl)))))))))) (IX_c (fun k_ hk_ => pt_ne [64, 67] _ (fun hm_ => hk_ ((by decide : ∀ x ∈ ([64, 67] : List Nat), x ∈ ([0, 63, 64, 65, 66, 67, 4, 8, 6, 7] : List Nat)) k_ hm_))) (fun h_ => absurd (by decide : 66 ∈ ([0, 63, 64, 65, 66, 67, 4, 8, 6, 7] : List Nat)) h_)) (fun H locs hPX hPM hS => ?_)
  refine lv_aload_n hx hb dL_law_1373 rfl (lv_at hl 2 rfl) ?_
  refine lv_aload_n hx hb dL_law_1374 rfl (lv_at hl 0 rfl) ?_
  refine lv_iload_n hx hb dL_law_1375 rfl (lv_at hl 3 rfl) ?_
  refine lv_iconst (v := 1) hx hb dL_law_1376 (by decide) ?_
  refine lv_iadd hx hb dL_law_1377 ?_
  refine va_sld hx hb hXb hbl hbA hS i1 dL_law_1378 ?_
  refine l_goi (ps := [0, 36, 37, 11, 12, 35, 5, 6]) (I' := IM G hM rM (pt w [35] [o_zm']) (pt t [12] [o_D']) o_vm') (x_runV (As := [.int (xs (x3 + 1).toNatClampNeg)]) (rest := [.int o_r]) (ps := [0, 36, 37, 11, 12, 35, 5, 6]) ⟨hx, hb, hml, hown, htl⟩ (k_X12_saveReachable l D G 100000 (hM 0) (hM 1) (hM 3) (hM 5) (hM 6) (hM 7) (hM 8) (hM 9) (hM 11) (hM 13) (hM 14) (hM 16) (hM 17) (hM 18) (hM 19) (hM 20) (hM 21) (hM 23) (hM 24) (hM 26) (hM 27) (hM 28) (hM 30) (hM 31) (hM 32) (hM 33) (hM 34) (hM 35) (hM 36) (hM 38) (hM 39) (hM 40) (hM 41) (hM 42) (hM 43) (hM 45) (hM 47) (rM 36) (rM 11) (w 0 2) (w 0 3) (w 0 11) (w 0 12) (w 0 16) (w 0 18) (w 0 20) (w 0 24) (w 0 25) (w 0 28) (w 0 29) (w 0 36) (w 0 40) (w 0 41) (w 0 42) (w 0 43) q (t 12) (w 35) (w 5) (w 6) (xs (x3 + 1).toNatClampNeg) (o_r, o_vm', o_D', o_zm') e2) (cwV 1 htl gL_law_X12_saveReachable rfl rfl rfl (by decide +kernel) ⟨Nat.le_of_ble_eq_true rfl, Nat.le_of_ble_eq_true rfl⟩) hE hPM hNM (x_m1 IM_0 (x_m1 IM_36 (x_m1 IM_37 (x_m1 IM_11 (x_m1 IM_12 (x_m1 IM_35 (x_m1 IM_5 (x_m1 IM_6 rfl)))))))) (by decide) 0 IM_0 rfl rfl hl.1 (Nat.le_of_ble_eq_true rfl) dL_law_1379 ⟨Nat.le_of_ble_eq_true rfl, Nat.le_of_ble_eq_true rfl⟩) hPM hPX hNM (fun q h1 h2 => hd q h2 h1) hAM hS (x_m1 IM_0 (x_m1 IM_36 (x_m1 IM_37 (x_m1 IM_11 (x_m1 IM_12 (x_m1 IM_35 (x_m1 IM_5 (x_m1 IM_6 rfl)))))))) (x_m1 IM_0 (x_m1 IM_36 (x_m1 IM_37 (x_m1 IM_11 (x_m1 IM_12 (x_m1 IM_35 (x_m1 IM_5 (x_m1 IM_6 rfl)))))))) (IM_c (fun k_ hk_ => pt_ne [35] _ (fun hm_ => hk_ ((by decide : ∀ x ∈ ([35] : List Nat), x ∈ ([0, 36, 37, 11, 12, 35, 5, 6] : List Nat)) k_ hm_))) (fun k_ hk_ => pt_ne [12] _ (fun hm_ => hk_ ((by decide : ∀ x ∈ ([12] : List Nat), x ∈ ([0, 36, 37, 11, 12, 35, 5, 6] : List Nat)) k_ hm_))) (fun h_ => absurd (by decide : 37 ∈ ([0, 36, 37, 11, 12, 35, 5, 6] : List Nat)) h_)) (fun H locs hPM hPX hS => ?_)
  refine lv_icmp_eq (tgt := 1436) hx hb dL_law_1382 (by decide) (fun _ => ?_) (fun c_ => absurd rfl c_)
  exact kk (pt v [64, 67] [o_zx', o_rows']) o_vx' (pt w [35] [o_zm']) (pt t [12] [o_D']) o_vm' H locs ⟨hRO, hRS, hRR, hRN, hRT, hF, hnb, hRI, hfa, ⟨o_K', h1⟩⟩ hPX hPM hS
end LCASES
