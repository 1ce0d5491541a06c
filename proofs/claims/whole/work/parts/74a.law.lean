section LCASES
variable {p : Program} {l : Launch} {e : Env} {s : State} {m : MethodId} {below : List Frame} {meth : Method} {c : Code} {b L : Nat} {xs : Nat → Int32} {D : va_G} {G : Nat → ClassId} {aX aM : List (List Nat)} {hX : Nat → Nat} {rX : Nat → Nat → Nat} {hM : Nat → Nat} {rM : Nat → Nat → Nat} {v : Nat → Nat → Int32} {j : Nat → Nat → Int64} {w : Nat → Nat → Int32} {t : Nat → Nat → Nat → Int32} {q : Nat → Nat → Int64} {H : Heap} {locs : List Loc} {ls : Array Slot} {x3 : Int32}
set_option maxHeartbeats 4000000 in
set_option maxRecDepth 20000 in
theorem lk_addGreater (SS : LwS p s m meth c b L xs D G aX aM) (hR : Rel v j w t q) (hPX : xW D aX (IX G hX rX v j) H) (hPM : xW D aM (IM G hM rM w t q) H) (hS : va_S (fun q : Nat => s.heap.size ≤ q) s.heap H locs) (hl : lv_has ls 4 [(0, .ref b), (1, .ref (hX 0)), (2, .ref (hM 0)), (3, .int x3)]) (hi : LIn x3 L) (kk : LK p l e s m below meth c b D G aX aM hX rX hM rM 1436 ls) : W p l e room_1 s m #[Value.ref b] below meth c H locs 600000 7302249 (lw_Z below #[Value.ref b] s) (F0 m 252 ls []) := by
  obtain ⟨⟨hx, hb, hr, hml, hown, hts, hXb, hbl, hlocks, hgv⟩, hE, hNX, hNM, hd, hAX, hAM⟩ := SS
  have hown : s.vm.findClass RL = some m.cls := hown
  have htl : ∀ w ∈ wsL_law, w.before #[Value.ref b] s = true := fun w h => hts w (wsL_law_in w h)
  have hbA : ¬ (fun q : Nat => s.heap.size ≤ q) b := Nat.not_le.mpr hbl
  obtain ⟨i1, i2, i3, i4⟩ := hi
  obtain ⟨hRO, hRS, hRR, hRN, hRT, hF, hnb, hRI, hfa, hRA⟩ := hR
  obtain ⟨op, hop, hox, hom⟩ := id hRO
  obtain ⟨sn, sm, sS, sT, sL, hsp, hsx, hsm, hw⟩ := id hRS
  obtain ⟨rc, rL, rR, hrp, hrx, hrm⟩ := id hRR
  obtain ⟨lt_, hlt, htx, htm⟩ := id hRT
  obtain ⟨li, hin, hix, him⟩ := id hRI
  obtain ⟨aK, har⟩ := id hRA
  obtain ⟨o_r, o_b', o_p', o_a', o_m', o_q, e1, e2, h1, h2, h3⟩ := s_addGreater 100000 (by decide) hop hox hom (xs (x3 + 1).toNatClampNeg) (xs (x3 + 2).toNatClampNeg)
  refine lv_aload_n hx hb dL_law_252 rfl (lv_at hl 1 rfl) ?_
  refine lv_aload_n hx hb dL_law_253 rfl (lv_at hl 0 rfl) ?_
  refine lv_iload_n hx hb dL_law_254 rfl (lv_at hl 3 rfl) ?_
  refine lv_iconst (v := 1) hx hb dL_law_255 (by decide) ?_
  refine lv_iadd hx hb dL_law_256 ?_
  refine va_sld hx hb hXb hbl hbA hS i1 dL_law_257 ?_
  refine lv_aload_n hx hb dL_law_258 rfl (lv_at hl 0 rfl) ?_
  refine lv_iload_n hx hb dL_law_259 rfl (lv_at hl 3 rfl) ?_
  refine lv_iconst (v := 2) hx hb dL_law_260 (by decide) ?_
  refine lv_iadd hx hb dL_law_261 ?_
  refine va_sld hx hb hXb hbl hbA hS i2 dL_law_262 ?_
  refine l_goi (ps := [0, 1, 3, 2]) (I' := IX G hX rX (pt v [3, 2] [o_b', o_p']) j) (x_runV (As := [.int (xs (x3 + 1).toNatClampNeg), .int (xs (x3 + 2).toNatClampNeg)]) (rest := []) (ps := [0, 1, 3, 2]) ⟨hx, hb, hml, hown, htl⟩ (k_X11_addGreater l D G 100000 (hX 0) (hX 1) (hX 4) (hX 9) (hX 12) (hX 15) (hX 20) (hX 23) (hX 26) (hX 33) (hX 40) (hX 42) (hX 55) (hX 57) (hX 63) (hX 67) (hX 2) (hX 3) (v 0 6) (v 3) (v 2) (xs (x3 + 1).toNatClampNeg) (xs (x3 + 2).toNatClampNeg) (o_r, o_b', o_p') e1) (cwV 2 htl gL_law_X11_addGreater rfl rfl rfl (by decide +kernel) ⟨Nat.le_of_ble_eq_true rfl, Nat.le_of_ble_eq_true rfl⟩) hE hPX hNX (x_m1 IX_0 (x_m1 IX_1 (x_m1 IX_3 (x_m1 IX_2 rfl)))) (by decide) 0 IX_0 rfl rfl hl.1 (Nat.le_of_ble_eq_true rfl) dL_law_263 ⟨Nat.le_of_ble_eq_true rfl, Nat.le_of_ble_eq_true rfl⟩) hPX hPM hNX hd hAX hS (x_m1 IX_0 (x_m1 IX_1 (x_m1 IX_3 (x_m1 IX_2 rfl)))) (x_m1 IX_0 (x_m1 IX_1 (x_m1 IX_3 (x_m1 IX_2 rfl)))) (IX_c (fun k_ hk_ => pt_ne [3, 2] _ (fun hm_ => hk_ ((by decide : ∀ x ∈ ([3, 2] : List Nat), x ∈ ([0, 1, 3, 2] : List Nat)) k_ hm_))) (fun _ => rfl)) (fun H locs hPX hPM hS => ?_)
  refine lv_aload_n hx hb dL_law_266 rfl (lv_at hl 2 rfl) ?_
  refine lv_aload_n hx hb dL_law_267 rfl (lv_at hl 0 rfl) ?_
  refine lv_iload_n hx hb dL_law_268 rfl (lv_at hl 3 rfl) ?_
  refine lv_iconst (v := 1) hx hb dL_law_269 (by decide) ?_
  refine lv_iadd hx hb dL_law_270 ?_
  refine va_sld hx hb hXb hbl hbA hS i1 dL_law_271 ?_
  refine lv_aload_n hx hb dL_law_272 rfl (lv_at hl 0 rfl) ?_
  refine lv_iload_n hx hb dL_law_273 rfl (lv_at hl 3 rfl) ?_
  refine lv_iconst (v := 2) hx hb dL_law_274 (by decide) ?_
  refine lv_iadd hx hb dL_law_275 ?_
  refine va_sld hx hb hXb hbl hbA hS i2 dL_law_276 ?_
  refine l_goi (ps := [0, 3, 4, 1, 2]) (I' := IM G hM rM w (pt t [4, 2] [o_a', o_m']) q) (x_runV (As := [.int (xs (x3 + 1).toNatClampNeg), .int (xs (x3 + 2).toNatClampNeg)]) (rest := [.int o_r]) (ps := [0, 3, 4, 1, 2]) ⟨hx, hb, hml, hown, htl⟩ (k_X12_addGreater l D G 100000 (hM 0) (hM 1) (hM 3) (hM 5) (hM 6) (hM 7) (hM 8) (hM 9) (hM 11) (hM 13) (hM 14) (hM 16) (hM 17) (hM 18) (hM 19) (hM 20) (hM 21) (hM 23) (hM 24) (hM 26) (hM 27) (hM 28) (hM 30) (hM 31) (hM 32) (hM 33) (hM 34) (hM 35) (hM 36) (hM 38) (hM 39) (hM 40) (hM 41) (hM 42) (hM 43) (hM 45) (hM 47) (rM 3) (rM 1) (w 0 2) (w 0 3) (w 0 11) (w 0 12) (w 0 16) (w 0 18) (w 0 20) (w 0 24) (w 0 25) (w 0 28) (w 0 29) (w 0 36) (w 0 40) (w 0 41) (w 0 42) (w 0 43) (t 4) (t 2) (xs (x3 + 1).toNatClampNeg) (xs (x3 + 2).toNatClampNeg) (o_r, o_a', o_m') e2) (cwV 2 htl gL_law_X12_addGreater rfl rfl rfl (by decide +kernel) ⟨Nat.le_of_ble_eq_true rfl, Nat.le_of_ble_eq_true rfl⟩) hE hPM hNM (x_m1 IM_0 (x_m1 IM_3 (x_m1 IM_4 (x_m1 IM_1 (x_m1 IM_2 rfl))))) (by decide) 0 IM_0 rfl rfl hl.1 (Nat.le_of_ble_eq_true rfl) dL_law_277 ⟨Nat.le_of_ble_eq_true rfl, Nat.le_of_ble_eq_true rfl⟩) hPM hPX hNM (fun q h1 h2 => hd q h2 h1) hAM hS (x_m1 IM_0 (x_m1 IM_3 (x_m1 IM_4 (x_m1 IM_1 (x_m1 IM_2 rfl))))) (x_m1 IM_0 (x_m1 IM_3 (x_m1 IM_4 (x_m1 IM_1 (x_m1 IM_2 rfl))))) (IM_c (fun _ _ => rfl) (fun k_ hk_ => pt_ne [4, 2] _ (fun hm_ => hk_ ((by decide : ∀ x ∈ ([4, 2] : List Nat), x ∈ ([0, 3, 4, 1, 2] : List Nat)) k_ hm_))) (fun _ => rfl)) (fun H locs hPM hPX hS => ?_)
  refine lv_icmp_eq (tgt := 1436) hx hb dL_law_280 (by decide) (fun _ => ?_) (fun c_ => absurd rfl c_)
  exact kk (pt v [3, 2] [o_b', o_p']) j w (pt t [4, 2] [o_a', o_m']) q H locs ⟨⟨o_q, h1, h2, h3⟩, hRS, hRR, hRN, hRT, hF, hnb, hRI, hfa, hRA⟩ hPX hPM hS
set_option maxHeartbeats 4000000 in
set_option maxRecDepth 20000 in
theorem lk_removeGreater (SS : LwS p s m meth c b L xs D G aX aM) (hR : Rel v j w t q) (hPX : xW D aX (IX G hX rX v j) H) (hPM : xW D aM (IM G hM rM w t q) H) (hS : va_S (fun q : Nat => s.heap.size ≤ q) s.heap H locs) (hl : lv_has ls 4 [(0, .ref b), (1, .ref (hX 0)), (2, .ref (hM 0)), (3, .int x3)]) (hi : LIn x3 L) (kk : LK p l e s m below meth c b D G aX aM hX rX hM rM 1436 ls) : W p l e room_1 s m #[Value.ref b] below meth c H locs 600000 7302249 (lw_Z below #[Value.ref b] s) (F0 m 285 ls []) := by
  obtain ⟨⟨hx, hb, hr, hml, hown, hts, hXb, hbl, hlocks, hgv⟩, hE, hNX, hNM, hd, hAX, hAM⟩ := SS
  have hown : s.vm.findClass RL = some m.cls := hown
  have htl : ∀ w ∈ wsL_law, w.before #[Value.ref b] s = true := fun w h => hts w (wsL_law_in w h)
  have hbA : ¬ (fun q : Nat => s.heap.size ≤ q) b := Nat.not_le.mpr hbl
  obtain ⟨i1, i2, i3, i4⟩ := hi
  obtain ⟨hRO, hRS, hRR, hRN, hRT, hF, hnb, hRI, hfa, hRA⟩ := hR
  obtain ⟨op, hop, hox, hom⟩ := id hRO
  obtain ⟨sn, sm, sS, sT, sL, hsp, hsx, hsm, hw⟩ := id hRS
  obtain ⟨rc, rL, rR, hrp, hrx, hrm⟩ := id hRR
  obtain ⟨lt_, hlt, htx, htm⟩ := id hRT
  obtain ⟨li, hin, hix, him⟩ := id hRI
  obtain ⟨aK, har⟩ := id hRA
  obtain ⟨o_r, o_b', o_p', o_a', o_m', o_q, e1, e2, h1, h2, h3⟩ := s_removeGreater 100000 (by decide) hop hox hom (xs (x3 + 1).toNatClampNeg) (xs (x3 + 2).toNatClampNeg)
  refine lv_aload_n hx hb dL_law_285 rfl (lv_at hl 1 rfl) ?_
  refine lv_aload_n hx hb dL_law_286 rfl (lv_at hl 0 rfl) ?_
  refine lv_iload_n hx hb dL_law_287 rfl (lv_at hl 3 rfl) ?_
  refine lv_iconst (v := 1) hx hb dL_law_288 (by decide) ?_
  refine lv_iadd hx hb dL_law_289 ?_
  refine va_sld hx hb hXb hbl hbA hS i1 dL_law_290 ?_
  refine lv_aload_n hx hb dL_law_291 rfl (lv_at hl 0 rfl) ?_
  refine lv_iload_n hx hb dL_law_292 rfl (lv_at hl 3 rfl) ?_
  refine lv_iconst (v := 2) hx hb dL_law_293 (by decide) ?_
  refine lv_iadd hx hb dL_law_294 ?_
  refine va_sld hx hb hXb hbl hbA hS i2 dL_law_295 ?_
  refine l_goi (ps := [0, 1, 3, 2]) (I' := IX G hX rX (pt v [3, 2] [o_b', o_p']) j) (x_runV (As := [.int (xs (x3 + 1).toNatClampNeg), .int (xs (x3 + 2).toNatClampNeg)]) (rest := []) (ps := [0, 1, 3, 2]) ⟨hx, hb, hml, hown, htl⟩ (k_X11_removeGreater l D G 100000 (hX 0) (hX 1) (hX 4) (hX 9) (hX 12) (hX 15) (hX 20) (hX 23) (hX 26) (hX 33) (hX 40) (hX 42) (hX 55) (hX 57) (hX 63) (hX 67) (hX 2) (hX 3) (v 0 6) (v 3) (v 2) (xs (x3 + 1).toNatClampNeg) (xs (x3 + 2).toNatClampNeg) (o_r, o_b', o_p') e1) (cwV 2 htl gL_law_X11_removeGreater rfl rfl rfl (by decide +kernel) ⟨Nat.le_of_ble_eq_true rfl, Nat.le_of_ble_eq_true rfl⟩) hE hPX hNX (x_m1 IX_0 (x_m1 IX_1 (x_m1 IX_3 (x_m1 IX_2 rfl)))) (by decide) 0 IX_0 rfl rfl hl.1 (Nat.le_of_ble_eq_true rfl) dL_law_296 ⟨Nat.le_of_ble_eq_true rfl, Nat.le_of_ble_eq_true rfl⟩) hPX hPM hNX hd hAX hS (x_m1 IX_0 (x_m1 IX_1 (x_m1 IX_3 (x_m1 IX_2 rfl)))) (x_m1 IX_0 (x_m1 IX_1 (x_m1 IX_3 (x_m1 IX_2 rfl)))) (IX_c (fun k_ hk_ => pt_ne [3, 2] _ (fun hm_ => hk_ ((by decide : ∀ x ∈ ([3, 2] : List Nat), x ∈ ([0, 1, 3, 2] : List Nat)) k_ hm_))) (fun _ => rfl)) (fun H locs hPX hPM hS => ?_)
  refine lv_aload_n hx hb dL_law_299 rfl (lv_at hl 2 rfl) ?_
  refine lv_aload_n hx hb dL_law_300 rfl (lv_at hl 0 rfl) ?_
  refine lv_iload_n hx hb dL_law_301 rfl (lv_at hl 3 rfl) ?_
  refine lv_iconst (v := 1) hx hb dL_law_302 (by decide) ?_
  refine lv_iadd hx hb dL_law_303 ?_
  refine va_sld hx hb hXb hbl hbA hS i1 dL_law_304 ?_
  refine lv_aload_n hx hb dL_law_305 rfl (lv_at hl 0 rfl) ?_
  refine lv_iload_n hx hb dL_law_306 rfl (lv_at hl 3 rfl) ?_
  refine lv_iconst (v := 2) hx hb dL_law_307 (by decide) ?_
  refine lv_iadd hx hb dL_law_308 ?_
  refine va_sld hx hb hXb hbl hbA hS i2 dL_law_309 ?_
  refine l_goi (ps := [0, 3, 4, 1, 2]) (I' := IM G hM rM w (pt t [4, 2] [o_a', o_m']) q) (x_runV (As := [.int (xs (x3 + 1).toNatClampNeg), .int (xs (x3 + 2).toNatClampNeg)]) (rest := [.int o_r]) (ps := [0, 3, 4, 1, 2]) ⟨hx, hb, hml, hown, htl⟩ (k_X12_removeGreater l D G 100000 (hM 0) (hM 1) (hM 3) (hM 5) (hM 6) (hM 7) (hM 8) (hM 9) (hM 11) (hM 13) (hM 14) (hM 16) (hM 17) (hM 18) (hM 19) (hM 20) (hM 21) (hM 23) (hM 24) (hM 26) (hM 27) (hM 28) (hM 30) (hM 31) (hM 32) (hM 33) (hM 34) (hM 35) (hM 36) (hM 38) (hM 39) (hM 40) (hM 41) (hM 42) (hM 43) (hM 45) (hM 47) (rM 3) (rM 1) (w 0 2) (w 0 3) (w 0 11) (w 0 12) (w 0 16) (w 0 18) (w 0 20) (w 0 24) (w 0 25) (w 0 28) (w 0 29) (w 0 36) (w 0 40) (w 0 41) (w 0 42) (w 0 43) (t 4) (t 2) (xs (x3 + 1).toNatClampNeg) (xs (x3 + 2).toNatClampNeg) (o_r, o_a', o_m') e2) (cwV 2 htl gL_law_X12_removeGreater rfl rfl rfl (by decide +kernel) ⟨Nat.le_of_ble_eq_true rfl, Nat.le_of_ble_eq_true rfl⟩) hE hPM hNM (x_m1 IM_0 (x_m1 IM_3 (x_m1 IM_4 (x_m1 IM_1 (x_m1 IM_2 rfl))))) (by decide) 0 IM_0 rfl rfl hl.1 (Nat.le_of_ble_eq_true rfl) dL_law_310 ⟨Nat.le_of_ble_eq_true rfl, Nat.le_of_ble_eq_true rfl⟩) hPM hPX hNM (fun q h1 h2 => hd q h2 h1) hAM hS (x_m1 IM_0 (x_m1 IM_3 (x_m1 IM_4 (x_m1 IM_1 (x_m1 IM_2 rfl))))) (x_m1 IM_0 (x_m1 IM_3 (x_m1 IM_4 (x_m1 IM_1 (x_m1 IM_2 rfl))))) (IM_c (fun _ _ => rfl) (fun k_ hk_ => pt_ne [4, 2] _ (fun hm_ => hk_ ((by decide : ∀ x ∈ ([4, 2] : List Nat), x ∈ ([0, 3, 4, 1, 2] : List Nat)) k_ hm_))) (fun _ => rfl)) (fun H locs hPM hPX hS => ?_)
  refine lv_icmp_eq (tgt := 1436) hx hb dL_law_313 (by decide) (fun _ => ?_) (fun c_ => absurd rfl c_)
  exact kk (pt v [3, 2] [o_b', o_p']) j w (pt t [4, 2] [o_a', o_m']) q H locs ⟨⟨o_q, h1, h2, h3⟩, hRS, hRR, hRN, hRT, hF, hnb, hRI, hfa, hRA⟩ hPX hPM hS
set_option maxHeartbeats 4000000 in
set_option maxRecDepth 20000 in
theorem lk_isGreater (SS : LwS p s m meth c b L xs D G aX aM) (hR : Rel v j w t q) (hPX : xW D aX (IX G hX rX v j) H) (hPM : xW D aM (IM G hM rM w t q) H) (hS : va_S (fun q : Nat => s.heap.size ≤ q) s.heap H locs) (hl : lv_has ls 4 [(0, .ref b), (1, .ref (hX 0)), (2, .ref (hM 0)), (3, .int x3)]) (hi : LIn x3 L) (kk : LK p l e s m below meth c b D G aX aM hX rX hM rM 1436 ls) : W p l e room_1 s m #[Value.ref b] below meth c H locs 600000 7302249 (lw_Z below #[Value.ref b] s) (F0 m 318 ls []) := by
  obtain ⟨⟨hx, hb, hr, hml, hown, hts, hXb, hbl, hlocks, hgv⟩, hE, hNX, hNM, hd, hAX, hAM⟩ := SS
  have hown : s.vm.findClass RL = some m.cls := hown
  have htl : ∀ w ∈ wsL_law, w.before #[Value.ref b] s = true := fun w h => hts w (wsL_law_in w h)
  have hbA : ¬ (fun q : Nat => s.heap.size ≤ q) b := Nat.not_le.mpr hbl
  obtain ⟨i1, i2, i3, i4⟩ := hi
  obtain ⟨hRO, hRS, hRR, hRN, hRT, hF, hnb, hRI, hfa, hRA⟩ := hR
  obtain ⟨op, hop, hox, hom⟩ := id hRO
  obtain ⟨sn, sm, sS, sT, sL, hsp, hsx, hsm, hw⟩ := id hRS
  obtain ⟨rc, rL, rR, hrp, hrx, hrm⟩ := id hRR
  obtain ⟨lt_, hlt, htx, htm⟩ := id hRT
  obtain ⟨li, hin, hix, him⟩ := id hRI
  obtain ⟨aK, har⟩ := id hRA
  obtain ⟨o_r, e1, e2⟩ := s_isGreater hox hom (xs (x3 + 1).toNatClampNeg) (xs (x3 + 2).toNatClampNeg)
  refine lv_aload_n hx hb dL_law_318 rfl (lv_at hl 1 rfl) ?_
  refine lv_aload_n hx hb dL_law_319 rfl (lv_at hl 0 rfl) ?_
  refine lv_iload_n hx hb dL_law_320 rfl (lv_at hl 3 rfl) ?_
  refine lv_iconst (v := 1) hx hb dL_law_321 (by decide) ?_
  refine lv_iadd hx hb dL_law_322 ?_
  refine va_sld hx hb hXb hbl hbA hS i1 dL_law_323 ?_
  refine lv_aload_n hx hb dL_law_324 rfl (lv_at hl 0 rfl) ?_
  refine lv_iload_n hx hb dL_law_325 rfl (lv_at hl 3 rfl) ?_
  refine lv_iconst (v := 2) hx hb dL_law_326 (by decide) ?_
  refine lv_iadd hx hb dL_law_327 ?_
  refine va_sld hx hb hXb hbl hbA hS i2 dL_law_328 ?_
  refine l_goi (ps := [0, 1, 3]) (I' := IX G hX rX v j) (x_runV (As := [.int (xs (x3 + 1).toNatClampNeg), .int (xs (x3 + 2).toNatClampNeg)]) (rest := []) (ps := [0, 1, 3]) ⟨hx, hb, hml, hown, htl⟩ (k_X11_isGreater l D G 100000 (hX 0) (hX 1) (hX 4) (hX 9) (hX 12) (hX 15) (hX 20) (hX 23) (hX 26) (hX 33) (hX 40) (hX 42) (hX 55) (hX 57) (hX 63) (hX 67) (hX 2) (hX 3) (v 0 6) (v 3) (xs (x3 + 1).toNatClampNeg) (xs (x3 + 2).toNatClampNeg) o_r e1) (cwV 2 htl gL_law_X11_isGreater rfl rfl rfl (by decide +kernel) ⟨Nat.le_of_ble_eq_true rfl, Nat.le_of_ble_eq_true rfl⟩) hE hPX hNX (x_m1 IX_0 (x_m1 IX_1 (x_m1 IX_3 rfl))) (by decide) 0 IX_0 rfl rfl hl.1 (Nat.le_of_ble_eq_true rfl) dL_law_329 ⟨Nat.le_of_ble_eq_true rfl, Nat.le_of_ble_eq_true rfl⟩) hPX hPM hNX hd hAX hS (x_m1 IX_0 (x_m1 IX_1 (x_m1 IX_3 rfl))) (x_m1 IX_0 (x_m1 IX_1 (x_m1 IX_3 rfl))) (IX_c (fun _ _ => rfl) (fun _ => rfl)) (fun H locs hPX hPM hS => ?_)
  refine lv_aload_n hx hb dL_law_332 rfl (lv_at hl 2 rfl) ?_
  refine lv_aload_n hx hb dL_law_333 rfl (lv_at hl 0 rfl) ?_
  refine lv_iload_n hx hb dL_law_334 rfl (lv_at hl 3 rfl) ?_
  refine lv_iconst (v := 1) hx hb dL_law_335 (by decide) ?_
  refine lv_iadd hx hb dL_law_336 ?_
  refine va_sld hx hb hXb hbl hbA hS i1 dL_law_337 ?_
  refine lv_aload_n hx hb dL_law_338 rfl (lv_at hl 0 rfl) ?_
  refine lv_iload_n hx hb dL_law_339 rfl (lv_at hl 3 rfl) ?_
  refine lv_iconst (v := 2) hx hb dL_law_340 (by decide) ?_
  refine lv_iadd hx hb dL_law_341 ?_
  refine va_sld hx hb hXb hbl hbA hS i2 dL_law_342 ?_
  refine l_goi (ps := [0, 3, 4]) (I' := IM G hM rM w t q) (x_runV (As := [.int (xs (x3 + 1).toNatClampNeg), .int (xs (x3 + 2).toNatClampNeg)]) (rest := [.int o_r]) (ps := [0, 3, 4]) ⟨hx, hb, hml, hown, htl⟩ (k_X12_isGreater l D G 100000 (hM 0) (hM 1) (hM 3) (hM 5) (hM 6) (hM 7) (hM 8) (hM 9) (hM 11) (hM 13) (hM 14) (hM 16) (hM 17) (hM 18) (hM 19) (hM 20) (hM 21) (hM 23) (hM 24) (hM 26) (hM 27) (hM 28) (hM 30) (hM 31) (hM 32) (hM 33) (hM 34) (hM 35) (hM 36) (hM 38) (hM 39) (hM 40) (hM 41) (hM 42) (hM 43) (hM 45) (hM 47) (rM 3) (w 0 2) (w 0 3) (w 0 11) (w 0 12) (w 0 16) (w 0 18) (w 0 20) (w 0 24) (w 0 25) (w 0 28) (w 0 29) (w 0 36) (w 0 40) (w 0 41) (w 0 42) (w 0 43) (t 4) (xs (x3 + 1).toNatClampNeg) (xs (x3 + 2).toNatClampNeg) o_r e2) (cwV 2 htl gL_law_X12_isGreater rfl rfl rfl (by decide +kernel) ⟨Nat.le_of_ble_eq_true rfl, Nat.le_of_ble_eq_true rfl⟩) hE hPM hNM (x_m1 IM_0 (x_m1 IM_3 (x_m1 IM_4 rfl))) (by decide) 0 IM_0 rfl rfl hl.1 (Nat.le_of_ble_eq_true rfl) dL_law_343 ⟨Nat.le_of_ble_eq_true rfl, Nat.le_of_ble_eq_true rfl⟩) hPM hPX hNM (fun q h1 h2 => hd q h2 h1) hAM hS (x_m1 IM_0 (x_m1 IM_3 (x_m1 IM_4 rfl))) (x_m1 IM_0 (x_m1 IM_3 (x_m1 IM_4 rfl))) (IM_c (fun _ _ => rfl) (fun _ _ => rfl) (fun _ => rfl)) (fun H locs hPM hPX hS => ?_)
  refine lv_icmp_eq (tgt := 1436) hx hb dL_law_346 (by decide) (fun _ => ?_) (fun c_ => absurd rfl c_)
  exact kk v j w t q H locs ⟨hRO, hRS, hRR, hRN, hRT, hF, hnb, hRI, hfa, hRA⟩ hPX hPM hS
set_option maxHeartbeats 4000000 in
set_option maxRecDepth 20000 in
theorem lk_useNaturalOrder (SS : LwS p s m meth c b L xs D G aX aM) (hR : Rel v j w t q) (hPX : xW D aX (IX G hX rX v j) H) (hPM : xW D aM (IM G hM rM w t q) H) (hS : va_S (fun q : Nat => s.heap.size ≤ q) s.heap H locs) (hl : lv_has ls 4 [(0, .ref b), (1, .ref (hX 0)), (2, .ref (hM 0)), (3, .int x3)]) (hi : LIn x3 L) (kk : LK p l e s m below meth c b D G aX aM hX rX hM rM 1436 ls) : W p l e room_1 s m #[Value.ref b] below meth c H locs 600000 7302249 (lw_Z below #[Value.ref b] s) (F0 m 351 ls []) := by
  obtain ⟨⟨hx, hb, hr, hml, hown, hts, hXb, hbl, hlocks, hgv⟩, hE, hNX, hNM, hd, hAX, hAM⟩ := SS
  have hown : s.vm.findClass RL = some m.cls := hown
  have htl : ∀ w ∈ wsL_law, w.before #[Value.ref b] s = true := fun w h => hts w (wsL_law_in w h)
  have hbA : ¬ (fun q : Nat => s.heap.size ≤ q) b := Nat.not_le.mpr hbl
  obtain ⟨hRO, hRS, hRR, hRN, hRT, hF, hnb, hRI, hfa, hRA⟩ := hR
  obtain ⟨op, hop, hox, hom⟩ := id hRO
  obtain ⟨sn, sm, sS, sT, sL, hsp, hsx, hsm, hw⟩ := id hRS
  obtain ⟨rc, rL, rR, hrp, hrx, hrm⟩ := id hRR
  obtain ⟨lt_, hlt, htx, htm⟩ := id hRT
  obtain ⟨li, hin, hix, him⟩ := id hRI
  obtain ⟨aK, har⟩ := id hRA
  obtain ⟨o_r, o_b', o_p', o_a', o_m', o_q, e1, e2, h1, h2, h3⟩ := s_useNaturalOrder 100000 (by decide) hop hox hom
  refine lv_aload_n hx hb dL_law_351 rfl (lv_at hl 1 rfl) ?_
  refine l_goi (ps := [0, 1, 3, 2]) (I' := IX G hX rX (pt v [3, 2] [o_b', o_p']) j) (x_runV (As := []) (rest := []) (ps := [0, 1, 3, 2]) ⟨hx, hb, hml, hown, htl⟩ (k_X11_useNaturalOrder l D G 100000 (hX 0) (hX 1) (hX 4) (hX 9) (hX 12) (hX 15) (hX 20) (hX 23) (hX 26) (hX 33) (hX 40) (hX 42) (hX 55) (hX 57) (hX 63) (hX 67) (hX 2) (hX 3) (v 0 6) (v 3) (v 2) (o_r, o_b', o_p') e1) (cwV 0 htl gL_law_X11_useNaturalOrder rfl rfl rfl (by decide +kernel) ⟨Nat.le_of_ble_eq_true rfl, Nat.le_of_ble_eq_true rfl⟩) hE hPX hNX (x_m1 IX_0 (x_m1 IX_1 (x_m1 IX_3 (x_m1 IX_2 rfl)))) (by decide) 0 IX_0 rfl rfl hl.1 (Nat.le_of_ble_eq_true rfl) dL_law_352 ⟨Nat.le_of_ble_eq_true rfl, Nat.le_of_ble_eq_true rfl⟩) hPX hPM hNX hd hAX hS (x_m1 IX_0 (x_m1 IX_1 (x_m1 IX_3 (x_m1 IX_2 rfl)))) (x_m1 IX_0 (x_m1 IX_1 (x_m1 IX_3 (x_m1 IX_2 rfl)))) (IX_c (fun k_ hk_ => pt_ne [3, 2] _ (fun hm_ => hk_ ((by decide : ∀ x ∈ ([3, 2] : List Nat), x ∈ ([0, 1, 3, 2] : List Nat)) k_ hm_))) (fun _ => rfl)) (fun H locs hPX hPM hS => ?_)
  refine lv_aload_n hx hb dL_law_355 rfl (lv_at hl 2 rfl) ?_
  refine l_goi (ps := [0, 3, 4, 1, 2]) (I' := IM G hM rM w (pt t [4, 2] [o_a', o_m']) q) (x_runV (As := []) (rest := [.int o_r]) (ps := [0, 3, 4, 1, 2]) ⟨hx, hb, hml, hown, htl⟩ (k_X12_useNaturalOrder l D G 100000 (hM 0) (hM 1) (hM 3) (hM 5) (hM 6) (hM 7) (hM 8) (hM 9) (hM 11) (hM 13) (hM 14) (hM 16) (hM 17) (hM 18) (hM 19) (hM 20) (hM 21) (hM 23) (hM 24) (hM 26) (hM 27) (hM 28) (hM 30) (hM 31) (hM 32) (hM 33) (hM 34) (hM 35) (hM 36) (hM 38) (hM 39) (hM 40) (hM 41) (hM 42) (hM 43) (hM 45) (hM 47) (rM 3) (rM 1) (w 0 2) (w 0 3) (w 0 11) (w 0 12) (w 0 16) (w 0 18) (w 0 20) (w 0 24) (w 0 25) (w 0 28) (w 0 29) (w 0 36) (w 0 40) (w 0 41) (w 0 42) (w 0 43) (t 4) (t 2) (o_r, o_a', o_m') e2) (cwV 0 htl gL_law_X12_useNaturalOrder rfl rfl rfl (by decide +kernel) ⟨Nat.le_of_ble_eq_true rfl, Nat.le_of_ble_eq_true rfl⟩) hE hPM hNM (x_m1 IM_0 (x_m1 IM_3 (x_m1 IM_4 (x_m1 IM_1 (x_m1 IM_2 rfl))))) (by decide) 0 IM_0 rfl rfl hl.1 (Nat.le_of_ble_eq_true rfl) dL_law_356 ⟨Nat.le_of_ble_eq_true rfl, Nat.le_of_ble_eq_true rfl⟩) hPM hPX hNM (fun q h1 h2 => hd q h2 h1) hAM hS (x_m1 IM_0 (x_m1 IM_3 (x_m1 IM_4 (x_m1 IM_1 (x_m1 IM_2 rfl))))) (x_m1 IM_0 (x_m1 IM_3 (x_m1 IM_4 (x_m1 IM_1 (x_m1 IM_2 rfl))))) (IM_c (fun _ _ => rfl) (fun k_ hk_ => pt_ne [4, 2] _ (fun hm_ => hk_ ((by decide : ∀ x ∈ ([4, 2] : List Nat), x ∈ ([0, 3, 4, 1, 2] : List Nat)) k_ hm_))) (fun _ => rfl)) (fun H locs hPM hPX hS => ?_)
  refine lv_icmp_eq (tgt := 1436) hx hb dL_law_359 (by decide) (fun _ => ?_) (fun c_ => absurd rfl c_)
  exact kk (pt v [3, 2] [o_b', o_p']) j w (pt t [4, 2] [o_a', o_m']) q H locs ⟨⟨o_q, h1, h2, h3⟩, hRS, hRR, hRN, hRT, hF, hnb, hRI, hfa, hRA⟩ hPX hPM hS
set_option maxHeartbeats 4000000 in
set_option maxRecDepth 20000 in
theorem lk_addObject (SS : LwS p s m meth c b L xs D G aX aM) (hR : Rel v j w t q) (hPX : xW D aX (IX G hX rX v j) H) (hPM : xW D aM (IM G hM rM w t q) H) (hS : va_S (fun q : Nat => s.heap.size ≤ q) s.heap H locs) (hl : lv_has ls 4 [(0, .ref b), (1, .ref (hX 0)), (2, .ref (hM 0)), (3, .int x3)]) (hi : LIn x3 L) (kk : LK p l e s m below meth c b D G aX aM hX rX hM rM 1436 ls) : W p l e room_1 s m #[Value.ref b] below meth c H locs 600000 7302249 (lw_Z below #[Value.ref b] s) (F0 m 364 ls []) := by
  obtain ⟨⟨hx, hb, hr, hml, hown, hts, hXb, hbl, hlocks, hgv⟩, hE, hNX, hNM, hd, hAX, hAM⟩ := SS
  have hown : s.vm.findClass RL = some m.cls := hown
  have htl : ∀ w ∈ wsL_law, w.before #[Value.ref b] s = true := fun w h => hts w (wsL_law_in w h)
  have hbA : ¬ (fun q : Nat => s.heap.size ≤ q) b := Nat.not_le.mpr hbl
  obtain ⟨hRO, hRS, hRR, hRN, hRT, hF, hnb, hRI, hfa, hRA⟩ := hR
  obtain ⟨op, hop, hox, hom⟩ := id hRO
  obtain ⟨sn, sm, sS, sT, sL, hsp, hsx, hsm, hw⟩ := id hRS
  obtain ⟨rc, rL, rR, hrp, hrx, hrm⟩ := id hRR
  obtain ⟨lt_, hlt, htx, htm⟩ := id hRT
  obtain ⟨li, hin, hix, him⟩ := id hRI
  obtain ⟨aK, har⟩ := id hRA
  obtain ⟨o_r, o_ox', o_om', o_words', o_lens', o_n', e1, e2, h1, h2, h3, h4⟩ := s_addObject hsp hsx hsm hw
  refine lv_aload_n hx hb dL_law_364 rfl (lv_at hl 1 rfl) ?_
  refine l_goi (ps := [0, 4, 5]) (I' := IX G hX rX (pt v [4, 5] [pt (v 4) [0] [o_ox'], o_words']) j) (x_runV (As := []) (rest := []) (ps := [0, 4, 5]) ⟨hx, hb, hml, hown, htl⟩ (k_X11_addObject l D G 100000 (hX 0) (hX 1) (hX 4) (hX 9) (hX 12) (hX 15) (hX 20) (hX 23) (hX 26) (hX 33) (hX 40) (hX 42) (hX 55) (hX 57) (hX 63) (hX 67) (hX 5) (hX 6) (hX 7) (hX 8) (v 0 6) (v 4 0) (v 4 2) (v 5) (o_r, o_ox', o_words') e1) (cwV 0 htl gL_law_X11_addObject rfl rfl rfl (by decide +kernel) ⟨Nat.le_of_ble_eq_true rfl, Nat.le_of_ble_eq_true rfl⟩) hE hPX hNX (x_m1 IX_0 (x_m1 IX_4 (x_m1 IX_5 rfl))) (by decide) 0 IX_0 rfl rfl hl.1 (Nat.le_of_ble_eq_true rfl) dL_law_365 ⟨Nat.le_of_ble_eq_true rfl, Nat.le_of_ble_eq_true rfl⟩) hPX hPM hNX hd hAX hS (x_m1 IX_0 (x_m1 IX_4 (x_m1 IX_5 rfl))) (x_m1 IX_0 (x_m1 IX_4 (x_m1 IX_5 rfl))) (IX_c (fun k_ hk_ => pt_ne [4, 5] _ (fun hm_ => hk_ ((by decide : ∀ x ∈ ([4, 5] : List Nat), x ∈ ([0, 4, 5] : List Nat)) k_ hm_))) (fun _ => rfl)) (fun H locs hPX hPM hS => ?_)
  refine lv_aload_n hx hb dL_law_368 rfl (lv_at hl 2 rfl) ?_
  refine l_goi (ps := [0, 8]) (I' := IM G hM rM (pt w [0, 8] [pt (w 0) [2] [o_om'], o_lens']) t q) (x_runV (As := []) (rest := [.int o_r]) (ps := [0, 8]) ⟨hx, hb, hml, hown, htl⟩ (k_X12_addObject l D G 100000 (hM 0) (hM 1) (hM 3) (hM 5) (hM 6) (hM 7) (hM 8) (hM 9) (hM 11) (hM 13) (hM 14) (hM 16) (hM 17) (hM 18) (hM 19) (hM 20) (hM 21) (hM 23) (hM 24) (hM 26) (hM 27) (hM 28) (hM 30) (hM 31) (hM 32) (hM 33) (hM 34) (hM 35) (hM 36) (hM 38) (hM 39) (hM 40) (hM 41) (hM 42) (hM 43) (hM 45) (hM 47) (w 0 2) (w 0 3) (w 0 11) (w 0 12) (w 0 16) (w 0 18) (w 0 20) (w 0 24) (w 0 25) (w 0 28) (w 0 29) (w 0 36) (w 0 40) (w 0 41) (w 0 42) (w 0 43) (w 8) (o_r, o_lens', o_om') e2) (cwV 0 htl gL_law_X12_addObject rfl rfl rfl (by decide +kernel) ⟨Nat.le_of_ble_eq_true rfl, Nat.le_of_ble_eq_true rfl⟩) hE hPM hNM (x_m1 IM_0 (x_m1 IM_8 rfl)) (by decide) 0 IM_0 rfl rfl hl.1 (Nat.le_of_ble_eq_true rfl) dL_law_369 ⟨Nat.le_of_ble_eq_true rfl, Nat.le_of_ble_eq_true rfl⟩) hPM hPX hNM (fun q h1 h2 => hd q h2 h1) hAM hS (x_m1 IM_0 (x_m1 IM_8 rfl)) (x_m1 IM_0 (x_m1 IM_8 rfl)) (IM_c (fun k_ hk_ => pt_ne [0, 8] _ (fun hm_ => hk_ ((by decide : ∀ x ∈ ([0, 8] : List Nat), x ∈ ([0, 8] : List Nat)) k_ hm_))) (fun _ _ => rfl) (fun _ => rfl)) (fun H locs hPM hPX hS => ?_)
  refine lv_icmp_eq (tgt := 1436) hx hb dL_law_372 (by decide) (fun _ => ?_) (fun c_ => absurd rfl c_)
  exact kk (pt v [4, 5] [pt (v 4) [0] [o_ox'], o_words']) j (pt w [0, 8] [pt (w 0) [2] [o_om'], o_lens']) t q H locs ⟨hRO, ⟨o_n', sm, sS, sT, sL, h1, h2, h3, h4⟩, hRR, hRN, hRT, hF, hnb, hRI, hfa, hRA⟩ hPX hPM hS
set_option maxHeartbeats 4000000 in
set_option maxRecDepth 20000 in
theorem lk_addStep (SS : LwS p s m meth c b L xs D G aX aM) (hR : Rel v j w t q) (hPX : xW D aX (IX G hX rX v j) H) (hPM : xW D aM (IM G hM rM w t q) H) (hS : va_S (fun q : Nat => s.heap.size ≤ q) s.heap H locs) (hl : lv_has ls 4 [(0, .ref b), (1, .ref (hX 0)), (2, .ref (hM 0)), (3, .int x3)]) (hi : LIn x3 L) (kk : LK p l e s m below meth c b D G aX aM hX rX hM rM 1436 ls) : W p l e room_1 s m #[Value.ref b] below meth c H locs 600000 7302249 (lw_Z below #[Value.ref b] s) (F0 m 377 ls []) := by
  obtain ⟨⟨hx, hb, hr, hml, hown, hts, hXb, hbl, hlocks, hgv⟩, hE, hNX, hNM, hd, hAX, hAM⟩ := SS
  have hown : s.vm.findClass RL = some m.cls := hown
  have htl : ∀ w ∈ wsL_law, w.before #[Value.ref b] s = true := fun w h => hts w (wsL_law_in w h)
  have hbA : ¬ (fun q : Nat => s.heap.size ≤ q) b := Nat.not_le.mpr hbl
  obtain ⟨i1, i2, i3, i4⟩ := hi
  obtain ⟨hRO, hRS, hRR, hRN, hRT, hF, hnb, hRI, hfa, hRA⟩ := hR
  obtain ⟨op, hop, hox, hom⟩ := id hRO
  obtain ⟨sn, sm, sS, sT, sL, hsp, hsx, hsm, hw⟩ := id hRS
  obtain ⟨rc, rL, rR, hrp, hrx, hrm⟩ := id hRR
  obtain ⟨lt_, hlt, htx, htm⟩ := id hRT
  obtain ⟨li, hin, hix, him⟩ := id hRI
  obtain ⟨aK, har⟩ := id hRA
  obtain ⟨o_r, o_sx', o_sm', o_lx', o_cx', o_tx', o_lm', o_cm', o_tm', o_m', o_S', o_T', o_L', e1, e2, h1, h2, h3⟩ := s_addStep hsp hsx hsm (xs (x3 + 1).toNatClampNeg) (xs (x3 + 2).toNatClampNeg) (xs (x3 + 3).toNatClampNeg)
  refine lv_aload_n hx hb dL_law_377 rfl (lv_at hl 1 rfl) ?_
  refine lv_aload_n hx hb dL_law_378 rfl (lv_at hl 0 rfl) ?_
  refine lv_iload_n hx hb dL_law_379 rfl (lv_at hl 3 rfl) ?_
  refine lv_iconst (v := 1) hx hb dL_law_380 (by decide) ?_
  refine lv_iadd hx hb dL_law_381 ?_
  refine va_sld hx hb hXb hbl hbA hS i1 dL_law_382 ?_
  refine lv_aload_n hx hb dL_law_383 rfl (lv_at hl 0 rfl) ?_
  refine lv_iload_n hx hb dL_law_384 rfl (lv_at hl 3 rfl) ?_
  refine lv_iconst (v := 2) hx hb dL_law_385 (by decide) ?_
  refine lv_iadd hx hb dL_law_386 ?_
  refine va_sld hx hb hXb hbl hbA hS i2 dL_law_387 ?_
  refine lv_aload_n hx hb dL_law_388 rfl (lv_at hl 0 rfl) ?_
  refine lv_iload_n hx hb dL_law_389 rfl (lv_at hl 3 rfl) ?_
  refine lv_iconst (v := 3) hx hb dL_law_390 (by decide) ?_
  refine lv_iadd hx hb dL_law_391 ?_
  refine va_sld hx hb hXb hbl hbA hS i3 dL_law_392 ?_
  refine l_goi (ps := [0, 4, 8, 6, 7]) (I' := IX G hX rX (pt v [4, 8, 6, 7] [pt (v 4) [2] [o_sx'], o_lx', o_cx', o_tx']) j) (x_runV (As := [.int (xs (x3 + 1).toNatClampNeg), .int (xs (x3 + 2).toNatClampNeg), .int (xs (x3 + 3).toNatClampNeg)]) (rest := []) (ps := [0, 4, 8, 6, 7]) ⟨hx, hb, hml, hown, htl⟩ (k_X11_addStep l D G 100000 (hX 0) (hX 1) (hX 4) (hX 9) (hX 12) (hX 15) (hX 20) (hX 23) (hX 26) (hX 33) (hX 40) (hX 42) (hX 55) (hX 57) (hX 63) (hX 67) (hX 5) (hX 6) (hX 7) (hX 8) (v 0 6) (v 4 0) (v 4 2) (v 8) (v 6) (v 7) (xs (x3 + 1).toNatClampNeg) (xs (x3 + 2).toNatClampNeg) (xs (x3 + 3).toNatClampNeg) (o_r, o_lx', o_cx', o_sx', o_tx') e1) (cwV 3 htl gL_law_X11_addStep rfl rfl rfl (by decide +kernel) ⟨Nat.le_of_ble_eq_true rfl, Nat.le_of_ble_eq_true rfl⟩) hE hPX hNX (x_m1 IX_0 (x_m1 IX_4 (x_m1 IX_8 (x_m1 IX_6 (x_m1 IX_7 rfl))))) (by decide) 0 IX_0 rfl rfl hl.1 (Nat.le_of_ble_eq_true rfl) dL_law_393 ⟨Nat.le_of_ble_eq_true rfl, Nat.le_of_ble_eq_true rfl⟩) hPX hPM hNX hd hAX hS (x_m1 IX_0 (x_m1 IX_4 (x_m1 IX_8 (x_m1 IX_6 (x_m1 IX_7 rfl))))) (x_m1 IX_0 (x_m1 IX_4 (x_m1 IX_8 (x_m1 IX_6 (x_m1 IX_7 rfl))))) (IX_c (fun k_ hk_ => pt_ne [4, 8, 6, 7] _ (fun hm_ => hk_ ((by decide : ∀ x ∈ ([4, 8, 6, 7] : List Nat), x ∈ ([0, 4, 8, 6, 7] : List Nat)) k_ hm_))) (fun _ => rfl)) (fun H locs hPX hPM hS => ?_)
  refine lv_aload_n hx hb dL_law_396 rfl (lv_at hl 2 rfl) ?_
  refine lv_aload_n hx hb dL_law_397 rfl (lv_at hl 0 rfl) ?_
  refine lv_iload_n hx hb dL_law_398 rfl (lv_at hl 3 rfl) ?_
  refine lv_iconst (v := 1) hx hb dL_law_399 (by decide) ?_
  refine lv_iadd hx hb dL_law_400 ?_
  refine va_sld hx hb hXb hbl hbA hS i1 dL_law_401 ?_
  refine lv_aload_n hx hb dL_law_402 rfl (lv_at hl 0 rfl) ?_
  refine lv_iload_n hx hb dL_law_403 rfl (lv_at hl 3 rfl) ?_
  refine lv_iconst (v := 2) hx hb dL_law_404 (by decide) ?_
  refine lv_iadd hx hb dL_law_405 ?_
  refine va_sld hx hb hXb hbl hbA hS i2 dL_law_406 ?_
  refine lv_aload_n hx hb dL_law_407 rfl (lv_at hl 0 rfl) ?_
  refine lv_iload_n hx hb dL_law_408 rfl (lv_at hl 3 rfl) ?_
  refine lv_iconst (v := 3) hx hb dL_law_409 (by decide) ?_
  refine lv_iadd hx hb dL_law_410 ?_
  refine va_sld hx hb hXb hbl hbA hS i3 dL_law_411 ?_
  refine l_goi (ps := [0, 7, 5, 6]) (I' := IM G hM rM (pt w [0, 7, 5, 6] [pt (w 0) [3] [o_sm'], o_lm', o_cm', o_tm']) t q) (x_runV (As := [.int (xs (x3 + 1).toNatClampNeg), .int (xs (x3 + 2).toNatClampNeg), .int (xs (x3 + 3).toNatClampNeg)]) (rest := [.int o_r]) (ps := [0, 7, 5, 6]) ⟨hx, hb, hml, hown, htl⟩ (k_X12_addStep l D G 100000 (hM 0) (hM 1) (hM 3) (hM 5) (hM 6) (hM 7) (hM 8) (hM 9) (hM 11) (hM 13) (hM 14) (hM 16) (hM 17) (hM 18) (hM 19) (hM 20) (hM 21) (hM 23) (hM 24) (hM 26) (hM 27) (hM 28) (hM 30) (hM 31) (hM 32) (hM 33) (hM 34) (hM 35) (hM 36) (hM 38) (hM 39) (hM 40) (hM 41) (hM 42) (hM 43) (hM 45) (hM 47) (w 0 2) (w 0 3) (w 0 11) (w 0 12) (w 0 16) (w 0 18) (w 0 20) (w 0 24) (w 0 25) (w 0 28) (w 0 29) (w 0 36) (w 0 40) (w 0 41) (w 0 42) (w 0 43) (w 7) (w 5) (w 6) (xs (x3 + 1).toNatClampNeg) (xs (x3 + 2).toNatClampNeg) (xs (x3 + 3).toNatClampNeg) (o_r, o_lm', o_cm', o_sm', o_tm') e2) (cwV 3 htl gL_law_X12_addStep rfl rfl rfl (by decide +kernel) ⟨Nat.le_of_ble_eq_true rfl, Nat.le_of_ble_eq_true rfl⟩) hE hPM hNM (x_m1 IM_0 (x_m1 IM_7 (x_m1 IM_5 (x_m1 IM_6 rfl)))) (by decide) 0 IM_0 rfl rfl hl.1 (Nat.le_of_ble_eq_true rfl) dL_law_412 ⟨Nat.le_of_ble_eq_true rfl, Nat.le_of_ble_eq_true rfl⟩) hPM hPX hNM (fun q h1 h2 => hd q h2 h1) hAM hS (x_m1 IM_0 (x_m1 IM_7 (x_m1 IM_5 (x_m1 IM_6 rfl)))) (x_m1 IM_0 (x_m1 IM_7 (x_m1 IM_5 (x_m1 IM_6 rfl)))) (IM_c (fun k_ hk_ => pt_ne [0, 7, 5, 6] _ (fun hm_ => hk_ ((by decide : ∀ x ∈ ([0, 7, 5, 6] : List Nat), x ∈ ([0, 7, 5, 6] : List Nat)) k_ hm_))) (fun _ _ => rfl) (fun _ => rfl)) (fun H locs hPM hPX hS => ?_)
  refine lv_icmp_eq (tgt := 1436) hx hb dL_law_415 (by decide) (fun _ => ?_) (fun c_ => absurd rfl c_)
  exact kk (pt v [4, 8, 6, 7] [pt (v 4) [2] [o_sx'], o_lx', o_cx', o_tx']) j (pt w [0, 7, 5, 6] [pt (w 0) [3] [o_sm'], o_lm', o_cm', o_tm']) t q H locs ⟨hRO, ⟨sn, o_m', o_S', o_T', o_L', h1, h2, h3, hw⟩, hRR, hRN, hRT, hF, hnb, hRI, hfa, hRA⟩ hPX hPM hS
end LCASES
