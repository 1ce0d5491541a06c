set_option maxHeartbeats 4000000 in
set_option maxRecDepth 20000 in
/-- THE LAW, from its entry -/
theorem whole_start {p : Program} {e : Env} {s : State} {m : MethodId} {below : List Frame} {meth : Method} {c : Code} (l : Launch) (hflags : l.flags = flags0) {b L : Nat} {xs : Nat → Int32} (hL : L ≤ 2560) (C0 : lw_At p s m meth c b L xs) : W p l e room_1 s m #[Value.ref b] below meth c s.heap [] 0 0 (lw_Z below #[Value.ref b] s) (entryFrame m ([Value.ref b] : List Value).toArray 4) := by
  obtain ⟨hx, hb, hr, hml, hown, hts, hXb, hbl, hlocks, hgv⟩ := id C0
  have hown : s.vm.findClass RL = some m.cls := hown
  have htl : ∀ w ∈ wsL_law, w.before #[Value.ref b] s = true := fun w h => hts w (wsL_law_in w h)
  obtain ⟨D, G, hE⟩ := law_env hts
  have hA : ∀ q : Nat, s.heap.size ≤ q → (fun q : Nat => s.heap.size ≤ q) q := fun _ h => h
  have hS : va_S (fun q : Nat => s.heap.size ≤ q) s.heap s.heap [] := va_S.rf
  have hP : va_P D vwCl [] s.heap := fun k q h => by simp at h
  have hD : va_D (fun q : Nat => s.heap.size ≤ q) [] := ⟨fun i j p q h => by simp at h, fun k q h => by simp at h⟩
  have hl := lv_entry ([.ref b]) (n := 4) (Nat.le_of_ble_eq_true rfl)
  rw [lg_entry_eq]
  generalize (lg_sl ([.ref b]) ++ List.replicate (4 - (lg_sl ([.ref b])).length) Slot.unset).toArray = ls at hl ⊢
  have hl : lv_has ls 4 [(0, .ref b)] := hl
  refine c_newL (own := RL) (C := RX11) (T := TX11) (N := 16) (ci := 10) (fs0 := [.null, .null, .null, .null, .null, .null, .int 0, .null, .null, .null, .null, .null, .null, .null, .null, .null]) (post := pX11 G) (mc := 69) (ms := 3233) (c2 := 70) (s2 := 3249) hx hb hml hts inX11 tyX11 tyX11_ok hown (hts (.classLink RL 7 RX11) (tb_mem 18 (by decide +kernel))) (hts (.instantiable RX11 16) (tb_mem 19 (by decide +kernel))) (hts (.initialized RX11) (tb_mem 1 (by decide +kernel))) hE hP hD hS hA rfl (fun j hj => by rcases (show j = 0 ∨ j = 1 ∨ j = 2 ∨ j = 3 ∨ j = 4 ∨ j = 5 ∨ j = 6 ∨ j = 7 ∨ j = 8 ∨ j = 9 ∨ j = 10 ∨ j = 11 ∨ j = 12 ∨ j = 13 ∨ j = 14 ∨ j = 15 by omega) with rfl | rfl | rfl | rfl | rfl | rfl | rfl | rfl | rfl | rfl | rfl | rfl | rfl | rfl | rfl | rfl <;> rfl) (fun q sz => k_X11_init l D G q sz) (cwI 0 htl gL_law_X11_init rfl rfl rfl (hts (.initialized RX11) (tb_mem 1 (by decide +kernel))) (hts (.methodLink RL 9 yX11_init) (tb_mem 20 (by decide +kernel))) (hts (.instanceMethod yX11_init) (tb_mem 21 (by decide +kernel))) rfl (by decide +kernel) ⟨Nat.le_of_ble_eq_true rfl, Nat.le_of_ble_eq_true rfl⟩) hl.1 (Nat.le_of_ble_eq_true rfl) (Nat.le_of_ble_eq_true rfl) (Nat.le_of_ble_eq_true rfl) rfl rfl dL_law_0 dL_law_3 dL_law_4 (fun q1 B1 H locs hp1 hP hD hS => ?_)
  refine lv_astore_n (lv' := [(1, .ref q1), (0, .ref b)]) hx hb dL_law_7 rfl hl (by decide) rfl (fun ls hl => ?_)
  refine c_newL (own := RL) (C := RX12) (T := TX12) (N := 52) (ci := 11) (fs0 := [.null, .null, .int 0, .int 0, .null, .null, .null, .null, .null, .null, .null, .int 0, .int 0, .null, .null, .null, .int 0, .null, .int 0, .null, .int 0, .null, .null, .null, .int 0, .int 0, .null, .null, .int 0, .int 0, .null, .null, .null, .null, .null, .null, .int 0, .null, .null, .null, .int 0, .int 0, .int 0, .int 0, .null, .null, .null, .null, .null, .null, .null, .null]) (post := pX12 G) (mc := 161) (ms := 2151) (c2 := 232) (s2 := 5452) hx hb hml hts inX12 tyX12 tyX12_ok hown (hts (.classLink RL 10 RX12) (tb_mem 843 (by decide +kernel))) (hts (.instantiable RX12 52) (tb_mem 844 (by decide +kernel))) (hts (.initialized RX12) (tb_mem 13 (by decide +kernel))) hE hP hD hS hA rfl (fun j hj => by rcases (show j = 0 ∨ j = 1 ∨ j = 2 ∨ j = 3 ∨ j = 4 ∨ j = 5 ∨ j = 6 ∨ j = 7 ∨ j = 8 ∨ j = 9 ∨ j = 10 ∨ j = 11 ∨ j = 12 ∨ j = 13 ∨ j = 14 ∨ j = 15 ∨ j = 16 ∨ j = 17 ∨ j = 18 ∨ j = 19 ∨ j = 20 ∨ j = 21 ∨ j = 22 ∨ j = 23 ∨ j = 24 ∨ j = 25 ∨ j = 26 ∨ j = 27 ∨ j = 28 ∨ j = 29 ∨ j = 30 ∨ j = 31 ∨ j = 32 ∨ j = 33 ∨ j = 34 ∨ j = 35 ∨ j = 36 ∨ j = 37 ∨ j = 38 ∨ j = 39 ∨ j = 40 ∨ j = 41 ∨ j = 42 ∨ j = 43 ∨ j = 44 ∨ j = 45 ∨ j = 46 ∨ j = 47 ∨ j = 48 ∨ j = 49 ∨ j = 50 ∨ j = 51 by omega) with rfl | rfl | rfl | rfl | rfl | rfl | rfl | rfl | rfl | rfl | rfl | rfl | rfl | rfl | rfl | rfl | rfl | rfl | rfl | rfl | rfl | rfl | rfl | rfl | rfl | rfl | rfl | rfl | rfl | rfl | rfl | rfl | rfl | rfl | rfl | rfl | rfl | rfl | rfl | rfl | rfl | rfl | rfl | rfl | rfl | rfl | rfl | rfl | rfl | rfl | rfl | rfl <;> rfl) (fun q sz => k_X12_init l D G q sz) (cwI 0 htl gL_law_X12_init rfl rfl rfl (hts (.initialized RX12) (tb_mem 13 (by decide +kernel))) (hts (.methodLink RL 12 yX12_init) (tb_mem 845 (by decide +kernel))) (hts (.instanceMethod yX12_init) (tb_mem 846 (by decide +kernel))) rfl (by decide +kernel) ⟨Nat.le_of_ble_eq_true rfl, Nat.le_of_ble_eq_true rfl⟩) hl.1 (Nat.le_of_ble_eq_true rfl) (Nat.le_of_ble_eq_true rfl) (Nat.le_of_ble_eq_true rfl) rfl rfl dL_law_8 dL_law_11 dL_law_12 (fun q2 B2 H locs hp2 hP hD hS => ?_)
  refine lv_astore_n (lv' := [(2, .ref q2), (1, .ref q1), (0, .ref b)]) hx hb dL_law_15 rfl hl (by decide) rfl (fun ls hl => ?_)
  refine lv_iconst (v := 0) hx hb dL_law_16 (by decide) ?_
  refine lv_istore_n (lv' := [(3, .int 0), (2, .ref q2), (1, .ref q1), (0, .ref b)]) hx hb dL_law_17 rfl hl (by decide) rfl (fun ls hl => ?_)
  refine W.widen (k := 600000) (n := 7302249) (Nat.le_of_ble_eq_true rfl) (Nat.le_of_ble_eq_true rfl) ?_
  obtain ⟨hX, rX, o1, o2, s1, e1, ho, hs1, hB1⟩ := hp1
  obtain ⟨hM, rM, e2, hB2⟩ := hp2
  subst e1 e2
  rw [List.nil_append, hB1, hB2] at hP hD
  have hN := c_nodup hD
  have hC := c_mem hD
  rw [List.map_append, ← x_flat, ← x_flat] at hN hC
  obtain ⟨n1, n2, n3⟩ := List.pairwise_append.mp hN
  have hPX : xW D (xAA (IX G hX rX (vX0 o1 o2 s1) (fun _ _ => 0))) (IX G hX rX (vX0 o1 o2 s1) (fun _ _ => 0)) H := ⟨x_Pm.mpr (fun q hq => x_Pm.mp hP q (List.mem_append_left _ hq)), rfl⟩
  have hPM : xW D (xAA (IM G hM rM vM0 (fun _ _ _ => 0) (fun _ _ => 0))) (IM G hM rM vM0 (fun _ _ _ => 0) (fun _ _ => 0)) H := ⟨x_Pm.mpr (fun q hq => x_Pm.mp hP q (List.mem_append_right _ hq)), rfl⟩
  exact law_loop hL ⟨C0, hE.1, n1, n2, fun q h1 h2 => n3 q h1 q h2 rfl, fun q h => hC q (List.mem_append_left _ h), fun q h => hC q (List.mem_append_right _ h)⟩ (L + 1) 0 0 (Nat.zero_le L) (by omega) nI_0.symm _ _ _ _ _ H locs (rel_init ho hs1) hPX hPM hS ls (lv_sub hl [3, 2, 1, 0] rfl)
