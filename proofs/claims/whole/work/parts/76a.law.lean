theorem tb_mem {w : Cond} (i : Nat) (h : tables_1[i]? = some w) : w ∈ lw_tbl := List.mem_append_right _ (List.mem_of_getElem? h)
theorem k_arr {s : State} {cA : ClassId} {ty : FieldType} {kA : Class} {comp : ClassId} (h2 : s.vm.classes[cA]? = some kA) (h3 : kA.kind = .array comp ty) : ArrOfT s cA ty := fun n z => ⟨fun q hq => (by cases hq), kA, h2, comp, h3⟩
def xNp : List Nat := [28, 34, 35, 44, 49, 50, 52, 53, 55, 56, 57, 58, 60, 61, 62, 64, 65, 66, 68, 69, 70, 71, 87, 92, 93, 95, 97, 107, 112, 114, 116, 126, 163, 168, 170, 179, 184, 186, 188, 189, 197, 199, 213, 218, 227, 232, 234, 236, 238, 240, 252, 262, 264, 327, 331, 334, 338, 353, 365, 375, 380, 388, 392, 400, 404, 416, 445, 453, 462, 474, 478, 483, 499, 516, 528, 539, 546, 547, 556, 577, 579, 583, 600, 613, 622, 630, 638, 655, 663, 668, 669, 679, 695, 703, 711, 714, 717, 718, 722, 734, 738, 739, 744, 745, 752, 759, 763, 767, 768, 781, 791, 802, 806, 830, 834]
set_option maxRecDepth 20000 in
theorem xNest_eq : xNest = xNp.filterMap (fun i => tables_1[i]?) := by decide +kernel
theorem xNest_in : ∀ w ∈ xNest, w ∈ lw_tbl := fun w h => by
  rw [xNest_eq] at h
  obtain ⟨i, -, hi⟩ := List.mem_filterMap.mp h
  exact tb_mem i hi
set_option maxRecDepth 20000 in
theorem law_env {s : State} {A : Array Value} (hts : ∀ w ∈ lw_tbl, w.before A s = true) : ∃ (D : va_G) (G : Nat → ClassId), cE D G s := by
  obtain ⟨c0, i0, k0⟩ := u_known (C := RX0) (T := TX0) (N := 4) (n := 4) hts inX0 (hts (.instantiable RX0 4) (tb_mem 226 (by decide +kernel)))
  obtain ⟨c1, i1, k1⟩ := u_known (C := RX1) (T := TX1) (N := 2) (n := 2) hts inX1 (hts (.instantiable RX1 2) (tb_mem 212 (by decide +kernel)))
  obtain ⟨c2, i2, k2⟩ := u_known (C := RX2) (T := TX2) (N := 2) (n := 2) hts inX2 (hts (.instantiable RX2 2) (tb_mem 27 (by decide +kernel)))
  obtain ⟨c3, i3, k3⟩ := u_known (C := RX3) (T := TX3) (N := 6) (n := 6) hts inX3 (hts (.instantiable RX3 6) (tb_mem 43 (by decide +kernel)))
  obtain ⟨c4, i4, k4⟩ := u_known (C := RX4) (T := TX4) (N := 5) (n := 5) hts inX4 (hts (.instantiable RX4 5) (tb_mem 178 (by decide +kernel)))
  obtain ⟨c5, i5, k5⟩ := u_known (C := RX5) (T := TX5) (N := 2) (n := 2) hts inX5 (hts (.instantiable RX5 2) (tb_mem 251 (by decide +kernel)))
  obtain ⟨c6, i6, k6⟩ := u_known (C := RX6) (T := TX6) (N := 2) (n := 2) hts inX6 (hts (.instantiable RX6 2) (tb_mem 162 (by decide +kernel)))
  obtain ⟨c7, i7, k7⟩ := u_known (C := RX7) (T := TX7) (N := 3) (n := 3) hts inX7 (hts (.instantiable RX7 3) (tb_mem 106 (by decide +kernel)))
  obtain ⟨c8, i8, k8⟩ := u_known (C := RX8) (T := TX8) (N := 3) (n := 3) hts inX8 (hts (.instantiable RX8 3) (tb_mem 86 (by decide +kernel)))
  obtain ⟨c9, i9, k9⟩ := u_known (C := RX9) (T := TX9) (N := 10) (n := 10) hts inX9 (hts (.instantiable RX9 10) (tb_mem 125 (by decide +kernel)))
  obtain ⟨c10, i10, k10⟩ := u_known (C := RX11) (T := TX11) (N := 16) (n := 16) hts inX11 (hts (.instantiable RX11 16) (tb_mem 19 (by decide +kernel)))
  obtain ⟨c11, i11, k11⟩ := u_known (C := RX12) (T := TX12) (N := 52) (n := 52) hts inX12 (hts (.instantiable RX12 52) (tb_mem 844 (by decide +kernel)))
  obtain ⟨a0, b0, m0, f0, g0, e0⟩ := Cond.arrayClass_spec (type := .int) (hts (.arrayClass .int) (tb_mem 41 (by decide +kernel)))
  obtain ⟨a1, b1, m1, f1, g1, e1⟩ := Cond.arrayClass_spec (type := .long) (hts (.arrayClass .long) (tb_mem 270 (by decide +kernel)))
  obtain ⟨a2, b2, m2, f2, g2, e2⟩ := Cond.arrayClass_spec (type := .boolean) (hts (.arrayClass .boolean) (tb_mem 1011 (by decide +kernel)))
  obtain ⟨a3, b3, m3, f3, g3, e3⟩ := Cond.arrayClass_spec (type := .char) (hts (.arrayClass .char) (tb_mem 176 (by decide +kernel)))
  have h4 := hts (.arrayOver (.array .int)) (tb_mem 852 (by decide +kernel))
  obtain ⟨m4, a4, b4, -, g4, e4, f4⟩ := Cond.arrayOver_specA (t := .int) h4
  have h5 := hts (.arrayOver (.array .long)) (tb_mem 257 (by decide +kernel))
  obtain ⟨m5, a5, b5, -, g5, e5, f5⟩ := Cond.arrayOver_specA (t := .long) h5
  have h6 := hts (.arrayOver (.array .boolean)) (tb_mem 850 (by decide +kernel))
  obtain ⟨m6, a6, b6, -, g6, e6, f6⟩ := Cond.arrayOver_specA (t := .boolean) h6
  refine ⟨(vv c0 [c0, c1, c2, c3, c4, c5, c6, c7, c8, c9, c10, c11], vv i0 [i0, i1, i2, i3, i4, i5, i6, i7, i8, i9, i10, i11]), vv a0 [a0, a1, a2, a3, a4, a5, a6], ⟨⟨⟨fun k q hq => ?_, fun k q hq => ?_⟩, fun w hw => ?_⟩, fun t ht => ?_⟩⟩
  · match k, hq with
    | 0, hq => cases hq; exact k0
    | 1, hq => cases hq; exact k1
    | 2, hq => cases hq; exact k2
    | 3, hq => cases hq; exact k3
    | 4, hq => cases hq; exact k4
    | 5, hq => cases hq; exact k5
    | 6, hq => cases hq; exact k6
    | 7, hq => cases hq; exact k7
    | 8, hq => cases hq; exact k8
    | 9, hq => cases hq; exact k9
    | 10, hq => cases hq; exact k10
    | 11, hq => cases hq; exact k11
    | k + 12, hq => exact absurd (List.getElem?_eq_some_iff.mp hq).1 (by show ¬ (k + 12 < 12); omega)
  · match k, hq with
    | 0, hq => cases hq; exact ⟨k_arr g0 e0, f0⟩
    | 1, hq => cases hq; exact ⟨k_arr g1 e1, f1⟩
    | 2, hq => cases hq; exact ⟨k_arr g2 e2, f2⟩
    | 3, hq => cases hq; exact ⟨k_arr g3 e3, f3⟩
    | 4, hq => cases hq; exact ⟨k_arr g4 e4, f4⟩
    | 5, hq => cases hq; exact ⟨k_arr g5 e5, f5⟩
    | 6, hq => cases hq; exact ⟨k_arr g6 e6, f6⟩
    | k + 7, hq => exact absurd (List.getElem?_eq_some_iff.mp hq).1 (by show ¬ (k + 7 < 7); omega)
  · have h1 := hts w (xNest_in w hw)
    have h2 := xNest_ok w hw
    cases w <;> first | exact va_Nw.of rfl h1 | exact absurd h2 (by simp [xisNest])
  · rcases (by simpa [cTys] using ht : t = .int ∨ t = .long ∨ t = .boolean) with rfl | rfl | rfl
    · exact h4
    · exact h5
    · exact h6
section NEWL
variable {p : Program} {l : Launch} {e : Env} {R : Room} {s : State} {m : MethodId} {args : Array Value} {below : List Frame} {meth : Method} {c : Code} {H : Heap} {locs : List Loc} {cells slots : Nat} {Q : State → Prop}
variable {cc : ByteArray} {pc : Nat} {ls : Array Slot} {rest : List Value} {D : va_G} {G : Nat → ClassId} {A : Nat → Prop} {ws : va_W} {H0 : Heap}
theorem c_newL (hexec : p.tables.exec = Jvm.exec) (hb : c.code = cc) {own C : String} {T : u_T} {N ci index index2 nL : Nat} {Ts : List Cond} (hml : c.maxLocals = nL) (hts : ∀ w ∈ Ts, w.before args s = true) (hin : ∀ w ∈ u_ws C T N, w ∈ Ts) (ty : Nat → FieldType) (hty : ∀ k, k < N → parseFieldDescriptor (T k).2.2.1 = some (ty k)) (hown : s.vm.findClass own = some m.cls) (hcl : (Cond.classLink own index C).before args s = true) (hinst : (Cond.instantiable C N).before args s = true) (hini : (Cond.initialized C).before args s = true)
    (hE : cE D G s) (hP : va_P D vwCl ws H) (hD : va_D A ws) (hS : va_S A H0 H locs) (hA : ∀ q, H0.size ≤ q → A q) (hc : vwCl[ci]? = some (C, T, N)) {fs0 : List Value} (hfs : ∀ j, j < N → defaultValue (ty j) = vp_V fs0 j)
    {y : MethodName} {wsC : List Cond} {rmC : Room} {post : Nat → va_W → Prop} {mc ms c2 s2 : Nat} {bytes : ByteArray} (hM : ∀ q sz, cMet l y wsC rmC D G q sz ci fs0 (post q) mc ms) (cw : CallB R s args own index2 y bytes 1 none wsC rmC mc ms 0 ∧ y.name = "<init>" ∧ (Cond.instanceMethod y).before args s = true)
    (hsz : ls.size = nL) (hW : ((Value.ref 0 :: rest).map fun v => v.category).sum ≤ 8) (hcells : c2 ≤ R.cells) (hslots : s2 ≤ R.slots) (hc2 : cells + 1 + mc = c2) (hs2 : slots + N + ms = s2) (hdg : decode cc pc = .ok (.new index, 3)) (hdg1 : decode cc (pc + 3) = .ok (.dup, 1)) (hdg2 : decode cc (pc + 3 + 1) = .ok (.invokespecial index2, 3))
    (kk : ∀ (q : Nat) (B : va_W) (H1 : Heap) (locs1 : List Loc), post q B → va_P D vwCl (ws ++ B) H1 → va_D A (ws ++ B) → va_S A H0 H1 locs1 →
      W p l e R s m args below meth c H1 locs1 c2 s2 Q (F0 m (pc + 3 + 1 + 3) ls (.ref q :: rest))) : W p l e R s m args below meth c H locs cells slots Q (F0 m pc ls rest) := by
  subst hc2 hs2
  refine va_new (ci := ci) (fs := fs0) (C := C) (T := T) (N := N) hexec hb hts hin ty hty hown hcl hinst hini hE.1.1 hP hD hS hA hc hfs (by omega) (by omega) hdg (fun q H hP hD hS => ?_)
  refine lv_dup hexec hb hdg1 rfl ?_
  have hq : (ws ++ [(q, (.inr (ci, fs0) : va_E))])[ws.length]? = some (q, .inr (ci, fs0)) := by
    rw [List.getElem?_append_right (Nat.le_refl _), Nat.sub_self]
    rfl
  have hPc : va_P D vwCl [(q, .inr (ci, fs0))] H := fun k x hx => by
    have h1 : k < 1 := (List.getElem?_eq_some_iff.mp hx).1
    rw [show k = 0 by omega] at hx
    cases hx
    exact hP _ _ hq
  have hsub : ∀ x, cA q H.size x → A x := fun x hx => by
    rcases hx with rfl | hx
    · exact hD.2 _ _ hq
    · exact hA _ (Nat.le_trans hS.1 hx)
  refine va_callv (va_runI (As := []) (rest := .ref q :: rest) ⟨hexec, hb, hml, hown, hts⟩ (hM q H.size) cw ⟨c_blind, fun U hU hW => ⟨rfl, by rw [hU], by rw [hU]; exact hPc, cE.warm hW hE⟩⟩ rfl rfl hsz rfl (lv_room hW) hdg2 ⟨by omega, by omega⟩) hS (fun x _ h => hsub x h) hsub (fun B t H1 locs1 ht hvm hpost hB hz hk hS1 => ?_)
  obtain ⟨hB1, hB2⟩ := hB
  rw [ht] at hB1
  obtain ⟨hP1, hD1⟩ := c_join hP hD (fun x hx => hA _ (Nat.le_trans hS.1 hx)) hk hB1 hB2
  exact kk q B H1 locs1 hpost hP1 hD1 hS1
end NEWL
