/-! ===== constructors: rows (what stands between the next two marks was printed with the names) ===== -/
def va_AOA (ty : FieldType) (U : State) : Prop := (Cond.arrayOver (.array ty)).before #[] U = true
theorem va_AOA.use {ty : FieldType} {A : Array Value} {U : State} (h : va_AOA ty U) : (Cond.arrayOver (.array ty)).before A U = true := h
theorem va_AOA.moved {t : FieldType} {u U : State} (hvm : u.vm.Alike U.vm) (h : va_AOA t u) : va_AOA t U := by
  have h0 : (Cond.arrayOver (.array t)).holds #[] u none u [] = true := h
  simp only [Cond.holds, Cond.value, beq_iff_eq] at h0
  cases hc : u.vm.findClass (FieldType.array t).toString with
  | none => simp [hc] at h0
  | some comp =>
    simp only [hc, Option.bind_some, Option.bind_eq_some_iff, Option.map_eq_some_iff] at h0
    obtain ⟨c, hi, k, hk, hb⟩ := h0
    cases hkind : k.kind with
    | array component ty =>
      rw [hkind] at hb
      simp at hb
      obtain ⟨k', hk', he⟩ := hvm.2.2 _ _ hk
      have hi2 : (U.vm.classes.findIdx? fun (x : Class) => match x.kind with | .array component _ => component == comp | _ => false) = some c := by
        refine (va_idx_bare U.vm comp).symm.trans ?_
        have hbe : U.vm.bare = u.vm.bare := by first | exact hvm.bare_eq | exact hvm.bare_eq.symm
        rw [hbe]
        exact (va_idx_bare u.vm comp).trans hi
      have hkind2 : k'.kind = .array component (.array t) := by rw [he, ← hb.1]; exact hkind
      have f1 : U.vm.findClass (FieldType.array t).toString = some comp := by rw [hvm.findClass]; exact hc
      have f2 : U.vm.findClass ("[" ++ (FieldType.array t).toString) = some c := by rw [hvm.findClass]; exact hb.2
      unfold va_AOA Cond.before Cond.holds
      simp only [Cond.value]
      rw [f1, Option.bind_some]
      refine (congrArg (fun o : Option Nat => (o.bind (fun c => (U.vm.classes[c]?).map fun (k : Class) => match k.kind with | .array _ ty => decide (ty = FieldType.array t) && decide (U.vm.findClass ("[" ++ (FieldType.array t).toString) = some c) | _ => false) == some true)) hi2).trans ?_
      simp [hk', hkind2, f2]
    | _ => rw [hkind] at hb; simp at hb
def cTys : List FieldType := [.int, .long, .boolean]
def cE (D : va_G) (G : Nat → ClassId) (U : State) : Prop := xE D G U ∧ ∀ t ∈ cTys, va_AOA t U
theorem cE.warm {D : va_G} {G : Nat → ClassId} {s U : State} (hW : s.WarmedH U.vm) (h : cE D G s) : cE D G U := ⟨xE.warm hW h.1, fun t ht => va_AOA.moved hW.alike (h.2 t ht)⟩
theorem cE.calling {D : va_G} {G : Nat → ClassId} {U : State} (g : JFrame) (mk : MethodId) (a : Array Value) (h : cE D G U) : cE D G (U.calling g mk a) := ⟨xE.calling g mk a h.1, fun t ht => va_AOA.moved (u := U) (U := U.calling g mk a) (Vm.Alike.refl U.vm) (h.2 t ht)⟩
/-! ===== END ===== -/

/-! ===== BEGIN new T[n][m]: the outer array a place, the inner ones among the pooled ===== -/
/-- f, but v at every address of l -/
def vr_up {α : Type} (f : Nat → α) (l : List Nat) (v : α) : Nat → α := fun a => if a ∈ l then v else f a
theorem vr_up_in {α : Type} {f : Nat → α} {l : List Nat} {v : α} {a : Nat} (h : a ∈ l) : vr_up f l v a = v := if_pos h
theorem vr_up_ne {α : Type} {f : Nat → α} {l : List Nat} {v : α} {a : Nat} (h : a ∉ l) : vr_up f l v a = f a := if_neg h
theorem vr_rows {L l : List Nat} {f : Nat → va_E} {e : va_E} (h : ∀ a, a ∈ l → a ∉ L) : va_pl L f ++ l.map (fun a => (a, e)) = va_pl (L ++ l) (vr_up f l e) := by
  unfold va_pl
  rw [List.map_append]
  congr 1
  · apply List.map_congr_left
    intro a ha
    rw [vr_up_ne (fun q => h a q ha)]
  · apply List.map_congr_left
    intro a ha
    rw [vr_up_in ha]
theorem vr_lay {X rows : va_W} {x : Nat × va_E} {pl : va_W} {D : va_G} {cl : List vw_C} {H : Heap} (hP : va_P D cl (((X ++ pl) ++ [x]) ++ rows) H) : va_P D cl ((X ++ [x]) ++ (pl ++ rows)) H := by
  rw [List.append_assoc (X ++ pl)] at hP
  have h := va_P.swap hP
  rw [← List.append_assoc X] at h
  have h2 := va_P.swap h
  rw [List.append_assoc (X ++ [x])] at h2
  exact h2
theorem vr_layD {X rows : va_W} {x : Nat × va_E} {pl : va_W} {A : Nat → Prop} (hD : va_D A (((X ++ pl) ++ [x]) ++ rows)) : va_D A ((X ++ [x]) ++ (pl ++ rows)) := by
  rw [List.append_assoc (X ++ pl)] at hD
  have h := va_D.swap hD
  rw [← List.append_assoc X] at h
  have h2 := va_D.swap h
  rw [List.append_assoc (X ++ [x])] at h2
  exact h2
theorem vr_outer (c : ClassId) (N h0 : Nat) : ∀ i : Nat, Jvm.Free.Multi.outerC c N h0 i = arrV c N (fun j => va_rf (if j < i then some (h0 + 1 + j) else none))
  | 0 => by
    show ({ cls := c, slots := Array.replicate N .null, vm := .none } : Cell) = _
    rw [arrV_new]
    refine congrArg (arrV c N) (funext fun j => ?_)
    simp [va_rf]
  | i + 1 => by
    show (Jvm.Free.Multi.outerC c N h0 i).setSlot i (.ref (h0 + 1 + i)) = _
    rw [vr_outer c N h0 i, arrV_store]
    refine congrArg (arrV c N) (funext fun j => ?_)
    by_cases e : j = i
    · subst e
      simp [updV, va_rf]
    · by_cases h : j < i
      · simp [updV, e, h, Nat.lt_succ_of_lt h]
      · simp [updV, e, h, show ¬ j < i + 1 by omega]
section VGM
variable {p : Program} {l : Launch} {e : Env} {R : Room} {s : State} {m : MethodId} {args : Array Value} {below : List Frame} {meth : Method} {c : Code} {H : Heap} {locs : List Loc} {cells slots : Nat} {Q : State → Prop}
variable {cc : ByteArray} {pc : Nat} {ls : Array Slot} {rest : List Value} {D : va_G} {cl : List vw_C} {A : Nat → Prop} {a : Nat} {tys : List (ClassId × FieldType)} {ws : va_W} {H0 : Heap}
theorem va_mna {X : va_W} {L : List Nat} {f : Nat → va_E} {cc : ByteArray} (hexec : p.tables.exec = Jvm.exec) (hb : c.code = cc) {own : String} {index : Nat} {ty : FieldType} {cy : ClassId} (hown : s.vm.findClass own = some m.cls) (hclink : (Cond.classLink own index ("[" ++ (FieldType.array ty).toString)).before args s = true) (hover : va_AOA ty s) (harr : (Cond.arrayClass ty).before args s = true) (hcy : s.vm.findClass (FieldType.array ty).toString = some cy)
    (hK : va_K D cl tys s) (hP : va_P D cl (X ++ va_pl L f) H) (hD : va_D A (X ++ va_pl L f)) (hS : va_S A H0 H locs) (hA : ∀ q, H0.size ≤ q → A q) {n k : Int32} {N' K' : Nat} {z : vp_A} (hn : ¬ n < 0) (hk : ¬ k < 0) (hN : n.toNatClampNeg = N') (hM : k.toNatClampNeg = K')
    (hb1 : N' * 4 ≤ 536870912) (hb2 : K' * componentBytes ty ≤ 536870912) (hb3 : K' ≤ 536870912) (hdf : fits ty (defaultValue ty) = true) (hdd : (defaultValue ty).isDefault = true) (hcells : cells + (1 + N') ≤ R.cells) (hslots : slots + (N' + N' * K') ≤ R.slots) (hz : ∀ c : ClassId, Jvm.Free.Multi.innerC c K' (defaultValue ty) = vp_cell c z) (hdg : decode cc pc = .ok (.multianewarray index 2, 4))
    (kk : ∀ (q : Nat) (r : Nat → Nat) (cA : ClassId) (H1 : Heap), (∀ i j : Nat, i < N' → j < N' → r i = r j → i = j) → (∀ i : Nat, i < N' → r i ∉ L) → va_K D cl (tys ++ [(cA, .array ty)]) s →
      va_P D cl ((X ++ [(q, .inl (cA, N', .inr (.inr (.inr (.inr (fun i => if i < N' then some (r i) else none))))))]) ++ va_pl (L ++ (List.range N').map r) (vr_up f ((List.range N').map r) (.inl (cy, z)))) H1 → va_D A ((X ++ [(q, .inl (cA, N', .inr (.inr (.inr (.inr (fun i => if i < N' then some (r i) else none))))))]) ++ va_pl (L ++ (List.range N').map r) (vr_up f ((List.range N').map r) (.inl (cy, z)))) → va_S A H0 H1 locs →
      W p l e R s m args below meth c H1 locs (cells + 1 + N') (slots + N' + N' * K') Q (F0 m (pc + 4) ls (.ref q :: rest))) : W p l e R s m args below meth c H locs cells slots Q (F0 m pc ls (.int k :: .int n :: rest)) := by
  subst hN
  subst hM
  intro T hT Xs
  obtain ⟨vm₁, cA, comp, -, fA, fC, hO, -, X', step⟩ := Xs.multianewarray2F hexec hown hclink (va_AOA.use hover) harr (g := F0 m pc ls (.int k :: .int n :: rest)) rfl (by rw [hb]; exact hdg) rfl hn hk hb1 hb2 hb3 hdf hdd hcells hslots
  have ec : some cy = some comp := hcy.symm.trans fC
  cases ec
  generalize hF : Jvm.Free.Multi.fill (T.setVm vm₁) cA cy n.toNatClampNeg k.toNatClampNeg (defaultValue ty) n.toNatClampNeg = F at X' step
  have hTh : (T.setVm vm₁).heap = H := hT
  obtain ⟨f1, f2, -, -⟩ := Jvm.Free.Multi.fill_facts (T.setVm vm₁) cA cy n.toNatClampNeg k.toNatClampNeg (defaultValue ty) n.toNatClampNeg
  rw [hF, hTh] at f1 f2
  have hold : ∀ x : Nat, x < H.size → F.heap[x]? = H[x]? := fun x hx => by
    have := Jvm.Free.Multi.fill_old (T.setVm vm₁) cA cy n.toNatClampNeg k.toNatClampNeg (defaultValue ty) (a := x) (by rw [hTh]; exact hx) n.toNatClampNeg
    rw [hF, hTh] at this
    exact this
  have hrow : ∀ j : Nat, j < n.toNatClampNeg → F.heap[H.size + 1 + j]? = some (vp_cell cy z) := fun j hj => by
    have := Jvm.Free.Multi.fill_inner (T.setVm vm₁) cA cy n.toNatClampNeg k.toNatClampNeg (defaultValue ty) n.toNatClampNeg j hj
    rw [hF, hTh, hz] at this
    exact this
  have hout : Jvm.Free.Multi.outerC cA n.toNatClampNeg H.size n.toNatClampNeg = vp_cell cA (n.toNatClampNeg, .inr (.inr (.inr (.inr (fun i => if i < n.toNatClampNeg then some (H.size + 1 + i) else none))))) := by
    rw [vp_cell_q]
    exact vr_outer cA n.toNatClampNeg H.size n.toNatClampNeg
  rw [hout] at f2
  have hlt : ∀ a, a ∈ L → a < H.size := fun a ha => by
    obtain ⟨k9, hk9⟩ := va_pl_get (X := X) (f := f) ha
    exact (hP k9 _ hk9).lt
  have hnl : ∀ i : Nat, i < n.toNatClampNeg → H.size + 1 + i ∉ L := fun i _ h => by
    have := hlt _ h
    omega
  have hnm : ∀ a, a ∈ (List.range n.toNatClampNeg).map (fun i => H.size + 1 + i) → a ∉ L := fun a ha h => by
    obtain ⟨i, -, rfl⟩ := List.mem_map.mp ha
    have := hlt _ h
    omega
  have hP0 : va_P D cl (X ++ va_pl L f) F.heap := hP.kept (fun k9 x hx => hold x.1 ((hP k9 x hx).lt))
  have hP1 : va_P D cl ((X ++ va_pl L f) ++ [(H.size, .inl (cA, n.toNatClampNeg, .inr (.inr (.inr (.inr (fun i => if i < n.toNatClampNeg then some (H.size + 1 + i) else none))))))]) F.heap := hP0.app (fun k9 x hx => by
    have h0 : k9 < 1 := (List.getElem?_eq_some_iff.mp hx).1
    rw [show k9 = 0 by omega] at hx
    cases hx
    exact f2)
  have hP2 : va_P D cl (((X ++ va_pl L f) ++ [(H.size, .inl (cA, n.toNatClampNeg, .inr (.inr (.inr (.inr (fun i => if i < n.toNatClampNeg then some (H.size + 1 + i) else none))))))]) ++ ((List.range n.toNatClampNeg).map (fun i => H.size + 1 + i)).map (fun a => (a, .inl (cy, z)))) F.heap := hP1.app (fun k9 x hx => by
    obtain ⟨a, ha, rfl⟩ := List.mem_map.mp (List.mem_of_getElem? hx)
    obtain ⟨i, hi, rfl⟩ := List.mem_map.mp ha
    exact hrow i (List.mem_range.mp hi))
  have hD2 : va_D A (((X ++ va_pl L f) ++ [(H.size, .inl (cA, n.toNatClampNeg, .inr (.inr (.inr (.inr (fun i => if i < n.toNatClampNeg then some (H.size + 1 + i) else none))))))]) ++ ((List.range n.toNatClampNeg).map (fun i => H.size + 1 + i)).map (fun a => (a, .inl (cy, z)))) := by
    have hD1 := hD.push (e := .inl (cA, n.toNatClampNeg, .inr (.inr (.inr (.inr (fun i => if i < n.toNatClampNeg then some (H.size + 1 + i) else none)))))) hP rfl (hA _ hS.1)
    generalize hW1 : (X ++ va_pl L f) ++ [(H.size, .inl (cA, n.toNatClampNeg, .inr (.inr (.inr (.inr (fun i => if i < n.toNatClampNeg then some (H.size + 1 + i) else none))))))] = W1 at hD1 hP1 ⊢
    have hle : ∀ (k9 : Nat) (x : Nat × va_E), W1[k9]? = some x → x.1 ≤ H.size := fun k9 x hx => by
      rw [← hW1] at hx
      by_cases hl : k9 < (X ++ va_pl L f).length
      · rw [List.getElem?_append_left hl] at hx
        exact Nat.le_of_lt ((hP k9 x hx).lt)
      · rw [List.getElem?_append_right (by omega)] at hx
        have h0 : k9 - (X ++ va_pl L f).length < 1 := (List.getElem?_eq_some_iff.mp hx).1
        rw [show k9 - (X ++ va_pl L f).length = 0 by omega] at hx
        cases hx
        exact Nat.le_refl _
    have hr : ∀ (k9 : Nat) (x : Nat × va_E), (((List.range n.toNatClampNeg).map (fun i => H.size + 1 + i)).map (fun a => ((a, .inl (cy, z)) : Nat × va_E)))[k9]? = some x → x.1 = H.size + 1 + k9 := fun k9 x hx => by
      rw [List.getElem?_map, List.getElem?_map] at hx
      by_cases h9 : k9 < n.toNatClampNeg
      · rw [List.getElem?_range h9] at hx
        cases hx
        rfl
      · have hn0 : (List.range n.toNatClampNeg)[k9]? = none := List.getElem?_eq_none (by rw [List.length_range]; omega)
        rw [hn0] at hx
        cases hx
    refine ⟨fun i j x y hi hj hxy => ?_, fun k9 x hx => ?_⟩
    · by_cases h1 : i < W1.length <;> by_cases h2 : j < W1.length
      · rw [List.getElem?_append_left h1] at hi
        rw [List.getElem?_append_left h2] at hj
        exact hD1.1 i j x y hi hj hxy
      · rw [List.getElem?_append_left h1] at hi
        rw [List.getElem?_append_right (by omega)] at hj
        have := hle _ _ hi
        have := hr _ _ hj
        omega
      · rw [List.getElem?_append_right (by omega)] at hi
        rw [List.getElem?_append_left h2] at hj
        have := hle _ _ hj
        have := hr _ _ hi
        omega
      · rw [List.getElem?_append_right (by omega)] at hi hj
        have := hr _ _ hi
        have := hr _ _ hj
        omega
    · by_cases h1 : k9 < W1.length
      · rw [List.getElem?_append_left h1] at hx
        exact hD1.2 k9 x hx
      · rw [List.getElem?_append_right (by omega)] at hx
        have := hr _ _ hx
        exact hA _ (by have := hS.1; omega)
  have hAr : ArrOfT s cA (.array ty) := fun N9 z9 => by
    obtain ⟨-, k9, hk9, cm9, hkk9⟩ := (hO 0 0 0).1
    exact ⟨(fun q hq => by cases hq), k9, hk9, cm9, hkk9⟩
  have hK2 : va_K D cl (tys ++ [(cA, .array ty)]) s := ⟨hK.1, fun k9 x hx => by
    by_cases hl : k9 < tys.length
    · rw [List.getElem?_append_left hl] at hx
      exact hK.2 k9 x hx
    · rw [List.getElem?_append_right (by omega)] at hx
      have h0 : k9 - tys.length < 1 := (List.getElem?_eq_some_iff.mp hx).1
      rw [show k9 - tys.length = 0 by omega] at hx
      cases hx
      exact ⟨hAr, fA⟩⟩
  obtain ⟨t, a1, b1⟩ := kk H.size (fun i => H.size + 1 + i) cA F.heap (fun i j _ _ h => by have h9 : H.size + 1 + i = H.size + 1 + j := h; omega) hnl hK2 (by rw [← vr_rows hnm]; exact vr_lay hP2) (by rw [← vr_rows hnm]; exact vr_layD hD2) ⟨by rw [f1]; have := hS.1; omega, fun x h1 h2 => (hold x (Nat.lt_of_lt_of_le h1 hS.1)).trans (hS.2.1 x h1 h2), hS.2.2⟩ F rfl X'
  refine ⟨t, step t ?_, b1⟩
  have e : T.heap.size = H.size := by rw [hT]
  rw [e]
  exact a1
end VGM
/-! ===== rows of constructors ===== -/
def cA (h0 sz : Nat) : Nat → Prop := fun q => q = h0 ∨ sz ≤ q
def cPc (D : va_G) (G : Nat → ClassId) (h0 sz ci : Nat) (fs0 : List Value) : Array Value → State → Prop := va_Pc [.ref h0] (fun U => U.heap.size = sz ∧ va_P D vwCl [(h0, .inr (ci, fs0))] U.heap ∧ cE D G U)
def cQ (D : va_G) (h0 sz : Nat) (post : va_W → Prop) : Array Value → State → Outcome → State → Prop := va_Qv post (fun B t => va_P D vwCl B t.heap ∧ va_D (cA h0 sz) B) (cA h0 sz)
def cMet (l : Launch) (y : MethodName) (ws : List Cond) (rm : Room) (D : va_G) (G : Nat → ClassId) (h0 sz ci : Nat) (fs0 : List Value) (post : va_W → Prop) (mc ms : Nat) : Prop := Met l y ws rm (cPc D G h0 sz ci fs0) (cQ D h0 sz post) mc ms (cA h0 sz)
theorem c_blind {D : va_G} {G : Nat → ClassId} {h0 sz ci : Nat} {fs0 : List Value} : FrameBlind (cPc D G h0 sz ci fs0) := fun a U g mk q => by
  obtain ⟨q0, q1, qP, qE⟩ := q
  exact ⟨q0, q1, qP, cE.calling g mk a qE⟩
theorem c_ent {l : Launch} {y : MethodName} {ws ws' : List Cond} {rm : Room} {D : va_G} {G : Nat → ClassId} {h0 sz ci : Nat} {fs0 : List Value} {post : va_W → Prop} {mc ms : Nat} {cc : ByteArray} (hy : plainName y.cls = true) (hyn : y.name = "<init>") (hw : ws = Cond.code y cc 1 none :: ws')
    (body : ∀ (p : Program) (e : Env) (s : State) (m : MethodId) (below : List Frame) (meth : Method) (c : Code) (A : Nat → Prop) (ls : Array Slot) (args : Array Value) (Q : State → Prop) (H : Heap) (locs : List Loc), s.heap.size = sz → A = cA h0 sz → MQ below (cQ D h0 sz post) args s mc ms (cA h0 sz) = Q → p.tables.exec = Jvm.exec → c.code = cc → meth.sig.returnType = none → c.maxLocals = 1 → s.vm.findClass y.cls = some m.cls → (∀ w ∈ ws, w.before args s = true) → meth.locks = false → meth.name = "<init>" → cE D G s → lv_has ls 1 [(0, .ref h0)] → (∀ q, s.heap.size ≤ q → A q) → va_P D vwCl [(h0, .inr (ci, fs0))] H → va_D A [(h0, .inr (ci, fs0))] → va_S A s.heap H locs → W p l e rm s m args below meth c H locs 0 0 Q (F0 m 0 ls [])) : cMet l y ws rm D G h0 sz ci fs0 post mc ms := by
  refine Met.ofW (cc := cc) (maxL := 1) (ret := none) hy hw ?_
  intro p e s m args below meth c s₁ B hml hv
  obtain ⟨rfl, hsz, hP, hE⟩ := hv
  have hl := lv_entry [.ref h0] (n := 1) (Nat.le_of_ble_eq_true rfl)
  rw [lg_entry_eq]
  refine body p e s m below meth c (cA h0 sz) _ _ _ s.heap [] hsz rfl rfl B.exec B.bytes B.returns hml (findClass_of_methodNamed B.named) (atoms_spec (ws := ws) B.pre) B.notSynchronized ?_ hE hl (fun q hq => Or.inr (by rw [← hsz]; exact hq)) hP ⟨fun i j p q hi hj _ => ?_, fun k q hk => ?_⟩ va_S.rf
  · rw [← hyn]
    exact (name_of_methodNamed B.named B.method).1
  · have h1 : i < 1 := (List.getElem?_eq_some_iff.mp hi).1
    have h2 : j < 1 := (List.getElem?_eq_some_iff.mp hj).1
    omega
  · have h1 : k < 1 := (List.getElem?_eq_some_iff.mp hk).1
    rw [show k = 0 by omega] at hk
    cases hk
    exact Or.inl rfl
theorem c_join {D : va_G} {cl : List vw_C} {ws B : va_W} {q : Nat} {e : va_E} {H H1 : Heap} {A : Nat → Prop} (hP : va_P D cl (ws ++ [(q, e)]) H) (hD : va_D A (ws ++ [(q, e)])) (hA : ∀ x, H.size ≤ x → A x) (hk : ∀ x : Nat, x < H.size → ¬ cA q H.size x → H1[x]? = H[x]?) (hB : va_P D cl B H1) (hBD : va_D (cA q H.size) B) : va_P D cl (ws ++ B) H1 ∧ va_D A (ws ++ B) := by
  have hq : (ws ++ [(q, e)])[ws.length]? = some (q, e) := by
    rw [List.getElem?_append_right (Nat.le_refl _), Nat.sub_self]
    rfl
  have hw : ∀ (k : Nat) (x : Nat × va_E), ws[k]? = some x → (ws ++ [(q, e)])[k]? = some x ∧ k < ws.length := fun k x hx => by
    have hl := (List.getElem?_eq_some_iff.mp hx).1
    exact ⟨by rw [List.getElem?_append_left hl]; exact hx, hl⟩
  have hlt : ∀ (k : Nat) (x : Nat × va_E), ws[k]? = some x → x.1 < H.size ∧ x.1 ≠ q := fun k x hx => by
    obtain ⟨h1, h2⟩ := hw k x hx
    refine ⟨(hP k x h1).lt, fun he => ?_⟩
    have := hD.1 k ws.length x (q, e) h1 hq he
    omega
  have hP1 : va_P D cl ws H := fun k x hx => hP k x (hw k x hx).1
  have hAq : A q := hD.2 _ _ hq
  refine ⟨(hP1.kept (fun k x hx => hk x.1 (hlt k x hx).1 (fun hc => ?_))).app hB, fun i j x y hi hj hxy => ?_, fun k x hx => ?_⟩
  · rcases hc with hc | hc
    · exact (hlt k x hx).2 hc
    · have := (hlt k x hx).1
      omega
  · by_cases h1 : i < ws.length <;> by_cases h2 : j < ws.length
    · rw [List.getElem?_append_left h1] at hi
      rw [List.getElem?_append_left h2] at hj
      exact hD.1 i j x y (hw i x hi).1 (hw j y hj).1 hxy
    · rw [List.getElem?_append_left h1] at hi
      rw [List.getElem?_append_right (by omega)] at hj
      have a1 := hlt i x hi
      rcases hBD.2 _ _ hj with a2 | a2
      · exact absurd (hxy.trans a2) a1.2
      · rw [← hxy] at a2
        omega
    · rw [List.getElem?_append_right (by omega)] at hi
      rw [List.getElem?_append_left h2] at hj
      have a1 := hlt j y hj
      rcases hBD.2 _ _ hi with a2 | a2
      · exact absurd (hxy.symm.trans a2) a1.2
      · rw [hxy] at a2
        omega
    · rw [List.getElem?_append_right (by omega)] at hi hj
      have := hBD.1 _ _ x y hi hj hxy
      omega
  · by_cases h1 : k < ws.length
    · rw [List.getElem?_append_left h1] at hx
      exact hD.2 k x (hw k x hx).1
    · rw [List.getElem?_append_right (by omega)] at hx
      rcases hBD.2 _ _ hx with a2 | a2
      · rw [a2]; exact hAq
      · exact hA _ a2
section CROWS
variable {p : Program} {l : Launch} {e : Env} {R : Room} {s : State} {m : MethodId} {args : Array Value} {below : List Frame} {meth : Method} {c : Code} {H : Heap} {locs : List Loc} {cells slots : Nat} {Q : State → Prop}
variable {cc : ByteArray} {pc : Nat} {ls : Array Slot} {rest : List Value} {D : va_G} {G : Nat → ClassId} {A : Nat → Prop} {ws : va_W} {H0 : Heap}
theorem c_newa (hexec : p.tables.exec = Jvm.exec) (hb : c.code = cc) (harr : (Cond.arrayClass .int).before args s = true) (hE : cE D G s) (hP : va_P D vwCl ws H) (hD : va_D A ws) (hS : va_S A H0 H locs) (hA : ∀ q, H0.size ≤ q → A q)
    {n : Int32} {N' c2 s2 : Nat} (hn : ¬ n < 0) (hN : n.toNatClampNeg = N') (hbytes : N' * componentBytes .int ≤ 536870912) (hcells : c2 ≤ R.cells) (hslots : s2 ≤ R.slots) (hc2 : cells + 1 = c2) (hs2 : slots + N' = s2) (hdg : decode cc pc = .ok (.newarray .int, 2))
    (kk : ∀ (q : Nat) (H1 : Heap), va_P D vwCl (ws ++ [(q, .inl (G 0, N', .inl (fun _ => 0)))]) H1 → va_D A (ws ++ [(q, .inl (G 0, N', .inl (fun _ => 0)))]) → va_S A H0 H1 locs →
      W p l e R s m args below meth c H1 locs c2 s2 Q (F0 m (pc + 2) ls (.ref q :: rest))) : W p l e R s m args below meth c H locs cells slots Q (F0 m pc ls (.int n :: rest)) := by
  subst hc2 hs2
  refine va_newa (atype := .int) (a0 := (N', .inl (fun _ => 0))) hexec hb harr rfl hE.1.1 hP hD hS hA (fun cA => rfl) hn hN hbytes hcells hslots hdg (fun q cA H1 hK hP hD hS => ?_)
  have h1 : va_RA s cA .int := (hK.2 7 (cA, .int) rfl).2
  have h2 : va_RA s (G 0) .int := (hE.1.1.2 0 (G 0, .int) rfl).2
  have h3 : cA = G 0 := Option.some.inj (h1.symm.trans h2)
  subst h3
  exact kk q H1 hP hD hS
theorem c_newc (hexec : p.tables.exec = Jvm.exec) (hb : c.code = cc) (harr : (Cond.arrayClass .char).before args s = true) (hE : cE D G s) (hP : va_P D vwCl ws H) (hD : va_D A ws) (hS : va_S A H0 H locs) (hA : ∀ q, H0.size ≤ q → A q)
    {n : Int32} {N' c2 s2 : Nat} (hn : ¬ n < 0) (hN : n.toNatClampNeg = N') (hbytes : N' * componentBytes .char ≤ 536870912) (hcells : c2 ≤ R.cells) (hslots : s2 ≤ R.slots) (hc2 : cells + 1 = c2) (hs2 : slots + N' = s2) (hdg : decode cc pc = .ok (.newarray .char, 2))
    (kk : ∀ (q : Nat) (H1 : Heap), va_P D vwCl (ws ++ [(q, .inl (G 3, N', .inl (fun _ => 0)))]) H1 → va_D A (ws ++ [(q, .inl (G 3, N', .inl (fun _ => 0)))]) → va_S A H0 H1 locs →
      W p l e R s m args below meth c H1 locs c2 s2 Q (F0 m (pc + 2) ls (.ref q :: rest))) : W p l e R s m args below meth c H locs cells slots Q (F0 m pc ls (.int n :: rest)) := by
  subst hc2 hs2
  refine va_newa (atype := .char) (a0 := (N', .inl (fun _ => 0))) hexec hb harr rfl hE.1.1 hP hD hS hA (fun cA => rfl) hn hN hbytes hcells hslots hdg (fun q cA H1 hK hP hD hS => ?_)
  have h1 : va_RA s cA .char := (hK.2 7 (cA, .char) rfl).2
  have h2 : va_RA s (G 3) .char := (hE.1.1.2 3 (G 3, .char) rfl).2
  have h3 : cA = G 3 := Option.some.inj (h1.symm.trans h2)
  subst h3
  exact kk q H1 hP hD hS
theorem c_newI (hexec : p.tables.exec = Jvm.exec) (hb : c.code = cc) {own C host : String} {T : u_T} {N ci index index2 nL : Nat} {Ts : List Cond} (hml : c.maxLocals = nL) (hts : ∀ w ∈ Ts, w.before args s = true) (hin : ∀ w ∈ u_ws C T N, w ∈ Ts) (ty : Nat → FieldType) (hty : ∀ k, k < N → parseFieldDescriptor (T k).2.2.1 = some (ty k)) (hown : s.vm.findClass own = some m.cls) (hcl : (Cond.classLink own index C).before args s = true) (hinst : (Cond.instantiable C N).before args s = true) (hini : (Cond.initialized C).before args s = true)
    (hE : cE D G s) (hP : va_P D vwCl ws H) (hD : va_D A ws) (hS : va_S A H0 H locs) (hA : ∀ q, H0.size ≤ q → A q) (hc : vwCl[ci]? = some (C, T, N)) {fs0 : List Value} (hfs : ∀ j, j < N → defaultValue (ty j) = vp_V fs0 j)
    {y : MethodName} {wsC : List Cond} {rmC : Room} {post : Nat → va_W → Prop} {mc ms c2 s2 : Nat} {bytes : ByteArray} (hM : ∀ q sz, cMet l y wsC rmC D G q sz ci fs0 (post q) mc ms) (cw : va_CN R s args own index2 y host bytes 1 none wsC rmC mc ms 0 ∧ y.name = "<init>" ∧ (Cond.instanceMethod y).before args s = true)
    (hsz : ls.size = nL) (hW : ((Value.ref 0 :: rest).map fun v => v.category).sum ≤ 8) (hcells : c2 ≤ R.cells) (hslots : s2 ≤ R.slots) (hc2 : cells + 1 + mc = c2) (hs2 : slots + N + ms = s2) (hdg : decode cc pc = .ok (.new index, 3)) (hdg1 : decode cc (pc + 3) = .ok (.dup, 1)) (hdg2 : decode cc (pc + 3 + 1) = .ok (.invokespecial index2, 3))
    (kk : ∀ (q : Nat) (B : va_W) (H1 : Heap) (locs1 : List Loc), post q B → va_P D vwCl (ws ++ B) H1 → va_D A (ws ++ B) → va_S A H0 H1 locs1 →
      W p l e R s m args below meth c H1 locs1 c2 s2 Q (F0 m (pc + 3 + 1 + 3) ls (.ref q :: rest))) : W p l e R s m args below meth c H locs cells slots Q (F0 m pc ls rest) := by
  subst hc2 hs2
  refine va_new (ci := ci) (fs := fs0) (C := C) (T := T) (N := N) hexec hb hts hin ty hty hown hcl hinst hini hE.1.1 hP hD hS hA hc hfs (by omega) (by omega) hdg (fun q H hP hD hS => ?_)
  refine lv_dup hexec hb hdg1 rfl ?_
  have hq : (ws ++ [(q, (.inr (ci, fs0) : va_E))])[ws.length]? = some (q, .inr (ci, fs0)) := by
    rw [List.getElem?_append_right (Nat.le_refl _), Nat.sub_self]
    rfl
  have hPc : va_P D vwCl [(q, .inr (ci, fs0))] H := fun k x hx => by
    have h1 : k < 1 := (List.getElem?_eq_some_iff.mp hx).1
    rw [show k = 0 by omega] at hx
    cases hx
    exact hP _ _ hq
  have hsub : ∀ x, cA q H.size x → A x := fun x hx => by
    rcases hx with rfl | hx
    · exact hD.2 _ _ hq
    · exact hA _ (Nat.le_trans hS.1 hx)
  refine va_callv (va_runIN (As := []) (rest := .ref q :: rest) ⟨hexec, hb, hml, hown, hts⟩ (hM q H.size) cw ⟨c_blind, fun U hU hW => ⟨rfl, by rw [hU], by rw [hU]; exact hPc, cE.warm hW hE⟩⟩ rfl rfl hsz rfl (lv_room hW) hdg2 ⟨by omega, by omega⟩) hS (fun x _ h => hsub x h) hsub (fun B t H1 locs1 ht hvm hpost hB hz hk hS1 => ?_)
  obtain ⟨hB1, hB2⟩ := hB
  rw [ht] at hB1
  obtain ⟨hP1, hD1⟩ := c_join hP hD (fun x hx => hA _ (Nat.le_trans hS.1 hx)) hk hB1 hB2
  exact kk q B H1 locs1 hpost hP1 hD1 hS1
theorem c_ast (hexec : p.tables.exec = Jvm.exec) (hb : c.code = cc) (hE : cE D G s) {q n : Nat} {f g : Nat → Int32} (hP : va_P D vwCl (ws ++ [(q, .inl (G 0, n, .inl f))]) H) (hD : va_D A (ws ++ [(q, .inl (G 0, n, .inl f))])) (hS : va_S A H0 H locs) {i x : Int32} (hin : vp_in i n) (he : upd f i.toNatClampNeg x = g) (hdg : decode cc pc = .ok (.iastore, 1))
    (kk : ∀ (H1 : Heap) (locs1 : List Loc), va_P D vwCl (ws ++ [(q, .inl (G 0, n, .inl g))]) H1 → va_D A (ws ++ [(q, .inl (G 0, n, .inl g))]) → va_S A H0 H1 locs1 → W p l e R s m args below meth c H1 locs1 cells slots Q (F0 m (pc + 1) ls rest)) : W p l e R s m args below meth c H locs cells slots Q (F0 m pc ls (.int x :: .int i :: .ref q :: rest)) := by
  have hset : ∀ e : va_E, (ws ++ [(q, (.inl (G 0, n, .inl f) : va_E))]).set ws.length (q, e) = ws ++ [(q, e)] := fun e => by
    rw [List.set_append_right _ _ (Nat.le_refl _), Nat.sub_self]
    rfl
  refine va_iast (cA := G 0) (n := n) (f := f) hexec hb hE.1.1 hP hD hS ws.length 0 ?_ rfl hin hdg (fun H1 locs1 hP hD hS => ?_)
  · rw [List.getElem?_append_right (Nat.le_refl _), Nat.sub_self]
    rfl
  · rw [hset, he] at hP hD
    exact kk H1 locs1 hP hD hS
theorem c_mnaI (hexec : p.tables.exec = Jvm.exec) (hb : c.code = cc) {own : String} {index : Nat} (hown : s.vm.findClass own = some m.cls) (hclink : (Cond.classLink own index "[[I").before args s = true) (harr : (Cond.arrayClass .int).before args s = true) (hE : cE D G s) (hP : va_P D vwCl ws H) (hD : va_D A ws) (hS : va_S A H0 H locs) (hA : ∀ q, H0.size ≤ q → A q)
    {n k : Int32} {N' K' c2 s2 : Nat} (hn : ¬ n < 0) (hk : ¬ k < 0) (hN : n.toNatClampNeg = N') (hM : k.toNatClampNeg = K') (hb1 : N' * 4 ≤ 536870912) (hb2 : K' * componentBytes .int ≤ 536870912) (hb3 : K' ≤ 536870912) (hcells : c2 ≤ R.cells) (hslots : s2 ≤ R.slots) (hc2 : cells + 1 + N' = c2) (hs2 : slots + N' + N' * K' = s2) (hdg : decode cc pc = .ok (.multianewarray index 2, 4))
    (kk : ∀ (q : Nat) (r : Nat → Nat) (H1 : Heap), va_P D vwCl (ws ++ (gO (G 4) q r N' :: gI (G 0) r N' K' (fun _ _ => 0))) H1 → va_D A (ws ++ (gO (G 4) q r N' :: gI (G 0) r N' K' (fun _ _ => 0))) → va_S A H0 H1 locs → W p l e R s m args below meth c H1 locs c2 s2 Q (F0 m (pc + 4) ls (.ref q :: rest))) : W p l e R s m args below meth c H locs cells slots Q (F0 m pc ls (.int k :: .int n :: rest)) := by
  subst hc2 hs2
  have h2 : va_RA s (G 4) (.array .int) := (hE.1.1.2 4 (G 4, .array .int) rfl).2
  have h4 : va_RA s (G 0) .int := (hE.1.1.2 0 (G 0, .int) rfl).2
  have hnil : ws ++ va_pl [] (fun _ => (.inr (0, []) : va_E)) = ws := List.append_nil ws
  refine va_mna (X := ws) (L := []) (f := fun _ => .inr (0, [])) (ty := .int) (cy := G 0) (z := (K', .inl (fun _ => 0))) hexec hb hown hclink (hE.2 .int (by decide)) harr h4 hE.1.1 (by rw [hnil]; exact hP) (by rw [hnil]; exact hD) hS hA hn hk hN hM hb1 hb2 hb3 rfl rfl (by omega) (by omega) (fun c => by
    show ({ cls := c, slots := Array.replicate K' (.int 0), vm := .none } : Cell) = _
    rw [arrV_new]
    rfl) hdg (fun q r cA H1 _ _ hK hP hD hS => ?_)
  have h1 : va_RA s cA (.array .int) := (hK.2 7 (cA, .array .int) rfl).2
  have h3 : cA = G 4 := Option.some.inj (h1.symm.trans h2)
  subst h3
  have hpl : va_pl ([] ++ (List.range N').map r) (vr_up (fun _ => .inr (0, [])) ((List.range N').map r) (.inl (G 0, (K', .inl (fun _ => 0))))) = gI (G 0) r N' K' (fun _ _ => 0) := by
    unfold va_pl gI
    rw [List.nil_append, List.map_map]
    apply List.map_congr_left
    intro i hi
    show (r i, vr_up _ _ _ (r i)) = _
    rw [vr_up_in (List.mem_map.mpr ⟨i, hi, rfl⟩)]
  rw [hpl, List.append_assoc] at hP hD
  exact kk q r H1 hP hD hS
theorem c_mnaZ (hexec : p.tables.exec = Jvm.exec) (hb : c.code = cc) {own : String} {index : Nat} (hown : s.vm.findClass own = some m.cls) (hclink : (Cond.classLink own index "[[Z").before args s = true) (harr : (Cond.arrayClass .boolean).before args s = true) (hE : cE D G s) (hP : va_P D vwCl ws H) (hD : va_D A ws) (hS : va_S A H0 H locs) (hA : ∀ q, H0.size ≤ q → A q)
    {n k : Int32} {N' K' c2 s2 : Nat} (hn : ¬ n < 0) (hk : ¬ k < 0) (hN : n.toNatClampNeg = N') (hM : k.toNatClampNeg = K') (hb1 : N' * 4 ≤ 536870912) (hb2 : K' * componentBytes .boolean ≤ 536870912) (hb3 : K' ≤ 536870912) (hcells : c2 ≤ R.cells) (hslots : s2 ≤ R.slots) (hc2 : cells + 1 + N' = c2) (hs2 : slots + N' + N' * K' = s2) (hdg : decode cc pc = .ok (.multianewarray index 2, 4))
    (kk : ∀ (q : Nat) (r : Nat → Nat) (H1 : Heap), va_P D vwCl (ws ++ (gO (G 6) q r N' :: gI (G 2) r N' K' (fun _ _ => 0))) H1 → va_D A (ws ++ (gO (G 6) q r N' :: gI (G 2) r N' K' (fun _ _ => 0))) → va_S A H0 H1 locs → W p l e R s m args below meth c H1 locs c2 s2 Q (F0 m (pc + 4) ls (.ref q :: rest))) : W p l e R s m args below meth c H locs cells slots Q (F0 m pc ls (.int k :: .int n :: rest)) := by
  subst hc2 hs2
  have h2 : va_RA s (G 6) (.array .boolean) := (hE.1.1.2 6 (G 6, .array .boolean) rfl).2
  have h4 : va_RA s (G 2) .boolean := (hE.1.1.2 2 (G 2, .boolean) rfl).2
  have hnil : ws ++ va_pl [] (fun _ => (.inr (0, []) : va_E)) = ws := List.append_nil ws
  refine va_mna (X := ws) (L := []) (f := fun _ => .inr (0, [])) (ty := .boolean) (cy := G 2) (z := (K', .inl (fun _ => 0))) hexec hb hown hclink (hE.2 .boolean (by decide)) harr h4 hE.1.1 (by rw [hnil]; exact hP) (by rw [hnil]; exact hD) hS hA hn hk hN hM hb1 hb2 hb3 rfl rfl (by omega) (by omega) (fun c => by
    show ({ cls := c, slots := Array.replicate K' (.int 0), vm := .none } : Cell) = _
    rw [arrV_new]
    rfl) hdg (fun q r cA H1 _ _ hK hP hD hS => ?_)
  have h1 : va_RA s cA (.array .boolean) := (hK.2 7 (cA, .array .boolean) rfl).2
  have h3 : cA = G 6 := Option.some.inj (h1.symm.trans h2)
  subst h3
  have hpl : va_pl ([] ++ (List.range N').map r) (vr_up (fun _ => .inr (0, [])) ((List.range N').map r) (.inl (G 2, (K', .inl (fun _ => 0))))) = gI (G 2) r N' K' (fun _ _ => 0) := by
    unfold va_pl gI
    rw [List.nil_append, List.map_map]
    apply List.map_congr_left
    intro i hi
    show (r i, vr_up _ _ _ (r i)) = _
    rw [vr_up_in (List.mem_map.mpr ⟨i, hi, rfl⟩)]
  rw [hpl, List.append_assoc] at hP hD
  exact kk q r H1 hP hD hS
theorem c_mnaJ (hexec : p.tables.exec = Jvm.exec) (hb : c.code = cc) {own : String} {index : Nat} (hown : s.vm.findClass own = some m.cls) (hclink : (Cond.classLink own index "[[J").before args s = true) (harr : (Cond.arrayClass .long).before args s = true) (hE : cE D G s) (hP : va_P D vwCl ws H) (hD : va_D A ws) (hS : va_S A H0 H locs) (hA : ∀ q, H0.size ≤ q → A q)
    {n k : Int32} {N' K' c2 s2 : Nat} (hn : ¬ n < 0) (hk : ¬ k < 0) (hN : n.toNatClampNeg = N') (hM : k.toNatClampNeg = K') (hb1 : N' * 4 ≤ 536870912) (hb2 : K' * componentBytes .long ≤ 536870912) (hb3 : K' ≤ 536870912) (hcells : c2 ≤ R.cells) (hslots : s2 ≤ R.slots) (hc2 : cells + 1 + N' = c2) (hs2 : slots + N' + N' * K' = s2) (hdg : decode cc pc = .ok (.multianewarray index 2, 4))
    (kk : ∀ (q : Nat) (r : Nat → Nat) (H1 : Heap), va_P D vwCl (ws ++ (gO (G 5) q r N' :: gJ (G 1) r N' K' (fun _ _ => 0))) H1 → va_D A (ws ++ (gO (G 5) q r N' :: gJ (G 1) r N' K' (fun _ _ => 0))) → va_S A H0 H1 locs → W p l e R s m args below meth c H1 locs c2 s2 Q (F0 m (pc + 4) ls (.ref q :: rest))) : W p l e R s m args below meth c H locs cells slots Q (F0 m pc ls (.int k :: .int n :: rest)) := by
  subst hc2 hs2
  have h2 : va_RA s (G 5) (.array .long) := (hE.1.1.2 5 (G 5, .array .long) rfl).2
  have h4 : va_RA s (G 1) .long := (hE.1.1.2 1 (G 1, .long) rfl).2
  have hnil : ws ++ va_pl [] (fun _ => (.inr (0, []) : va_E)) = ws := List.append_nil ws
  refine va_mna (X := ws) (L := []) (f := fun _ => .inr (0, [])) (ty := .long) (cy := G 1) (z := (K', .inr (.inl (fun _ => 0)))) hexec hb hown hclink (hE.2 .long (by decide)) harr h4 hE.1.1 (by rw [hnil]; exact hP) (by rw [hnil]; exact hD) hS hA hn hk hN hM hb1 hb2 hb3 rfl rfl (by omega) (by omega) (fun c => by
    show ({ cls := c, slots := Array.replicate K' (.long 0), vm := .none } : Cell) = _
    rw [arrV_new]
    rfl) hdg (fun q r cA H1 _ _ hK hP hD hS => ?_)
  have h1 : va_RA s cA (.array .long) := (hK.2 7 (cA, .array .long) rfl).2
  have h3 : cA = G 5 := Option.some.inj (h1.symm.trans h2)
  subst h3
  have hpl : va_pl ([] ++ (List.range N').map r) (vr_up (fun _ => .inr (0, [])) ((List.range N').map r) (.inl (G 1, (K', .inr (.inl (fun _ => 0)))))) = gJ (G 1) r N' K' (fun _ _ => 0) := by
    unfold va_pl gJ
    rw [List.nil_append, List.map_map]
    apply List.map_congr_left
    intro i hi
    show (r i, vr_up _ _ _ (r i)) = _
    rw [vr_up_in (List.mem_map.mpr ⟨i, hi, rfl⟩)]
  rw [hpl, List.append_assoc] at hP hD
  exact kk q r H1 hP hD hS
theorem c_ret {h0 sz mc ms : Nat} {post : va_W → Prop} (hexec : p.tables.exec = Jvm.exec) (hb : c.code = cc) (hr : meth.sig.returnType = none) (hlocks : meth.locks = false) (hsz : s.heap.size = sz) (hAe : A = cA h0 sz) (hP : va_P D vwCl ws H) (hD : va_D A ws) (hS : va_S A s.heap H locs) (hpost : post ws) (hdg : decode cc pc = .ok (.return_, 1)) : W p l e R s m args below meth c H locs mc ms (MQ below (cQ D h0 sz post) args s mc ms (cA h0 sz)) (F0 m pc ls []) := by
  subst hAe
  exact W.vret hexec hb hr (fun t ht hW => ⟨⟨ws, rfl, hpost, by rw [ht]; exact hP, hD⟩, hS.F ht⟩) hS.2.2 hdg
end CROWS
