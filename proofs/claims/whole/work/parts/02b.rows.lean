/-! ===== the surroundings of a run (classes, array classes, links among nest mates), contracts over items, and a row an instruction ===== -/
def xT (G : Nat → ClassId) : List (ClassId × FieldType) := [(G 0, .int), (G 1, .long), (G 2, .boolean), (G 3, .char), (G 4, .array .int), (G 5, .array .long), (G 6, .array .boolean)]
def xNest : List Cond := [.methodLinkNest RX11 11 yX2_init RX11,
  .fieldLinkNest RX9 48 "DecreasingDiagrams$LabelOrder" "below" "[I" RX11,
  .fieldLinkNest RX7 44 "DecreasingDiagrams$LabelOrder" "below" "[I" RX11,
  .methodLinkNest RX11 18 yX3_init RX11,
  .fieldLinkNest RX0 35 "DecreasingDiagrams$LabelledSystem" "objects" "I" RX11,
  .fieldLinkNest RX11 149 "DecreasingDiagrams$LabelledSystem" "objects" "I" RX11,
  .fieldLinkNest RX0 54 "DecreasingDiagrams$LabelledSystem" "words" "[I" RX11,
  .fieldLinkNest RX11 309 "DecreasingDiagrams$LabelledSystem" "words" "[I" RX11,
  .fieldLinkNest RX7 22 "DecreasingDiagrams$LabelledSystem" "steps" "I" RX11,
  .fieldLinkNest RX4 60 "DecreasingDiagrams$LabelledSystem" "steps" "I" RX11,
  .fieldLinkNest RX9 70 "DecreasingDiagrams$LabelledSystem" "steps" "I" RX11,
  .fieldLinkNest RX11 142 "DecreasingDiagrams$LabelledSystem" "steps" "I" RX11,
  .fieldLinkNest RX7 27 "DecreasingDiagrams$LabelledSystem" "sources" "[I" RX11,
  .fieldLinkNest RX9 73 "DecreasingDiagrams$LabelledSystem" "sources" "[I" RX11,
  .fieldLinkNest RX11 155 "DecreasingDiagrams$LabelledSystem" "sources" "[I" RX11,
  .fieldLinkNest RX9 59 "DecreasingDiagrams$LabelledSystem" "targets" "[I" RX11,
  .fieldLinkNest RX7 30 "DecreasingDiagrams$LabelledSystem" "targets" "[I" RX11,
  .fieldLinkNest RX11 158 "DecreasingDiagrams$LabelledSystem" "targets" "[I" RX11,
  .fieldLinkNest RX9 43 "DecreasingDiagrams$LabelledSystem" "labels" "[I" RX11,
  .fieldLinkNest RX4 51 "DecreasingDiagrams$LabelledSystem" "labels" "[I" RX11,
  .fieldLinkNest RX7 41 "DecreasingDiagrams$LabelledSystem" "labels" "[I" RX11,
  .fieldLinkNest RX11 146 "DecreasingDiagrams$LabelledSystem" "labels" "[I" RX11,
  .methodLinkNest RX11 25 yX8_init RX11,
  .fieldLinkNest RX0 38 "DecreasingDiagrams$RuleSet" "count" "I" RX11,
  .fieldLinkNest RX11 275 "DecreasingDiagrams$RuleSet" "count" "I" RX11,
  .fieldLinkNest RX0 43 "DecreasingDiagrams$RuleSet" "lefts" "[I" RX11,
  .fieldLinkNest RX0 47 "DecreasingDiagrams$RuleSet" "rights" "[I" RX11,
  .methodLinkNest RX11 45 yX7_init RX11,
  .fieldLinkNest RX11 199 "DecreasingDiagrams$Peaks" "count" "I" RX11,
  .fieldLinkNest RX11 202 "DecreasingDiagrams$Peaks" "firsts" "[I" RX11,
  .fieldLinkNest RX11 205 "DecreasingDiagrams$Peaks" "seconds" "[I" RX11,
  .methodLinkNest RX11 52 yX9_init RX11,
  .methodLinkNest RX11 62 yX6_init RX11,
  .fieldLinkNest RX11 247 "DecreasingDiagrams$OutputText" "length" "I" RX11,
  .fieldLinkNest RX11 250 "DecreasingDiagrams$OutputText" "signs" "[C" RX11,
  .methodLinkNest RX11 69 yX4_init RX11,
  .methodLinkNest RX4 11 yX3_init RX11,
  .methodLinkNest RX4 20 yX2_init RX11,
  .methodLinkNest RX4 27 yX7_init RX11,
  .methodLinkNest RX4 40 yX2_makeNatural RX11,
  .fieldLinkNest RX11 268 "DecreasingDiagrams$LabellingSearch" "found" "[I" RX11,
  .fieldLinkNest RX11 265 "DecreasingDiagrams$LabellingSearch" "foundSteps" "I" RX11,
  .methodLinkNest RX11 76 yX1_init RX11,
  .fieldLinkNest RX11 271 "DecreasingDiagrams$InputLine" "length" "I" RX11,
  .methodLinkNest RX11 83 yX0_init RX11,
  .methodLinkNest RX0 11 yX3_init RX11,
  .fieldLinkNest RX11 294 "DecreasingDiagrams$Explorer" "draft" "LDecreasingDiagrams$LabelledSystem;" RX11,
  .fieldLinkNest RX11 300 "DecreasingDiagrams$Explorer" "failedObject" "I" RX11,
  .fieldLinkNest RX11 303 "DecreasingDiagrams$Explorer" "failedRule" "I" RX11,
  .fieldLinkNest RX11 306 "DecreasingDiagrams$Explorer" "failedLimit" "I" RX11,
  .methodLinkNest RX11 90 yX5_init RX11,
  .fieldLinkNest RX11 335 "DecreasingDiagrams$LongArrays" "sizes" "[I" RX11,
  .fieldLinkNest RX11 327 "DecreasingDiagrams$LongArrays" "values" "[[J" RX11,
  .methodLinkNest RX11 103 yX2_isAbove RX11,
  .methodLinkNest RX2 18 yX11_isIn RX11,
  .methodLinkNest RX11 107 yX2_hasPair RX11,
  .methodLinkNest RX11 110 yX2_put RX11,
  .methodLinkNest RX11 114 yX2_drop RX11,
  .methodLinkNest RX11 117 yX2_size RX11,
  .methodLinkNest RX11 121 yX2_makeNatural RX11,
  .methodLinkNest RX11 124 yX3_appendObject RX11,
  .methodLinkNest RX11 128 yX3_hasObject RX11,
  .methodLinkNest RX11 131 yX3_appendStep RX11,
  .methodLinkNest RX11 135 yX3_hasStep RX11,
  .methodLinkNest RX11 138 yX3_dropStep RX11,
  .methodLinkNest RX11 152 yX3_clear RX11,
  .methodLinkNest RX11 164 yX3_successors RX11,
  .methodLinkNest RX11 168 yX3_closure RX11,
  .methodLinkNest RX11 171 yX3_normalForms RX11,
  .methodLinkNest RX11 182 yX3_convertible RX11,
  .methodLinkNest RX3 44 yX11_isIn RX11,
  .methodLinkNest RX11 185 yX3_longestFrom RX11,
  .methodLinkNest RX11 191 yX3_fillReach RX11,
  .methodLinkNest RX11 195 yX7_collect RX11,
  .methodLinkNest RX11 208 yX7_has RX11,
  .methodLinkNest RX11 214 yX7_decreases RX11,
  .methodLinkNest RX7 49 yX3_closure RX11,
  .methodLinkNest RX7 53 yX3_successors RX11,
  .methodLinkNest RX11 352 yX9_search RX11,
  .methodLinkNest RX9 80 yX11_isIn RX11,
  .methodLinkNest RX11 357 yX9_reaches RX11,
  .methodLinkNest RX11 225 yX9_lengthTo RX11,
  .methodLinkNest RX11 228 yX9_stepTo RX11,
  .methodLinkNest RX11 231 yX7_firstFailing RX11,
  .methodLinkNest RX11 235 yX6_clear RX11,
  .methodLinkNest RX11 360 yX6_putNumber RX11,
  .methodLinkNest RX11 239 yX6_putSign RX11,
  .methodLinkNest RX11 257 yX4_findFirst RX11,
  .methodLinkNest RX4 67 yX3_copyFrom RX11,
  .methodLinkNest RX4 71 yX7_collect RX11,
  .methodLinkNest RX4 47 yX7_firstFailing RX11,
  .methodLinkNest RX11 261 yX4_countAll RX11,
  .methodLinkNest RX11 272 yX1_append RX11,
  .methodLinkNest RX11 276 yX1_wordAt RX11,
  .methodLinkNest RX1 23 yX10_append RX11,
  .methodLinkNest RX11 279 yX10_lengthOf RX11,
  .methodLinkNest RX11 284 yX1_byteAt RX11,
  .methodLinkNest RX11 287 yX1_clear RX11,
  .methodLinkNest RX11 288 yX8_append RX11,
  .methodLinkNest RX11 290 yX0_run RX11,
  .methodLinkNest RX0 28 yX3_clear RX11,
  .methodLinkNest RX0 31 yX3_appendObject RX11,
  .methodLinkNest RX0 57 yX10_lengthOf RX11,
  .methodLinkNest RX0 62 yX10_occurs RX11,
  .methodLinkNest RX0 66 yX10_replace RX11,
  .methodLinkNest RX0 73 yX3_objectOf RX11,
  .methodLinkNest RX0 76 yX3_isJoined RX11,
  .methodLinkNest RX0 79 yX3_appendStep RX11,
  .methodLinkNest RX11 297 yX3_copyFrom RX11,
  .methodLinkNest RX11 312 yX10_letterOf RX11,
  .methodLinkNest RX11 318 yX5_renew RX11,
  .methodLinkNest RX11 321 yX5_isMissing RX11,
  .methodLinkNest RX11 324 yX5_hasElement RX11,
  .methodLinkNest RX11 343 yX2_copyFrom RX11,
  .methodLinkNest RX11 346 yX8_copyFrom RX11]
def xisNest : Cond → Bool
  | .fieldLinkNest .. => true
  | .methodLinkNest .. => true
  | _ => false
theorem xNest_all : xNest.all xisNest = true := by decide +kernel
theorem xNest_ok (w : Cond) (h : w ∈ xNest) : xisNest w = true := List.all_eq_true.mp xNest_all w h
def xE (D : va_G) (G : Nat → ClassId) (U : State) : Prop := va_K D vwCl (xT G) U ∧ ∀ w ∈ xNest, va_Nw w U
theorem xE.warm {D : va_G} {G : Nat → ClassId} {s U : State} (hW : s.WarmedH U.vm) (h : xE D G s) : xE D G U := by
  refine ⟨va_K.moved hW.alike h.1, fun w hw => ?_⟩
  have h1 := h.2 w hw
  have h2 := xNest_ok w hw
  cases w <;> first | exact va_Nw.warmF hW h1 | exact va_Nw.warmM hW h1 | exact absurd h2 (by simp [xisNest])
theorem xE.calling {D : va_G} {G : Nat → ClassId} {U : State} (g : JFrame) (mk : MethodId) (a : Array Value) (h : xE D G U) : xE D G (U.calling g mk a) := by
  refine ⟨va_K.moved (u := U) (U := U.calling g mk a) (Vm.Alike.refl U.vm) h.1, fun w hw => ?_⟩
  have h1 := h.2 w hw
  have h2 := xNest_ok w hw
  refine va_Nw.same (u := U) (U := U.calling g mk a) ?_ rfl h1
  cases w <;> first | rfl | exact absurd h2 (by simp [xisNest])
def xA (aa : List (List Nat)) : Nat → Prop := fun q => q ∈ aa.flatten
def xPc (D : va_G) (G : Nat → ClassId) (vs : List Value) (I : List va_W) : Array Value → State → Prop := va_Pc vs (fun U => xP D I U.heap ∧ xE D G U ∧ (xAA I).flatten.Nodup)
def xQi (D : va_G) (I' : List va_W) (r : Int32) (aa : List (List Nat)) : Array Value → State → Outcome → State → Prop := va_Qi (fun (x : Int32) (_ : Unit) => x = r) (fun _ t => xW D aa I' t.heap) (xA aa)
def xQl (D : va_G) (I' : List va_W) (r : Int64) (aa : List (List Nat)) : Array Value → State → Outcome → State → Prop := va_Ql (fun (x : Int64) (_ : Unit) => x = r) (fun _ t => xW D aa I' t.heap) (xA aa)
def xQv (D : va_G) (I' : List va_W) (aa : List (List Nat)) : Array Value → State → Outcome → State → Prop := va_Qv (fun (_ : Unit) => True) (fun _ t => xW D aa I' t.heap) (xA aa)
def xQr (D : va_G) (I' : List va_W) (b : Nat) (aa : List (List Nat)) : Array Value → State → Outcome → State → Prop := va_Qr (fun (_ : Unit) => True) (fun _ a t => a = b ∧ xW D aa I' t.heap) (xA aa)
/-- a contract over items: nothing is made, nothing but the items changes -/
def xMet (l : Launch) (y : MethodName) (ws : List Cond) (rm : Room) (D : va_G) (G : Nat → ClassId) (vs : List Value) (I : List va_W) (Qc : List (List Nat) → Array Value → State → Outcome → State → Prop) : Prop := Met l y ws rm (xPc D G vs I) (Qc (xAA I)) 0 0 (xA (xAA I))
theorem x_blind {D : va_G} {G : Nat → ClassId} {vs : List Value} {I : List va_W} : FrameBlind (xPc D G vs I) := fun a U g mk q => by
  obtain ⟨q0, qP, qE, qN⟩ := q
  exact ⟨q0, qP, xE.calling g mk a qE, qN⟩
theorem x_ent {l : Launch} {y : MethodName} {ws ws' : List Cond} {rm : Room} {D : va_G} {G : Nat → ClassId} {vs : List Value} {I : List va_W} {Qc : List (List Nat) → Array Value → State → Outcome → State → Prop} {cc : ByteArray} {maxL : Nat} {ret : Option FieldType} (hy : plainName y.cls = true) (hw : ws = Cond.code y cc maxL ret :: ws') (hlen : (lg_sl vs).length ≤ maxL)
    (body : ∀ (p : Program) (e : Env) (s : State) (m : MethodId) (below : List Frame) (meth : Method) (c : Code) (aa : List (List Nat)) (ls : Array Slot) (args : Array Value) (Q : State → Prop) (H : Heap) (locs : List Loc), MQ below (Qc aa) args s 0 0 (xA aa) = Q → p.tables.exec = Jvm.exec → c.code = cc → meth.sig.returnType = ret → c.maxLocals = maxL → s.vm.findClass y.cls = some m.cls → (∀ w ∈ ws, w.before args s = true) → meth.locks = false → xE D G s → aa.flatten.Nodup → lv_has ls maxL (lv_args 0 vs) → xW D aa I H → va_S (xA aa) s.heap H locs → W p l e rm s m args below meth c H locs 0 0 Q (F0 m 0 ls [])) : xMet l y ws rm D G vs I Qc := by
  refine Met.ofW (cc := cc) (maxL := maxL) (ret := ret) hy hw ?_
  intro p e s m args below meth c s₁ B hml hv
  obtain ⟨rfl, hP, hE, hN⟩ := hv
  have hl := lv_entry vs (n := maxL) hlen
  rw [lg_entry_eq]
  exact body p e s m below meth c (xAA I) _ _ _ s.heap [] rfl B.exec B.bytes B.returns hml (findClass_of_methodNamed B.named) (atoms_spec (ws := ws) B.pre) B.notSynchronized hE hN hl ⟨hP, rfl⟩ va_S.rf
section XROWS
variable {p : Program} {l : Launch} {e : Env} {R : Room} {s : State} {m : MethodId} {args : Array Value} {below : List Frame} {meth : Method} {c : Code} {H : Heap} {locs : List Loc} {cells slots : Nat} {Q : State → Prop}
variable {cc : ByteArray} {pc : Nat} {ls : Array Slot} {rest : List Value} {D : va_G} {G : Nat → ClassId} {aa : List (List Nat)} {a : Nat} {I J I' J' : List va_W} {H0 : Heap}
theorem x_iret {r : Int32} (hexec : p.tables.exec = Jvm.exec) (hb : c.code = cc) (hr : meth.sig.returnType = some .int) (hlocks : meth.locks = false) (hP : xW D aa I' H) (hS : va_S (xA aa) s.heap H locs) (hdg : decode cc pc = .ok (.ireturn, 1)) : W p l e R s m args below meth c H locs cells slots (MQ below (xQi D I' r aa) args s cells slots (xA aa)) (F0 m pc ls [.int r]) :=
  W.iret (v := r) hexec hb hr (fun t ht hW => ⟨⟨r, (), rfl, rfl, by show xW D aa I' t.heap; rw [ht]; exact hP⟩, hS.F ht⟩) hS.2.2 hdg hlocks
theorem x_zret {r : Int32} (hexec : p.tables.exec = Jvm.exec) (hb : c.code = cc) (hr : meth.sig.returnType = some .boolean) (hlocks : meth.locks = false) (hn : narrow .boolean (.int r) = .int r) (hP : xW D aa I' H) (hS : va_S (xA aa) s.heap H locs) (hdg : decode cc pc = .ok (.ireturn, 1)) : W p l e R s m args below meth c H locs cells slots (MQ below (xQi D I' r aa) args s cells slots (xA aa)) (F0 m pc ls [.int r]) :=
  W.zret (v := r) hexec hb hr hn (fun t ht hW => ⟨⟨r, (), rfl, rfl, by show xW D aa I' t.heap; rw [ht]; exact hP⟩, hS.F ht⟩) hS.2.2 hdg hlocks
theorem x_lret {r : Int64} (hexec : p.tables.exec = Jvm.exec) (hb : c.code = cc) (hr : meth.sig.returnType = some .long) (hlocks : meth.locks = false) (hP : xW D aa I' H) (hS : va_S (xA aa) s.heap H locs) (hdg : decode cc pc = .ok (.lreturn, 1)) : W p l e R s m args below meth c H locs cells slots (MQ below (xQl D I' r aa) args s cells slots (xA aa)) (F0 m pc ls [.long r]) :=
  W.lret (v := r) hexec hb hr (fun t ht hW => ⟨⟨r, (), rfl, rfl, by show xW D aa I' t.heap; rw [ht]; exact hP⟩, hS.F ht⟩) hS.2.2 hdg hlocks
theorem x_vret (hexec : p.tables.exec = Jvm.exec) (hb : c.code = cc) (hr : meth.sig.returnType = none) (hlocks : meth.locks = false) (hP : xW D aa I' H) (hS : va_S (xA aa) s.heap H locs) (hdg : decode cc pc = .ok (.return_, 1)) : W p l e R s m args below meth c H locs cells slots (MQ below (xQv D I' aa) args s cells slots (xA aa)) (F0 m pc ls []) :=
  W.vret hexec hb hr (fun t ht hW => ⟨⟨(), rfl, trivial, by show xW D aa I' t.heap; rw [ht]; exact hP⟩, hS.F ht⟩) hS.2.2 hdg hlocks
theorem x_aret {b : Nat} {rt : FieldType} (hexec : p.tables.exec = Jvm.exec) (hb : c.code = cc) (hr : meth.sig.returnType = some rt) (hrt : (∃ n, rt = .object n) ∨ ∃ t, rt = .array t) (hlocks : meth.locks = false) (hP : xW D aa I' H) (hS : va_S (xA aa) s.heap H locs) (hdg : decode cc pc = .ok (.areturn, 1)) : W p l e R s m args below meth c H locs cells slots (MQ below (xQr D I' b aa) args s cells slots (xA aa)) (F0 m pc ls [.ref b]) :=
  W.aret (v := .ref b) hexec hb hr hrt (Or.inr ⟨b, rfl⟩) (fun t ht hW => ⟨⟨(), b, rfl, trivial, rfl, by show xW D aa I' t.heap; rw [ht]; exact hP⟩, hS.F ht⟩) hS.2.2 hdg hlocks
/-! stores into locals, with a name for what is stored -/
theorem x_istore_n {k : Fin 4} {i nL : Nat} {x v : Int32} {lv lv' : List (Nat × Value)} (hexec : p.tables.exec = Jvm.exec) (hb : c.code = cc) (hdg : decode cc pc = .ok (.istore_n k, 1)) (he : v = x) (hi : (k : Nat) = i) (h : lv_has ls nL lv) (hn : i < nL) (hl : (i, Value.int v) :: lv.filter (fun q => !(q.1 == i) && !(q.1 + 1 == i && q.2.category == 2)) = lv') (kk : ∀ ls' : Array Slot, lv_has ls' nL lv' → W p l e R s m args below meth c H locs cells slots Q (F0 m (pc + 1) ls' rest)) : W p l e R s m args below meth c H locs cells slots Q (F0 m pc ls (.int x :: rest)) := by
  subst he
  exact lv_istore_n hexec hb hdg hi h hn hl kk
theorem x_istore {i nL : Nat} {x v : Int32} {lv lv' : List (Nat × Value)} (hexec : p.tables.exec = Jvm.exec) (hb : c.code = cc) (hdg : decode cc pc = .ok (.istore i, 2)) (he : v = x) (h : lv_has ls nL lv) (hn : i < nL) (hl : (i, Value.int v) :: lv.filter (fun q => !(q.1 == i) && !(q.1 + 1 == i && q.2.category == 2)) = lv') (kk : ∀ ls' : Array Slot, lv_has ls' nL lv' → W p l e R s m args below meth c H locs cells slots Q (F0 m (pc + 2) ls' rest)) : W p l e R s m args below meth c H locs cells slots Q (F0 m pc ls (.int x :: rest)) := by
  subst he
  exact lv_istore hexec hb hdg h hn hl kk
/-! fields -/
theorem x_get (hexec : p.tables.exec = Jvm.exec) (hb : c.code = cc) {own C : String} {T : u_T} {N ci index : Nat} {Ts : List Cond} (hts : ∀ w ∈ Ts, w.before args s = true) (hin : ∀ w ∈ u_ws C T N, w ∈ Ts) (hown : s.vm.findClass own = some m.cls) (hE : xE D G s) (hP : xW D aa I H) (k : Nat) {fs : List Value} (hk : I[k]? = some [(a, .inr (ci, fs))]) (hc : vwCl[ci]? = some (C, T, N)) (f : Nat) (hf : f < N) (hlink : (Cond.fieldLink own index (T f).1 (T f).2.1 (T f).2.2.1).before args s = true) {v : Value} (hv : fs[f]? = some v) (hdg : decode cc pc = .ok (.getfield index, 3))
    (kk : W p l e R s m args below meth c H locs cells slots Q (F0 m (pc + 3) ls (v :: rest))) : W p l e R s m args below meth c H locs cells slots Q (F0 m pc ls (.ref a :: rest)) :=
  va_get hexec hb hts hin hown hE.1 (x_item hP.1 hk) 0 rfl hc f hf hlink (fun _ h => h) hv hdg kk
theorem x_getN (hexec : p.tables.exec = Jvm.exec) (hb : c.code = cc) {own C host : String} {T : u_T} {N ci index : Nat} {Ts : List Cond} (hts : ∀ w ∈ Ts, w.before args s = true) (hin : ∀ w ∈ u_ws C T N, w ∈ Ts) (hown : s.vm.findClass own = some m.cls) (hE : xE D G s) (hP : xW D aa I H) (k : Nat) {fs : List Value} (hk : I[k]? = some [(a, .inr (ci, fs))]) (hc : vwCl[ci]? = some (C, T, N)) (f : Nat) (hf : f < N) (hlink : va_Nw (Cond.fieldLinkNest own index (T f).1 (T f).2.1 (T f).2.2.1 host) s) {v : Value} (hv : fs[f]? = some v) (hdg : decode cc pc = .ok (.getfield index, 3))
    (kk : W p l e R s m args below meth c H locs cells slots Q (F0 m (pc + 3) ls (v :: rest))) : W p l e R s m args below meth c H locs cells slots Q (F0 m pc ls (.ref a :: rest)) :=
  va_getN hexec hb hts hin hown hE.1 (x_item hP.1 hk) 0 rfl hc f hf (va_Nw.use rfl hlink) (fun _ h => h) hv hdg kk
theorem x_put (hexec : p.tables.exec = Jvm.exec) (hb : c.code = cc) {own C : String} {T : u_T} {N ci index : Nat} {Ts : List Cond} (hts : ∀ w ∈ Ts, w.before args s = true) (hin : ∀ w ∈ u_ws C T N, w ∈ Ts) (ty0 : Nat → FieldType) (hty : ∀ k, k < N → parseFieldDescriptor (T k).2.2.1 = some (ty0 k)) (hnm : ∀ a, a < N → ∀ b, b < N → a ≠ b → (T a).2.1 ≠ (T b).2.1) (hown : s.vm.findClass own = some m.cls) (hE : xE D G s) (hP : xW D aa I H) (hN : aa.flatten.Nodup) (hS : va_S (xA aa) H0 H locs) (k : Nat) {fs : List Value} (hk : I[k]? = some [(a, .inr (ci, fs))]) (hc : vwCl[ci]? = some (C, T, N)) (f : Nat) (hf : f < N) (hlink : (Cond.fieldLink own index (T f).1 (T f).2.1 (T f).2.2.1).before args s = true) (hfin : (T f).2.2.2 = false) {ty : FieldType} {v w : Value} (he : w = v) (hd : parseFieldDescriptor (T f).2.2.1 = some ty) (hn : narrow ty w = w) (hfit : fits ty w = true) (hl : f < fs.length) (hI : I.set k [(a, .inr (ci, fs.set f w))] = I') (hdg : decode cc pc = .ok (.putfield index, 3))
    (kk : ∀ (H1 : Heap) (locs1 : List Loc), xW D aa I' H1 → va_S (xA aa) H0 H1 locs1 → W p l e R s m args below meth c H1 locs1 cells slots Q (F0 m (pc + 3) ls rest)) : W p l e R s m args below meth c H locs cells slots Q (F0 m pc ls (v :: .ref a :: rest)) := by
  subst he
  obtain ⟨hP, rfl⟩ := hP
  obtain ⟨q0, e1, e2⟩ := x_pos I k _ 0 _ hk rfl
  refine va_put hexec hb hts hin ty0 hty hnm hown hE.1 hP (x_D hN (fun q h => h)) hS q0 e1 hc f hf hlink (fun _ h => h) hfin hd hn hfit hl hdg (fun H1 locs1 h1 h2 h3 => kk H1 locs1 ⟨?_, ?_⟩ h3)
  · rw [e2] at h1
    rw [← hI]
    exact h1
  · rw [← hI]
    exact x_setAA (j := 0) hk rfl
theorem x_putN (hexec : p.tables.exec = Jvm.exec) (hb : c.code = cc) {own C host : String} {T : u_T} {N ci index : Nat} {Ts : List Cond} (hts : ∀ w ∈ Ts, w.before args s = true) (hin : ∀ w ∈ u_ws C T N, w ∈ Ts) (ty0 : Nat → FieldType) (hty : ∀ k, k < N → parseFieldDescriptor (T k).2.2.1 = some (ty0 k)) (hnm : ∀ a, a < N → ∀ b, b < N → a ≠ b → (T a).2.1 ≠ (T b).2.1) (hown : s.vm.findClass own = some m.cls) (hE : xE D G s) (hP : xW D aa I H) (hN : aa.flatten.Nodup) (hS : va_S (xA aa) H0 H locs) (k : Nat) {fs : List Value} (hk : I[k]? = some [(a, .inr (ci, fs))]) (hc : vwCl[ci]? = some (C, T, N)) (f : Nat) (hf : f < N) (hlink : va_Nw (Cond.fieldLinkNest own index (T f).1 (T f).2.1 (T f).2.2.1 host) s) (hfin : (T f).2.2.2 = false) {ty : FieldType} {v w : Value} (he : w = v) (hd : parseFieldDescriptor (T f).2.2.1 = some ty) (hn : narrow ty w = w) (hfit : fits ty w = true) (hl : f < fs.length) (hI : I.set k [(a, .inr (ci, fs.set f w))] = I') (hdg : decode cc pc = .ok (.putfield index, 3))
    (kk : ∀ (H1 : Heap) (locs1 : List Loc), xW D aa I' H1 → va_S (xA aa) H0 H1 locs1 → W p l e R s m args below meth c H1 locs1 cells slots Q (F0 m (pc + 3) ls rest)) : W p l e R s m args below meth c H locs cells slots Q (F0 m pc ls (v :: .ref a :: rest)) := by
  subst he
  obtain ⟨hP, rfl⟩ := hP
  obtain ⟨q0, e1, e2⟩ := x_pos I k _ 0 _ hk rfl
  refine va_putN hexec hb hts hin ty0 hty hnm hown hE.1 hP (x_D hN (fun q h => h)) hS q0 e1 hc f hf (va_Nw.use rfl hlink) (fun _ h => h) hfin hd hn hfit hl hdg (fun H1 locs1 h1 h2 h3 => kk H1 locs1 ⟨?_, ?_⟩ h3)
  · rw [e2] at h1
    rw [← hI]
    exact h1
  · rw [← hI]
    exact x_setAA (j := 0) hk rfl
/-! arrays -/
theorem x_iald (hexec : p.tables.exec = Jvm.exec) (hb : c.code = cc) (hE : xE D G s) (hP : xW D aa I H) (k : Nat) {n : Nat} {f : Nat → Int32} (hk : I[k]? = some [(a, .inl (G 0, n, .inl f))]) {i : Int32} (hin : vp_in i n) (hdg : decode cc pc = .ok (.iaload, 1))
    (kk : W p l e R s m args below meth c H locs cells slots Q (F0 m (pc + 1) ls (.int (f i.toNatClampNeg) :: rest))) : W p l e R s m args below meth c H locs cells slots Q (F0 m pc ls (.int i :: .ref a :: rest)) :=
  va_iald hexec hb hE.1 (x_item hP.1 hk) 0 0 rfl rfl hin hdg kk
theorem x_cald (hexec : p.tables.exec = Jvm.exec) (hb : c.code = cc) (hE : xE D G s) (hP : xW D aa I H) (k : Nat) {n : Nat} {f : Nat → Int32} (hk : I[k]? = some [(a, .inl (G 3, n, .inl f))]) {i : Int32} (hin : vp_in i n) (hdg : decode cc pc = .ok (.caload, 1))
    (kk : W p l e R s m args below meth c H locs cells slots Q (F0 m (pc + 1) ls (.int (f i.toNatClampNeg) :: rest))) : W p l e R s m args below meth c H locs cells slots Q (F0 m pc ls (.int i :: .ref a :: rest)) :=
  va_cald hexec hb hE.1 (x_item hP.1 hk) 0 3 rfl rfl hin hdg kk
theorem x_iald2 (hexec : p.tables.exec = Jvm.exec) (hb : c.code = cc) (hE : xE D G s) (hP : xW D aa I H) (k : Nat) {n w : Nat} {r : Nat → Nat} {M : Nat → Nat → Int32} (hk : I[k]? = some (gI (G 0) r n w M)) {i j : Int32} (hi : vp_in i n) (hin : vp_in j w) (hdg : decode cc pc = .ok (.iaload, 1))
    (kk : W p l e R s m args below meth c H locs cells slots Q (F0 m (pc + 1) ls (.int (M i.toNatClampNeg j.toNatClampNeg) :: rest))) : W p l e R s m args below meth c H locs cells slots Q (F0 m pc ls (.int j :: .ref (r i.toNatClampNeg) :: rest)) :=
  va_iald hexec hb hE.1 (x_item hP.1 hk) i.toNatClampNeg 0 (gI_get (Nat.not_le.mp fun q => hi (Or.inr q))) rfl hin hdg kk
theorem x_zald2 (hexec : p.tables.exec = Jvm.exec) (hb : c.code = cc) (hE : xE D G s) (hP : xW D aa I H) (k : Nat) {n w : Nat} {r : Nat → Nat} {M : Nat → Nat → Int32} (hk : I[k]? = some (gI (G 2) r n w M)) {i j : Int32} (hi : vp_in i n) (hin : vp_in j w) (hdg : decode cc pc = .ok (.baload, 1))
    (kk : W p l e R s m args below meth c H locs cells slots Q (F0 m (pc + 1) ls (.int (M i.toNatClampNeg j.toNatClampNeg) :: rest))) : W p l e R s m args below meth c H locs cells slots Q (F0 m pc ls (.int j :: .ref (r i.toNatClampNeg) :: rest)) :=
  va_zald hexec hb hE.1 (x_item hP.1 hk) i.toNatClampNeg 2 (gI_get (Nat.not_le.mp fun q => hi (Or.inr q))) rfl hin hdg kk
theorem x_lald2 (hexec : p.tables.exec = Jvm.exec) (hb : c.code = cc) (hE : xE D G s) (hP : xW D aa I H) (k : Nat) {n w : Nat} {r : Nat → Nat} {M : Nat → Nat → Int64} (hk : I[k]? = some (gJ (G 1) r n w M)) {i j : Int32} (hi : vp_in i n) (hin : vp_in j w) (hdg : decode cc pc = .ok (.laload, 1))
    (kk : W p l e R s m args below meth c H locs cells slots Q (F0 m (pc + 1) ls (.long (M i.toNatClampNeg j.toNatClampNeg) :: rest))) : W p l e R s m args below meth c H locs cells slots Q (F0 m pc ls (.int j :: .ref (r i.toNatClampNeg) :: rest)) :=
  va_lald hexec hb hE.1 (x_item hP.1 hk) i.toNatClampNeg 1 (gJ_get (Nat.not_le.mp fun q => hi (Or.inr q))) rfl hin hdg kk
theorem x_aald (hexec : p.tables.exec = Jvm.exec) (hb : c.code = cc) (hE : xE D G s) (hP : xW D aa I H) (k t0 : Nat) {n : Nat} {cA : ClassId} {t : FieldType} {r : Nat → Nat} (ht : (xT G)[t0]? = some (cA, .array t)) (hk : I[k]? = some [gO cA a r n]) {i : Int32} (hin : vp_in i n) (hdg : decode cc pc = .ok (.aaload, 1))
    (kk : W p l e R s m args below meth c H locs cells slots Q (F0 m (pc + 1) ls (.ref (r i.toNatClampNeg) :: rest))) : W p l e R s m args below meth c H locs cells slots Q (F0 m pc ls (.int i :: .ref a :: rest)) := by
  have hlt : i.toNatClampNeg < n := Nat.not_le.mp fun q => hin (Or.inr q)
  have hcell := x_item hP.1 hk 0 _ rfl
  have kk' : W p l e R s m args below meth c H locs cells slots Q (F0 m (pc + 1) ls (va_rf ((fun i => if i < n then some (r i) else none) i.toNatClampNeg) :: rest)) := by
    simp only [hlt, if_true]
    exact kk
  exact W.aald (ty := .array t) hexec hb hcell ((hE.1.2 t0 _ ht).1 n (fun j => va_rf ((fun i => if i < n then some (r i) else none) j))) rfl (fun q => by cases q) (by show ¬ (i < 0 ∨ (arrV _ _ _).slots.size ≤ _); rw [arrV_size]; exact hin) (by show (arrV _ _ _).slots[_]? = _; rw [arrV_read _ _ hlt]) rfl rfl hdg kk'
theorem x_alen (hexec : p.tables.exec = Jvm.exec) (hb : c.code = cc) (hE : xE D G s) (hP : xW D aa I H) (k t0 : Nat) {cA : ClassId} {x : vp_A} {ty : FieldType} (hk : I[k]? = some [(a, .inl (cA, x))]) (ht : (xT G)[t0]? = some (cA, ty)) {v : Int32} (hv : Int32.ofNat x.1 = v) (hdg : decode cc pc = .ok (.arraylength, 1))
    (kk : W p l e R s m args below meth c H locs cells slots Q (F0 m (pc + 1) ls (.int v :: rest))) : W p l e R s m args below meth c H locs cells slots Q (F0 m pc ls (.ref a :: rest)) :=
  va_alen hexec hb hE.1 (x_item hP.1 hk) 0 t0 rfl ht hv hdg kk
theorem x_iast (hexec : p.tables.exec = Jvm.exec) (hb : c.code = cc) (hE : xE D G s) (hP : xW D aa I H) (hN : aa.flatten.Nodup) (hS : va_S (xA aa) H0 H locs) (k : Nat) {n : Nat} {f g : Nat → Int32} (hk : I[k]? = some [(a, .inl (G 0, n, .inl f))]) {i x : Int32} (hin : vp_in i n) (he : g = upd f i.toNatClampNeg x) (hI : I.set k [(a, .inl (G 0, n, .inl g))] = I') (hdg : decode cc pc = .ok (.iastore, 1))
    (kk : ∀ (H1 : Heap) (locs1 : List Loc), xW D aa I' H1 → va_S (xA aa) H0 H1 locs1 → W p l e R s m args below meth c H1 locs1 cells slots Q (F0 m (pc + 1) ls rest)) : W p l e R s m args below meth c H locs cells slots Q (F0 m pc ls (.int x :: .int i :: .ref a :: rest)) := by
  subst he
  obtain ⟨hP, rfl⟩ := hP
  obtain ⟨q0, e1, e2⟩ := x_pos I k _ 0 _ hk rfl
  refine va_iast hexec hb hE.1 hP (x_D hN (fun q h => h)) hS q0 0 e1 rfl hin hdg (fun H1 locs1 h1 h2 h3 => kk H1 locs1 ⟨?_, ?_⟩ h3)
  · rw [e2] at h1
    rw [← hI]
    exact h1
  · rw [← hI]
    exact x_setAA (j := 0) hk rfl
theorem x_cast (hexec : p.tables.exec = Jvm.exec) (hb : c.code = cc) (hE : xE D G s) (hP : xW D aa I H) (hN : aa.flatten.Nodup) (hS : va_S (xA aa) H0 H locs) (k : Nat) {n : Nat} {f g : Nat → Int32} (hk : I[k]? = some [(a, .inl (G 3, n, .inl f))]) {i x : Int32} (hin : vp_in i n) (he : g = upd f i.toNatClampNeg (vp_nar .char x)) (hI : I.set k [(a, .inl (G 3, n, .inl g))] = I') (hdg : decode cc pc = .ok (.castore, 1))
    (kk : ∀ (H1 : Heap) (locs1 : List Loc), xW D aa I' H1 → va_S (xA aa) H0 H1 locs1 → W p l e R s m args below meth c H1 locs1 cells slots Q (F0 m (pc + 1) ls rest)) : W p l e R s m args below meth c H locs cells slots Q (F0 m pc ls (.int x :: .int i :: .ref a :: rest)) := by
  subst he
  obtain ⟨hP, rfl⟩ := hP
  obtain ⟨q0, e1, e2⟩ := x_pos I k _ 0 _ hk rfl
  refine va_cast hexec hb hE.1 hP (x_D hN (fun q h => h)) hS q0 3 e1 rfl hin hdg (fun H1 locs1 h1 h2 h3 => kk H1 locs1 ⟨?_, ?_⟩ h3)
  · rw [e2] at h1
    rw [← hI]
    exact h1
  · rw [← hI]
    exact x_setAA (j := 0) hk rfl
theorem x_iast2 (hexec : p.tables.exec = Jvm.exec) (hb : c.code = cc) (hE : xE D G s) (hP : xW D aa I H) (hN : aa.flatten.Nodup) (hS : va_S (xA aa) H0 H locs) (k : Nat) {n w : Nat} {r : Nat → Nat} {M M' : Nat → Nat → Int32} (hk : I[k]? = some (gI (G 0) r n w M)) {i j x : Int32} (hi : vp_in i n) (hin : vp_in j w) (he : M' = up2 M i.toNatClampNeg j.toNatClampNeg x) (hI : I.set k (gI (G 0) r n w M') = I') (hdg : decode cc pc = .ok (.iastore, 1))
    (kk : ∀ (H1 : Heap) (locs1 : List Loc), xW D aa I' H1 → va_S (xA aa) H0 H1 locs1 → W p l e R s m args below meth c H1 locs1 cells slots Q (F0 m (pc + 1) ls rest)) : W p l e R s m args below meth c H locs cells slots Q (F0 m pc ls (.int x :: .int j :: .ref (r i.toNatClampNeg) :: rest)) := by
  subst he
  obtain ⟨hP, rfl⟩ := hP
  have hlt : i.toNatClampNeg < n := Nat.not_le.mp fun q => hi (Or.inr q)
  obtain ⟨q0, e1, e2⟩ := x_pos I k _ i.toNatClampNeg _ hk (gI_get hlt)
  refine va_iast hexec hb hE.1 hP (x_D hN (fun q h => h)) hS q0 0 e1 rfl hin hdg (fun H1 locs1 h1 h2 h3 => kk H1 locs1 ⟨?_, ?_⟩ h3)
  · rw [e2, gI_set hlt] at h1
    rw [← hI]
    exact h1
  · rw [← hI, ← gI_set hlt]
    exact x_setAA hk (gI_get hlt)
theorem x_zast2 (hexec : p.tables.exec = Jvm.exec) (hb : c.code = cc) (hE : xE D G s) (hP : xW D aa I H) (hN : aa.flatten.Nodup) (hS : va_S (xA aa) H0 H locs) (k : Nat) {n w : Nat} {r : Nat → Nat} {M M' : Nat → Nat → Int32} (hk : I[k]? = some (gI (G 2) r n w M)) {i j x : Int32} (hi : vp_in i n) (hin : vp_in j w) (he : M' = up2 M i.toNatClampNeg j.toNatClampNeg (vp_nar .boolean x)) (hI : I.set k (gI (G 2) r n w M') = I') (hdg : decode cc pc = .ok (.bastore, 1))
    (kk : ∀ (H1 : Heap) (locs1 : List Loc), xW D aa I' H1 → va_S (xA aa) H0 H1 locs1 → W p l e R s m args below meth c H1 locs1 cells slots Q (F0 m (pc + 1) ls rest)) : W p l e R s m args below meth c H locs cells slots Q (F0 m pc ls (.int x :: .int j :: .ref (r i.toNatClampNeg) :: rest)) := by
  subst he
  obtain ⟨hP, rfl⟩ := hP
  have hlt : i.toNatClampNeg < n := Nat.not_le.mp fun q => hi (Or.inr q)
  obtain ⟨q0, e1, e2⟩ := x_pos I k _ i.toNatClampNeg _ hk (gI_get hlt)
  refine va_zast hexec hb hE.1 hP (x_D hN (fun q h => h)) hS q0 2 e1 rfl hin hdg (fun H1 locs1 h1 h2 h3 => kk H1 locs1 ⟨?_, ?_⟩ h3)
  · rw [e2, gI_set hlt] at h1
    rw [← hI]
    exact h1
  · rw [← hI, ← gI_set hlt]
    exact x_setAA hk (gI_get hlt)
theorem x_last2 (hexec : p.tables.exec = Jvm.exec) (hb : c.code = cc) (hE : xE D G s) (hP : xW D aa I H) (hN : aa.flatten.Nodup) (hS : va_S (xA aa) H0 H locs) (k : Nat) {n w : Nat} {r : Nat → Nat} {M M' : Nat → Nat → Int64} (hk : I[k]? = some (gJ (G 1) r n w M)) {i j : Int32} {x : Int64} (hi : vp_in i n) (hin : vp_in j w) (he : M' = up2 M i.toNatClampNeg j.toNatClampNeg x) (hI : I.set k (gJ (G 1) r n w M') = I') (hdg : decode cc pc = .ok (.lastore, 1))
    (kk : ∀ (H1 : Heap) (locs1 : List Loc), xW D aa I' H1 → va_S (xA aa) H0 H1 locs1 → W p l e R s m args below meth c H1 locs1 cells slots Q (F0 m (pc + 1) ls rest)) : W p l e R s m args below meth c H locs cells slots Q (F0 m pc ls (.long x :: .int j :: .ref (r i.toNatClampNeg) :: rest)) := by
  subst he
  obtain ⟨hP, rfl⟩ := hP
  have hlt : i.toNatClampNeg < n := Nat.not_le.mp fun q => hi (Or.inr q)
  obtain ⟨q0, e1, e2⟩ := x_pos I k _ i.toNatClampNeg _ hk (gJ_get hlt)
  refine va_last hexec hb hE.1 hP (x_D hN (fun q h => h)) hS q0 1 e1 rfl hin hdg (fun H1 locs1 h1 h2 h3 => kk H1 locs1 ⟨?_, ?_⟩ h3)
  · rw [e2, gJ_set hlt] at h1
    rw [← hI]
    exact h1
  · rw [← hI, ← gJ_set hlt]
    exact x_setAA hk (gJ_get hlt)
theorem x_last (hexec : p.tables.exec = Jvm.exec) (hb : c.code = cc) (hE : xE D G s) (hP : xW D aa I H) (hN : aa.flatten.Nodup) (hS : va_S (xA aa) H0 H locs) (k : Nat) {n : Nat} {f g : Nat → Int64} (hk : I[k]? = some [(a, .inl (G 1, n, .inr (.inl f)))]) {i : Int32} {x : Int64} (hin : vp_in i n) (he : g = vp_updL f i.toNatClampNeg x) (hI : I.set k [(a, .inl (G 1, n, .inr (.inl g)))] = I') (hdg : decode cc pc = .ok (.lastore, 1))
    (kk : ∀ (H1 : Heap) (locs1 : List Loc), xW D aa I' H1 → va_S (xA aa) H0 H1 locs1 → W p l e R s m args below meth c H1 locs1 cells slots Q (F0 m (pc + 1) ls rest)) : W p l e R s m args below meth c H locs cells slots Q (F0 m pc ls (.long x :: .int i :: .ref a :: rest)) := by
  subst he
  obtain ⟨hP, rfl⟩ := hP
  obtain ⟨q0, e1, e2⟩ := x_pos I k _ 0 _ hk rfl
  refine va_last hexec hb hE.1 hP (x_D hN (fun q h => h)) hS q0 1 e1 rfl hin hdg (fun H1 locs1 h1 h2 h3 => kk H1 locs1 ⟨?_, ?_⟩ h3)
  · rw [e2] at h1
    rw [← hI]
    exact h1
  · rw [← hI]
    exact x_setAA (j := 0) hk rfl
/-! calls -/
theorem x_goi {r : Int32} {st0 : List Value} {av : Array Value} {ps qs : List Nat} {n : Nat} (hr : va_Run p l e R s m args below meth c H locs cells slots 0 0 (F0 m pc ls st0) rest (xQi D J' r (xAA J) av) (xA (xAA J))) (hP : xW D aa I H) (hN : aa.flatten.Nodup) (hS : va_S (xA aa) H0 H locs) (hJ : ps.map (fun k => I[k]?) = J.map some) (hJ' : ps.map (fun k => I'[k]?) = J'.map some) (hQ : qs.map (fun k => I'[k]?) = qs.map (fun k => I[k]?)) (hL : I.length = n) (hL' : I'.length = n) (hcov : ∀ k, k < n → k ∈ ps ∨ k ∈ qs)
    (kk : ∀ (H1 : Heap) (locs1 : List Loc), xW D aa I' H1 → va_S (xA aa) H0 H1 locs1 → W p l e R s m args below meth c H1 locs1 cells slots Q (F0 m (pc + 3) ls (.int r :: rest))) : W p l e R s m args below meth c H locs cells slots Q (F0 m pc ls st0) := by
  have hsub : ∀ q, xA (xAA J) q → xA aa q := fun q h => by rw [← hP.2]; exact x_subA hJ q h
  refine va_calli hr hS (fun q _ h => hsub q h) hsub (fun r2 u t H1 locs1 ht hvm hw hB hz hk hS1 => ?_)
  subst hw
  have hB : xW D (xAA J) J' t.heap := hB
  rw [ht] at hB
  exact kk H1 locs1 (x_join hP hN hJ hB hk hJ' hQ hL hL' hcov) hS1
theorem x_goi0 {r : Int32} {st0 : List Value} {av : Array Value} {ps : List Nat} (hr : va_Run p l e R s m args below meth c H locs cells slots 0 0 (F0 m pc ls st0) rest (xQi D J r (xAA J) av) (xA (xAA J))) (hP : xW D aa I H) (hN : aa.flatten.Nodup) (hS : va_S (xA aa) H0 H locs) (hJ : ps.map (fun k => I[k]?) = J.map some)
    (kk : ∀ (H1 : Heap) (locs1 : List Loc), xW D aa I H1 → va_S (xA aa) H0 H1 locs1 → W p l e R s m args below meth c H1 locs1 cells slots Q (F0 m (pc + 3) ls (.int r :: rest))) : W p l e R s m args below meth c H locs cells slots Q (F0 m pc ls st0) := by
  have hsub : ∀ q, xA (xAA J) q → xA aa q := fun q h => by rw [← hP.2]; exact x_subA hJ q h
  refine va_calli hr hS (fun q _ h => hsub q h) hsub (fun r2 u t H1 locs1 ht hvm hw hB hz hk hS1 => ?_)
  subst hw
  have hB : xW D (xAA J) J t.heap := hB
  rw [ht] at hB
  exact kk H1 locs1 (x_join0 hP hJ hB hk hN) hS1
theorem x_gol {r : Int64} {st0 : List Value} {av : Array Value} {ps qs : List Nat} {n : Nat} (hr : va_Run p l e R s m args below meth c H locs cells slots 0 0 (F0 m pc ls st0) rest (xQl D J' r (xAA J) av) (xA (xAA J))) (hP : xW D aa I H) (hN : aa.flatten.Nodup) (hS : va_S (xA aa) H0 H locs) (hJ : ps.map (fun k => I[k]?) = J.map some) (hJ' : ps.map (fun k => I'[k]?) = J'.map some) (hQ : qs.map (fun k => I'[k]?) = qs.map (fun k => I[k]?)) (hL : I.length = n) (hL' : I'.length = n) (hcov : ∀ k, k < n → k ∈ ps ∨ k ∈ qs)
    (kk : ∀ (H1 : Heap) (locs1 : List Loc), xW D aa I' H1 → va_S (xA aa) H0 H1 locs1 → W p l e R s m args below meth c H1 locs1 cells slots Q (F0 m (pc + 3) ls (.long r :: rest))) : W p l e R s m args below meth c H locs cells slots Q (F0 m pc ls st0) := by
  have hsub : ∀ q, xA (xAA J) q → xA aa q := fun q h => by rw [← hP.2]; exact x_subA hJ q h
  refine va_calll hr hS (fun q _ h => hsub q h) hsub (fun r2 u t H1 locs1 ht hvm hw hB hz hk hS1 => ?_)
  subst hw
  have hB : xW D (xAA J) J' t.heap := hB
  rw [ht] at hB
  exact kk H1 locs1 (x_join hP hN hJ hB hk hJ' hQ hL hL' hcov) hS1
theorem x_gol0 {r : Int64} {st0 : List Value} {av : Array Value} {ps : List Nat} (hr : va_Run p l e R s m args below meth c H locs cells slots 0 0 (F0 m pc ls st0) rest (xQl D J r (xAA J) av) (xA (xAA J))) (hP : xW D aa I H) (hN : aa.flatten.Nodup) (hS : va_S (xA aa) H0 H locs) (hJ : ps.map (fun k => I[k]?) = J.map some)
    (kk : ∀ (H1 : Heap) (locs1 : List Loc), xW D aa I H1 → va_S (xA aa) H0 H1 locs1 → W p l e R s m args below meth c H1 locs1 cells slots Q (F0 m (pc + 3) ls (.long r :: rest))) : W p l e R s m args below meth c H locs cells slots Q (F0 m pc ls st0) := by
  have hsub : ∀ q, xA (xAA J) q → xA aa q := fun q h => by rw [← hP.2]; exact x_subA hJ q h
  refine va_calll hr hS (fun q _ h => hsub q h) hsub (fun r2 u t H1 locs1 ht hvm hw hB hz hk hS1 => ?_)
  subst hw
  have hB : xW D (xAA J) J t.heap := hB
  rw [ht] at hB
  exact kk H1 locs1 (x_join0 hP hJ hB hk hN) hS1
theorem x_gov {st0 : List Value} {av : Array Value} {ps qs : List Nat} {n : Nat} (hr : va_Run p l e R s m args below meth c H locs cells slots 0 0 (F0 m pc ls st0) rest (xQv D J' (xAA J) av) (xA (xAA J))) (hP : xW D aa I H) (hN : aa.flatten.Nodup) (hS : va_S (xA aa) H0 H locs) (hJ : ps.map (fun k => I[k]?) = J.map some) (hJ' : ps.map (fun k => I'[k]?) = J'.map some) (hQ : qs.map (fun k => I'[k]?) = qs.map (fun k => I[k]?)) (hL : I.length = n) (hL' : I'.length = n) (hcov : ∀ k, k < n → k ∈ ps ∨ k ∈ qs)
    (kk : ∀ (H1 : Heap) (locs1 : List Loc), xW D aa I' H1 → va_S (xA aa) H0 H1 locs1 → W p l e R s m args below meth c H1 locs1 cells slots Q (F0 m (pc + 3) ls rest)) : W p l e R s m args below meth c H locs cells slots Q (F0 m pc ls st0) := by
  have hsub : ∀ q, xA (xAA J) q → xA aa q := fun q h => by rw [← hP.2]; exact x_subA hJ q h
  refine va_callv hr hS (fun q _ h => hsub q h) hsub (fun u t H1 locs1 ht hvm hw hB hz hk hS1 => ?_)
  have hB : xW D (xAA J) J' t.heap := hB
  rw [ht] at hB
  exact kk H1 locs1 (x_join hP hN hJ hB hk hJ' hQ hL hL' hcov) hS1
theorem x_gov0 {st0 : List Value} {av : Array Value} {ps : List Nat} (hr : va_Run p l e R s m args below meth c H locs cells slots 0 0 (F0 m pc ls st0) rest (xQv D J (xAA J) av) (xA (xAA J))) (hP : xW D aa I H) (hN : aa.flatten.Nodup) (hS : va_S (xA aa) H0 H locs) (hJ : ps.map (fun k => I[k]?) = J.map some)
    (kk : ∀ (H1 : Heap) (locs1 : List Loc), xW D aa I H1 → va_S (xA aa) H0 H1 locs1 → W p l e R s m args below meth c H1 locs1 cells slots Q (F0 m (pc + 3) ls rest)) : W p l e R s m args below meth c H locs cells slots Q (F0 m pc ls st0) := by
  have hsub : ∀ q, xA (xAA J) q → xA aa q := fun q h => by rw [← hP.2]; exact x_subA hJ q h
  refine va_callv hr hS (fun q _ h => hsub q h) hsub (fun u t H1 locs1 ht hvm hw hB hz hk hS1 => ?_)
  have hB : xW D (xAA J) J t.heap := hB
  rw [ht] at hB
  exact kk H1 locs1 (x_join0 hP hJ hB hk hN) hS1
theorem x_gor {b : Nat} {st0 : List Value} {av : Array Value} {ps qs : List Nat} {n : Nat} (hr : va_Run p l e R s m args below meth c H locs cells slots 0 0 (F0 m pc ls st0) rest (xQr D J' b (xAA J) av) (xA (xAA J))) (hP : xW D aa I H) (hN : aa.flatten.Nodup) (hS : va_S (xA aa) H0 H locs) (hJ : ps.map (fun k => I[k]?) = J.map some) (hJ' : ps.map (fun k => I'[k]?) = J'.map some) (hQ : qs.map (fun k => I'[k]?) = qs.map (fun k => I[k]?)) (hL : I.length = n) (hL' : I'.length = n) (hcov : ∀ k, k < n → k ∈ ps ∨ k ∈ qs)
    (kk : ∀ (H1 : Heap) (locs1 : List Loc), xW D aa I' H1 → va_S (xA aa) H0 H1 locs1 → W p l e R s m args below meth c H1 locs1 cells slots Q (F0 m (pc + 3) ls (.ref b :: rest))) : W p l e R s m args below meth c H locs cells slots Q (F0 m pc ls st0) := by
  have hsub : ∀ q, xA (xAA J) q → xA aa q := fun q h => by rw [← hP.2]; exact x_subA hJ q h
  refine va_callr hr hS (fun q _ h => hsub q h) hsub (fun u ra t H1 locs1 ht hvm hw hB hz hk hS1 => ?_)
  obtain ⟨rfl, hB⟩ := hB
  have hB : xW D (xAA J) J' t.heap := hB
  rw [ht] at hB
  exact kk H1 locs1 (x_join hP hN hJ hB hk hJ' hQ hL hL' hcov) hS1
theorem x_gor0 {b : Nat} {st0 : List Value} {av : Array Value} {ps : List Nat} (hr : va_Run p l e R s m args below meth c H locs cells slots 0 0 (F0 m pc ls st0) rest (xQr D J b (xAA J) av) (xA (xAA J))) (hP : xW D aa I H) (hN : aa.flatten.Nodup) (hS : va_S (xA aa) H0 H locs) (hJ : ps.map (fun k => I[k]?) = J.map some)
    (kk : ∀ (H1 : Heap) (locs1 : List Loc), xW D aa I H1 → va_S (xA aa) H0 H1 locs1 → W p l e R s m args below meth c H1 locs1 cells slots Q (F0 m (pc + 3) ls (.ref b :: rest))) : W p l e R s m args below meth c H locs cells slots Q (F0 m pc ls st0) := by
  have hsub : ∀ q, xA (xAA J) q → xA aa q := fun q h => by rw [← hP.2]; exact x_subA hJ q h
  refine va_callr hr hS (fun q _ h => hsub q h) hsub (fun u ra t H1 locs1 ht hvm hw hB hz hk hS1 => ?_)
  obtain ⟨rfl, hB⟩ := hB
  have hB : xW D (xAA J) J t.heap := hB
  rw [ht] at hB
  exact kk H1 locs1 (x_join0 hP hJ hB hk hN) hS1
variable {y : MethodName} {bytes : ByteArray} {maxL nL n index : Nat} {ret : Option FieldType} {ws : List Cond} {rm : Room} {Qc : List (List Nat) → Array Value → State → Outcome → State → Prop} {Ts : List Cond} {own C host : String} {b : Addr} {As : List Value}
theorem x_runV {ps : List Nat} {ci N : Nat} {T : u_T} {fs : List Value} (CF : CallFix p m c cc nL s args Ts own) (hM : xMet l y ws rm D G (.ref b :: As) J Qc) (cw : CallW R s args own C index y bytes maxL ret ws rm 0 0 n) (hE : xE D G s) (hP : xW D aa I H) (hN : aa.flatten.Nodup) (hJ : ps.map (fun k => I[k]?) = J.map some) (hps : ps.Nodup) (kr : Nat) (hrec : I[kr]? = some [(b, .inr (ci, fs))]) (hc : vwCl[ci]? = some (C, T, N)) (hn : As.length = n) (hsz : ls.size = nL) (hW : (rest.map fun v => v.category).sum ≤ 8) (hdg : decode cc pc = .ok (.invokevirtual index, 3)) (hf : cells + 0 ≤ R.cells ∧ slots + 0 ≤ R.slots) :
    va_Run p l e R s m args below meth c H locs cells slots 0 0 (F0 m pc ls (As.reverse ++ .ref b :: rest)) rest (Qc (xAA J) (Value.ref b :: As).toArray) (xA (xAA J)) := by
  obtain ⟨hP, rfl⟩ := hP
  exact va_runV CF hM cw ⟨x_blind, va_recv hE.1 (x_item hP hrec) hc (q0 := 0) rfl, fun U hU hW => ⟨rfl, by rw [hU]; exact x_subP hP hJ, xE.warm hW hE, x_subN ps I J hps hN hJ⟩⟩ rfl hn hsz rfl (lv_room hW) hdg hf
theorem x_runVN {ps : List Nat} {ci N : Nat} {T : u_T} {fs : List Value} (CF : CallFix p m c cc nL s args Ts own) (hM : xMet l y ws rm D G (.ref b :: As) J Qc) (cw : va_CN R s args own index y host bytes maxL ret ws rm 0 0 n ∧ (Cond.instanceMethod y).before args s = true ∧ (Cond.selects C y y).before args s = true) (hE : xE D G s) (hP : xW D aa I H) (hN : aa.flatten.Nodup) (hJ : ps.map (fun k => I[k]?) = J.map some) (hps : ps.Nodup) (kr : Nat) (hrec : I[kr]? = some [(b, .inr (ci, fs))]) (hc : vwCl[ci]? = some (C, T, N)) (hn : As.length = n) (hsz : ls.size = nL) (hW : (rest.map fun v => v.category).sum ≤ 8) (hdg : decode cc pc = .ok (.invokevirtual index, 3)) (hf : cells + 0 ≤ R.cells ∧ slots + 0 ≤ R.slots) :
    va_Run p l e R s m args below meth c H locs cells slots 0 0 (F0 m pc ls (As.reverse ++ .ref b :: rest)) rest (Qc (xAA J) (Value.ref b :: As).toArray) (xA (xAA J)) := by
  obtain ⟨hP, rfl⟩ := hP
  exact va_runVN CF hM cw ⟨x_blind, va_recv hE.1 (x_item hP hrec) hc (q0 := 0) rfl, fun U hU hW => ⟨rfl, by rw [hU]; exact x_subP hP hJ, xE.warm hW hE, x_subN ps I J hps hN hJ⟩⟩ rfl hn hsz rfl (lv_room hW) hdg hf
theorem x_runS {ps : List Nat} (CF : CallFix p m c cc nL s args Ts own) (hM : xMet l y ws rm D G As J Qc) (cw : CallB R s args own index y bytes maxL ret ws rm 0 0 n ∧ (Cond.static y).before args s = true) (hE : xE D G s) (hP : xW D aa I H) (hN : aa.flatten.Nodup) (hJ : ps.map (fun k => I[k]?) = J.map some) (hps : ps.Nodup) (hn : As.length = n) (hsz : ls.size = nL) (hW : (rest.map fun v => v.category).sum ≤ 8) (hdg : decode cc pc = .ok (.invokestatic index, 3)) (hf : cells + 0 ≤ R.cells ∧ slots + 0 ≤ R.slots) :
    va_Run p l e R s m args below meth c H locs cells slots 0 0 (F0 m pc ls (As.reverse ++ rest)) rest (Qc (xAA J) As.toArray) (xA (xAA J)) := by
  obtain ⟨hP, rfl⟩ := hP
  exact va_runS CF hM cw ⟨x_blind, fun U hU hW => ⟨rfl, by rw [hU]; exact x_subP hP hJ, xE.warm hW hE, x_subN ps I J hps hN hJ⟩⟩ rfl hn hsz rfl (lv_room hW) hdg hf
theorem x_runSN {ps : List Nat} (CF : CallFix p m c cc nL s args Ts own) (hM : xMet l y ws rm D G As J Qc) (cw : va_CN R s args own index y host bytes maxL ret ws rm 0 0 n ∧ (Cond.static y).before args s = true ∧ True) (hE : xE D G s) (hP : xW D aa I H) (hN : aa.flatten.Nodup) (hJ : ps.map (fun k => I[k]?) = J.map some) (hps : ps.Nodup) (hn : As.length = n) (hsz : ls.size = nL) (hW : (rest.map fun v => v.category).sum ≤ 8) (hdg : decode cc pc = .ok (.invokestatic index, 3)) (hf : cells + 0 ≤ R.cells ∧ slots + 0 ≤ R.slots) :
    va_Run p l e R s m args below meth c H locs cells slots 0 0 (F0 m pc ls (As.reverse ++ rest)) rest (Qc (xAA J) As.toArray) (xA (xAA J)) := by
  obtain ⟨hP, rfl⟩ := hP
  exact va_runSN CF hM cw ⟨x_blind, fun U hU hW => ⟨rfl, by rw [hU]; exact x_subP hP hJ, xE.warm hW hE, x_subN ps I J hps hN hJ⟩⟩ rfl hn hsz rfl (lv_room hW) hdg hf
end XROWS
/-! ===== what the program's functions are written with ===== -/
def vv {α : Type} (d : α) (l : List α) : Nat → α := fun k => l.getD k d
def lt {α β : Type} (e : α) (k : α → β) : β := k e
def ck {β : Type} (i : Int32) (n : Nat) (k : Option β) : Option β := if i < 0 ∨ n ≤ i.toNatClampNeg then none else k
def ckd {β : Type} (y : Int32) (k : Option β) : Option β := if y = 0 then none else k
def lp {τ : Type} (z : τ) (F : τ → τ) : Nat → τ
  | 0 => z
  | n + 1 => F (lp z F n)
theorem lt_some {α β : Type} {e : α} {k : α → Option β} {o : β} (h : lt e k = some o) : ∃ x, x = e ∧ k x = some o := ⟨e, rfl, h⟩
theorem ck_some {β : Type} {i : Int32} {n : Nat} {k : Option β} {o : β} (h : ck i n k = some o) : vp_in i n ∧ k = some o := by
  unfold ck at h
  by_cases hc : i < 0 ∨ n ≤ i.toNatClampNeg
  · rw [if_pos hc] at h
    cases h
  · rw [if_neg hc] at h
    exact ⟨hc, h⟩
theorem ckd_some {β : Type} {y : Int32} {k : Option β} {o : β} (h : ckd y k = some o) : ¬ y = 0 ∧ k = some o := by
  unfold ckd at h
  by_cases hc : y = 0
  · rw [if_pos hc] at h
    cases h
  · rw [if_neg hc] at h
    exact ⟨hc, h⟩
theorem bd_some {α β : Type} {x : Option α} {k : α → Option β} {o : β} (h : x.bind k = some o) : ∃ r, x = some r ∧ k r = some o := Option.bind_eq_some_iff.mp h
theorem no_some {β : Type} {o : β} {P : Prop} (h : (none : Option β) = some o) : P := by cases h
def ckb {β : Type} (y : Int32) (k : Option β) : Option β := if y = 0 ∨ y = 1 then k else none
theorem ckb_some {β : Type} {y : Int32} {k : Option β} {o : β} (h : ckb y k = some o) : narrow .boolean (.int y) = .int y ∧ k = some o := by
  unfold ckb at h
  by_cases hc : y = 0 ∨ y = 1
  · rw [if_pos hc] at h
    refine ⟨?_, h⟩
    rcases hc with rfl | rfl <;> rfl
  · rw [if_neg hc] at h
    cases h
theorem it_pos {β : Type} {c : Prop} {hd : Decidable c} {a b : Option β} {o : β} (hc : c) (h : (if c then a else b) = some o) : a = some o := by
  rw [if_pos hc] at h
  exact h
theorem it_neg {β : Type} {c : Prop} {hd : Decidable c} {a b : Option β} {o : β} (hc : ¬ c) (h : (if c then a else b) = some o) : b = some o := by
  rw [if_neg hc] at h
  exact h
theorem sw_out {x : Int32} (h0 : ¬ x = 0) (h1 : ¬ x = 1) (h2 : ¬ x = 2) : x.toInt < 0 ∨ 2 < x.toInt := by
  have g0 : x.toInt ≠ 0 := fun h => h0 (Int32.toInt_inj.mp h)
  have g1 : x.toInt ≠ 1 := fun h => h1 (Int32.toInt_inj.mp h)
  have g2 : x.toInt ≠ 2 := fun h => h2 (Int32.toInt_inj.mp h)
  omega
abbrev rM (f n : Nat) : Room := { frames := f, cells := 0, slots := 0, locals := n }
section XCOPY
variable {p : Program} {l : Launch} {e : Env} {R : Room} {s : State} {m : MethodId} {args : Array Value} {below : List Frame} {meth : Method} {c : Code} {H : Heap} {locs : List Loc} {cells slots : Nat} {Q : State → Prop}
variable {cc : ByteArray} {pc : Nat} {ls : Array Slot} {rest : List Value} {D : va_G} {G : Nat → ClassId} {aa : List (List Nat)} {a : Nat} {I J I' J' : List va_W} {H0 : Heap}
theorem x_copyi (hexec : p.tables.exec = Jvm.exec) (hb : c.code = cc) (hml : c.maxLocals = ls.size) {own : String} {index : Nat} (hown : s.vm.findClass own = some m.cls) (hlink : (Cond.methodLink own index arraycopyName).before args s = true) (hnat : (Cond.native arraycopyName).before args s = true) (hstat : (Cond.static arraycopyName).before args s = true) (hini : (Cond.initialized "java/lang/System").before args s = true) (hE : xE D G s) (hP : xW D aa I H) (hN : aa.flatten.Nodup) (hS : va_S (xA aa) H0 H locs) (k0 k1 : Nat) {a0 n0 n1 : Nat} {f g g' : Nat → Int32} (ha0 : I[k0]? = some [(a0, .inl (G 0, n0, .inl f))]) (ha1 : I[k1]? = some [(a, .inl (G 0, n1, .inl g))]) {sp dp n : Int32} (h1 : ¬ sp < 0) (h2 : ¬ dp < 0) (h3 : ¬ n < 0) (h4 : sp.toNatClampNeg + n.toNatClampNeg ≤ n0) (h5 : dp.toNatClampNeg + n.toNatClampNeg ≤ n1) (hframes : 1 ≤ R.frames) (hlocals : (rest.map fun v => v.category).sum + (nativeFrameWords "java/lang/System" "arraycopy" 5 + 11) ≤ R.locals) (he : g' = va_cpy f g sp.toNatClampNeg dp.toNatClampNeg n.toNatClampNeg) (hI : I.set k1 [(a, .inl (G 0, n1, .inl g'))] = I') (hdg : decode cc pc = .ok (.invokestatic index, 3))
    (kk : ∀ (H1 : Heap) (locs1 : List Loc), xW D aa I' H1 → va_S (xA aa) H0 H1 locs1 → W p l e R s m args below meth c H1 locs1 cells slots Q (F0 m (pc + 3) ls rest)) : W p l e R s m args below meth c H locs cells slots Q (F0 m pc ls (.int n :: .int dp :: .ref a :: .int sp :: .ref a0 :: rest)) := by
  subst he
  obtain ⟨hP, rfl⟩ := hP
  obtain ⟨q0, e0, -⟩ := x_pos I k0 _ 0 _ ha0 rfl
  obtain ⟨q1, e1, e2⟩ := x_pos I k1 _ 0 _ ha1 rfl
  refine va_copyi hexec hb hml hown hlink hnat hstat hini hE.1 hP (x_D hN (fun q h => h)) hS q0 q1 0 0 (ty := .int) e0 e1 rfl rfl rfl h1 h2 h3 h4 h5 (fun i _ => rfl) hframes hlocals hdg (fun H1 locs1 h1 h2 h3 => kk H1 locs1 ⟨?_, ?_⟩ h3)
  · rw [e2] at h1
    rw [← hI]
    exact h1
  · rw [← hI]
    exact x_setAA (j := 0) ha1 rfl
end XCOPY
