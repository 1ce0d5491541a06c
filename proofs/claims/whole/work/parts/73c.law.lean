def R_law : String := "DecreasingDiagramsLaw"
def lw_P (b : Addr) (xs : List Int32) (args : Array Value) (s : State) : Prop := args = #[.ref b] ∧ s.IntsAt b xs ∧ xs.length ≤ 2560 ∧ (Jvm.Cond.and given_1 narrow_1).before args s = true
def lw_Q (_ : Array Value) (s : State) (o : Outcome) (t : State) : Prop := o = .returned (some (.int 1)) ∧ Framed s o t [] 600000 7302249
def lw_Z (below : List Frame) (a : Array Value) (s : State) : State → Prop := fun t => ∃ o, t.status = .running ∧ Ended t below o ∧ lw_Q a s o t
/-- the law's own end, with 1 on the stack, nothing written that was there before, its room as the claim has it -/
theorem lw_ret {p : Program} {l : Launch} {e : Env} {s : State} {m : MethodId} {below : List Frame} {meth : Method} {c : Code} {b : Nat} (hx : p.tables.exec = Jvm.exec) (hb : c.code = code) (hr : meth.sig.returnType = ret) (hlocks : meth.locks = false) {pc : Nat} {H : Heap} {ls : Array Slot} (hdg : decode code pc = .ok (.ireturn, 1)) : W p l e room_1 s m #[Value.ref b] below meth c H [] 600000 7302249 (lw_Z below #[Value.ref b] s) (F0 m pc ls [.int 1]) := by
  intro T hT X
  obtain ⟨fs, hret, hrun, hended, hW, hframe⟩ := X.leave (v := some (.int 1)) (hlocks := hlocks) (fun h => by rw [hr] at h; cases h)
  have hmeth' : T.vm.method? m = some meth := X.method'
  refine ⟨T.setFrames fs, ?_, .returned (some (.int 1)), hrun, hended, rfl, ⟨_, rfl⟩, hW, hframe⟩
  jvm_step X.here [X.here.top, hx, hb, hdg, hmeth', hr, ret, narrow_b1]
  (try refine ⟨rfl, ?_⟩); (try refine ⟨rfl, ?_⟩)
  first | (intro acts; rw [hret _ acts rfl rfl rfl]) | rw [hret _ _ rfl rfl rfl]
  exact Steps.refl _
/-- what holds at the law's entry: the machine, the code, the tables' words (any of lw_tbl by 'hts w (by decide +kernel)'), the script of L ints xs at the cell b, what the Statement gives of the start (any of its parts by flat_of_before) -/
def lw_At (p : Program) (s : State) (m : MethodId) (meth : Method) (c : Code) (b L : Nat) (xs : Nat → Int32) : Prop :=
  p.tables.exec = Jvm.exec ∧ c.code = code ∧ meth.sig.returnType = ret ∧ c.maxLocals = 4 ∧ s.vm.findClass R_law = some m.cls ∧ (∀ w ∈ lw_tbl, w.before #[Value.ref b] s = true) ∧ va_X b L xs s s.heap ∧ b < s.heap.size ∧ meth.locks = false ∧ (Jvm.Cond.and given_1 narrow_1).before #[Value.ref b] s = true
def RelO (b p : Nat → Int32) (a m : Nat → Nat → Int32) : Prop := ∃ o, OrP o ∧ OrX b p o ∧ OrM a m o
def RelS (ox sx : Int32) (lx cx tx : Nat → Int32) (om sm : Int32) (lm cm tm : Nat → Int32) (wx le : Nat → Int32) (lt : Nat → Nat → Int32) : Prop := ∃ n m S T L, SyP n m S T L ∧ Sy n m S T L ox sx lx cx tx ∧ Sy n m S T L om sm lm cm tm ∧ WoR n wx le lt
def RelR (cx : Int32) (lf rg : Nat → Int32) (cm : Int32) (sl : Nat → Int32) (sd : Nat → Nat → Int32) : Prop := ∃ c L R, RuP c L R ∧ RuX c L R cx lf rg ∧ RuM c L R cm sl sd
def RelN (fx fm : Int32) (ox sx : Int32) (lx cx tx wx bx px : Nat → Int32) (rx : Int32) (lf rg : Nat → Int32) (om sm : Int32) (lm cm tm le : Nat → Int32) (lt pm : Nat → Nat → Int32) (rm : Int32) (sl : Nat → Int32) (sd : Nat → Nat → Int32) : Prop := (fx = 0 ∧ fm = 0) ∨ (fx = 1 ∧ fm = 1 ∧ ∃ n m S T L p c L2 R2, Blk n m S T L p c L2 R2 ox sx lx cx tx wx bx px rx lf rg om sm lm cm tm le lt pm rm sl sd)
def RelT (tl : Int32) (sg : Nat → Int32) (ol : Int32) (out : Nat → Int32) : Prop := ∃ l : List Nat, l.length ≤ 202 ∧ TxX l tl sg ∧ TxX l ol out
def RelI (ix : Int32) (bx : Nat → Int32) (im : Int32) (bm : Nat → Int32) : Prop := ∃ l : List Nat, InP l ∧ TxX l ix bx ∧ TxX l im bm
def RelA (zx : Nat → Int32) (vx : Nat → Nat → Int64) (zm : Nat → Int32) (vm : Nat → Nat → Int64) : Prop := ∃ K, ArR K zx vx zm vm
/-- what the class's state and the reference's have to do with each other between two calls -/
def Rel (v : Nat → Nat → Int32) (j : Nat → Nat → Int64) (w : Nat → Nat → Int32) (t : Nat → Nat → Nat → Int32) (q : Nat → Nat → Int64) : Prop :=
  RelO (v 3) (v 2) (t 4) (t 2) ∧ RelS (v 4 0) (v 4 2) (v 8) (v 6) (v 7) (w 0 2) (w 0 3) (w 7) (w 5) (w 6) (v 5) (w 8) (t 10) ∧ RelR (v 9 0) (v 10) (v 11) (w 0 25) (w 26) (t 25) ∧
  RelN (v 0 6) (w 0 40) (v 15 0) (v 15 2) (v 19) (v 17) (v 18) (v 16) (v 14) (v 13) (v 20 0) (v 21) (v 22) (w 0 41) (w 0 42) (w 41) (w 39) (w 40) (w 38) (t 44) (t 48) (w 0 43) (w 42) (t 46) ∧
  RelT (v 40 0) (v 41) (w 0 18) (w 18) ∧ FoR (v 42 4) (v 54) (w 0 20) (w 19) ∧ Rb (v 50) o_nat ∧ RelI (v 55 0) (v 56) (w 0 24) (w 23) ∧ FaR (v 57 1) (v 57 2) (v 57 3) (w 34) ∧ RelA (v 64) j (w 35) q
def LIn (x : Int32) (L : Nat) : Prop := vp_in (x + 1) L ∧ vp_in (x + 2) L ∧ vp_in (x + 3) L ∧ vp_in (x + 4) L
def LwS (p : Program) (s : State) (m : MethodId) (meth : Method) (c : Code) (b L : Nat) (xs : Nat → Int32) (D : va_G) (G : Nat → ClassId) (aX aM : List (List Nat)) : Prop := lw_At p s m meth c b L xs ∧ xE D G s ∧ aX.flatten.Nodup ∧ aM.flatten.Nodup ∧ (∀ q, q ∈ aX.flatten → ¬ q ∈ aM.flatten) ∧ (∀ q, q ∈ aX.flatten → s.heap.size ≤ q) ∧ (∀ q, q ∈ aM.flatten → s.heap.size ≤ q)
def LK (p : Program) (l : Launch) (e : Env) (s : State) (m : MethodId) (below : List Frame) (meth : Method) (c : Code) (b : Nat) (D : va_G) (G : Nat → ClassId) (aX aM : List (List Nat)) (hX : Nat → Nat) (rX : Nat → Nat → Nat) (hM : Nat → Nat) (rM : Nat → Nat → Nat) (pc : Nat) (ls : Array Slot) : Prop := ∀ (v : Nat → Nat → Int32) (j : Nat → Nat → Int64) (w : Nat → Nat → Int32) (t : Nat → Nat → Nat → Int32) (q : Nat → Nat → Int64) (H : Heap) (locs : List Loc), Rel v j w t q → xW D aX (IX G hX rX v j) H → xW D aM (IM G hM rM w t q) H → va_S (fun q : Nat => s.heap.size ≤ q) s.heap H locs → W p l e room_1 s m #[Value.ref b] below meth c H locs 600000 7302249 (lw_Z below #[Value.ref b] s) (F0 m pc ls [])
