/-! ===== snapshot ===== -/
theorem m_copyTable (fu : Nat) {N w : Nat} (hfu : N < fu) (hfw : w < fu) (hN : N < 2 ^ 31) (hw : w < 2 ^ 31) (p0 p1 : Nat → Nat → Int32) : tot (f_X12_copyTable fu p0 p1 N w N w) (fun o => ∀ i, i < N → ∀ j, j < w → o i j = p0 i j) := by
  unfold f_X12_copyTable
  refine tot_lt (lw2 (fun k v o => ∃ i, v = nI i ∧ i + k = N ∧ ∀ a, a < i → ∀ j, j < w → o a j = p0 a j) ?_ fu N _ _ hfu ⟨0, rfl, by omega, fun j h => absurd h (Nat.not_lt_zero j)⟩)
  rintro r k v o ⟨i, rfl, hi, ho⟩ ih
  unfold f_X12_copyTable_L2
  rw [show Int32.ofNat N = nI N from rfl]
  by_cases hin : i = N
  · subst hin
    rw [if_pos (nI_le (Nat.le_refl i) (by omega))]
    exact tot_some ho
  · rw [if_neg (nI_ge (a := i) (by omega) (by omega))]
    simp (disch := omega) only [ck_nI, nI_clamp, lt, nI_1]
    obtain ⟨row, e1, e2⟩ := m_copyRow fu hfw hw (p0 i) (o i)
    rw [e1]
    simp only [Option.bind_some]
    refine ih (k - 1) _ _ (by omega) ⟨i + 1, rfl, by omega, fun a ha j hj => ?_⟩
    rw [va_up_e]
    by_cases hai : a = i
    · rw [if_pos hai, hai]
      exact e2 j hj
    · rw [if_neg hai]
      exact ho a (by omega) j hj
theorem Sy_cp {n m : Nat} {S T L : Nat → Nat} {o s : Int32} {lab src tgt lab' src' tgt' : Nat → Int32} (hm : m ≤ 32) (h : Sy n m S T L o s lab src tgt) (h1 : ∀ i, i < 32 → lab' i = lab i) (h2 : ∀ i, i < 32 → src' i = src i) (h3 : ∀ i, i < 32 → tgt' i = tgt i) : Sy n m S T L o s lab' src' tgt' :=
  ⟨h.1, h.2.1, fun i hi => (h1 i (by omega)).trans (h.2.2.1 i hi), fun i hi => (h2 i (by omega)).trans (h.2.2.2.1 i hi), fun i hi => (h3 i (by omega)).trans (h.2.2.2.2 i hi)⟩
theorem WoR_cp {n : Nat} (hn : n ≤ 16) {w l w' l' : Nat → Int32} {M M' : Nat → Nat → Int32} (h : WoR n w l M) (h1 : ∀ i, i < 16 → w' i = w i) (h2 : ∀ i, i < 16 → l' i = l i) (h3 : ∀ i, i < 16 → ∀ j, j < 8 → M' i j = M i j) : WoR n w' l' M' := by
  intro i hi
  rw [h1 i (by omega), h2 i (by omega)]
  rcases h i hi with g | ⟨u, g1, g2, g3, g4⟩
  · exact Or.inl g
  · refine Or.inr ⟨u, g1, g2, g3, g4.1, fun k c hk => ?_⟩
    have := (List.getElem?_eq_some_iff.mp hk).1
    rw [h3 i (by omega) k (by omega)]
    exact g4.2 k c hk
theorem Rb_cp {f f' : Nat → Int32} {p : Nat → Nat → Bool} (h : Rb f p) (h1 : ∀ i, i < 8 → f' i = f i) : Rb f' p := fun i hi j hj => by rw [h1 i hi]; exact h i hi j hj
theorem RuX_cp {c : Nat} (hc : c ≤ 6) {RL RR : Nat → List Nat} {cx : Int32} {lf rg lf' rg' : Nat → Int32} (h : RuX c RL RR cx lf rg) (h1 : ∀ i, i < 6 → lf' i = lf i) (h2 : ∀ i, i < 6 → rg' i = rg i) : RuX c RL RR cx lf' rg' := ⟨h.1, fun i hi => by rw [h1 i (by omega), h2 i (by omega)]; exact h.2 i hi⟩
theorem wdM_cp {w : List Nat} (hw : w.length ≤ 4) {l l' : Int32} {r r' : Nat → Int32} (h : wdM w l r) (h1 : l' = l) (h2 : ∀ j, j < 4 → r' j = r j) : wdM w l' r' := ⟨h1.trans h.1, fun k c hk => by
  have := (List.getElem?_eq_some_iff.mp hk).1
  rw [h2 k (by omega)]
  exact h.2 k c hk⟩
theorem RuM_cp {c : Nat} {RL RR : Nat → List Nat} (hr : RuP c RL RR) {cm : Int32} {sl sl' : Nat → Int32} {sd sd' : Nat → Nat → Int32} (h : RuM c RL RR cm sl sd) (h1 : ∀ i, i < 12 → sl' i = sl i) (h2 : ∀ i, i < 12 → ∀ j, j < 4 → sd' i j = sd i j) : RuM c RL RR cm sl' sd' := ⟨h.1, fun i hi => by
  have hc := hr.1
  obtain ⟨_, _, a1, _, a2⟩ := hr.2 i hi
  exact ⟨wdM_cp a1 (h.2 i hi).1 (h1 _ (by omega)) (h2 _ (by omega)), wdM_cp a2 (h.2 i hi).2 (h1 _ (by omega)) (h2 _ (by omega))⟩⟩
/-- a system, an order and rules, in the class and in the reference -/
def Blk (n m : Nat) (S T L : Nat → Nat) (p : Nat → Nat → Bool) (c : Nat) (RL RR : Nat → List Nat) (ox sx : Int32) (lx cx tx wx bx px : Nat → Int32) (rx : Int32) (lf rg : Nat → Int32) (om sm : Int32) (lm cm tm le : Nat → Int32) (ltb pm : Nat → Nat → Int32) (rm : Int32) (sl : Nat → Int32) (sd : Nat → Nat → Int32) : Prop :=
  SyP n m S T L ∧ Sy n m S T L ox sx lx cx tx ∧ Sy n m S T L om sm lm cm tm ∧ WoR n wx le ltb ∧ OrP p ∧ OrX bx px p ∧ Rt pm p ∧ RuP c RL RR ∧ RuX c RL RR rx lf rg ∧ RuM c RL RR rm sl sd
theorem s_saveSnapshot (fu : Nat) (hfu : 32 < fu) {n m : Nat} {S T L : Nat → Nat} {p : Nat → Nat → Bool} {c : Nat} {RL RR : Nat → List Nat} {ox sx : Int32} {lx cx tx wx bx px : Nat → Int32} {rx : Int32} {lf rg : Nat → Int32} {om sm : Int32} {lm cm tm le : Nat → Int32} {ltb pm : Nat → Nat → Int32} {rm : Int32} {sl : Nat → Int32} {sd : Nat → Nat → Int32} (h : Blk n m S T L p c RL RR ox sx lx cx tx wx bx px rx lf rg om sm lm cm tm le ltb pm rm sl sd) (b1 p1 lf1 rg1 l1 c1 t1 w1 l2 le2 sl2 c2 t2 : Nat → Int32) (lt2 p2 sd2 : Nat → Nat → Int32) :
    ∃ (r : Int32) (V1 : Nat → Int32) (V2 : Nat → Nat → Int32) (W1 : Nat → Int32) (W2 : Nat → Nat → Int32) (W3 : Nat → Nat → Nat → Int32), f_X11_saveSnapshot rx ox sx bx px lf rg b1 p1 lf1 rg1 l1 c1 t1 w1 lx cx tx wx = some (r, V1, V2) ∧ f_X12_saveSnapshot fu om sm rm lm le ltb pm l2 le2 lt2 p2 sl2 sd2 c2 t2 sl sd cm tm = some (r, W1, W2, W3) ∧ V1 3 = 1 ∧ W1 0 = 1 ∧ Blk n m S T L p c RL RR (V1 1) (V1 2) (V2 4) (V2 5) (V2 6) (V2 7) (V2 0) (V2 1) (V1 0) (V2 2) (V2 3) (W1 1) (W1 3) (W2 0) (W2 3) (W2 4) (W2 1) (W3 0) (W3 1) (W1 2) (W2 2) (W3 2) := by
  obtain ⟨h1, h2, h3, h4, h5, h6, h7, h8, h9, h10⟩ := h
  have hn := h1.1
  have hm := h1.2.1
  have hc := h8.1
  obtain ⟨r1, e1, d1⟩ := m_copyRow fu (N := 16) (by omega) (by decide) le le2
  obtain ⟨r2, e2, d2⟩ := m_copyRow fu (N := 32) (by omega) (by decide) cm c2
  obtain ⟨r3, e3, d3⟩ := m_copyRow fu (N := 32) (by omega) (by decide) tm t2
  obtain ⟨r4, e4, d4⟩ := m_copyRow fu (N := 32) (by omega) (by decide) lm l2
  obtain ⟨r5, e5, d5⟩ := m_copyRow fu (N := 12) (by omega) (by decide) sl sl2
  obtain ⟨r6, e6, d6⟩ := m_copyTable fu (N := 16) (w := 8) (by omega) (by omega) (by decide) (by decide) ltb lt2
  obtain ⟨r7, e7, d7⟩ := m_copyTable fu (N := 12) (w := 4) (by omega) (by omega) (by decide) (by decide) sd sd2
  obtain ⟨r8, e8, d8⟩ := m_copyPairs fu (by omega) h7 p2
  have a1 := h2.1
  have a2 := h3.1
  refine ⟨om, vv (0 : Int32) [rx, ox, sx, 1], vv (fun _ => (0 : Int32)) [va_cpy bx b1 0 0 8, va_cpy px p1 0 0 8, va_cpy lf lf1 0 0 6, va_cpy rg rg1 0 0 6, va_cpy lx l1 0 0 32, va_cpy cx c1 0 0 32, va_cpy tx t1 0 0 32, va_cpy wx w1 0 0 16], vv (0 : Int32) [1, om, rm, sm], vv (fun _ => (0 : Int32)) [r4, r1, r5, r2, r3], vv (fun _ _ => (0 : Int32)) [r6, r8, r7], ?_, ?_, rfl, rfl, ?_⟩
  · rw [a2, ← a1]
    rfl
  · unfold f_X12_saveSnapshot
    simp only [lt]
    show (f_X12_copyRow fu le le2 16 16).bind _ = _
    rw [e1]
    show (f_X12_copyRow fu cm c2 32 32).bind _ = _
    rw [e2]
    show (f_X12_copyRow fu tm t2 32 32).bind _ = _
    rw [e3]
    show (f_X12_copyRow fu lm l2 32 32).bind _ = _
    rw [e4]
    show (f_X12_copyRow fu sl sl2 12 12).bind _ = _
    rw [e5]
    show (f_X12_copyTable fu ltb lt2 16 8 16 8).bind _ = _
    rw [e6]
    show (f_X12_copyTable fu sd sd2 12 4 12 4).bind _ = _
    rw [e7]
    show (f_X12_copyPairs fu pm p2 8 8 8 8).bind _ = _
    rw [e8]
    rfl
  · refine ⟨h1, Sy_cp hm h2 (fun i hi => cpy_e _ _ _ _ hi) (fun i hi => cpy_e _ _ _ _ hi) (fun i hi => cpy_e _ _ _ _ hi), Sy_cp hm h3 d4 d2 d3, WoR_cp hn h4 (fun i hi => cpy_e _ _ _ _ hi) d1 d6, h5, ⟨Rb_cp h6.1 (fun i hi => cpy_e _ _ _ _ hi), Rb_cp h6.2 (fun i hi => cpy_e _ _ _ _ hi)⟩, d8, h8, RuX_cp hc h9 (fun i hi => cpy_e _ _ _ _ hi) (fun i hi => cpy_e _ _ _ _ hi), RuM_cp h8 h10 d5 d7⟩
theorem s_restoreSnapshot (fu : Nat) (hfu : 32 < fu) {n m : Nat} {S T L : Nat → Nat} {p : Nat → Nat → Bool} {c : Nat} {RL RR : Nat → List Nat} {ox sx : Int32} {lx cx tx wx bx px : Nat → Int32} {rx : Int32} {lf rg : Nat → Int32} {om sm : Int32} {lm cm tm le : Nat → Int32} {ltb pm : Nat → Nat → Int32} {rm : Int32} {sl : Nat → Int32} {sd : Nat → Nat → Int32} (h : Blk n m S T L p c RL RR ox sx lx cx tx wx bx px rx lf rg om sm lm cm tm le ltb pm rm sl sd) (rx1 ox1 sx1 om1 sm1 rm1 : Int32) (b1 p1 lf1 rg1 l1 c1 t1 w1 l2 le2 sl2 c2 t2 : Nat → Int32) (lt2 p2 sd2 ab2 : Nat → Nat → Int32) :
    ∃ (r : Int32) (V1 : Nat → Int32) (V2 : Nat → Nat → Int32) (W1 : Nat → Int32) (W2 : Nat → Nat → Int32) (W3 : Nat → Nat → Nat → Int32), f_X11_restoreSnapshot 1 rx1 rx ox sx ox1 sx1 b1 p1 lf1 rg1 bx px lf rg lx cx tx wx l1 c1 t1 w1 = some (r, V1, V2) ∧ f_X12_restoreSnapshot fu om1 sm1 rm1 1 om sm rm ab2 l2 le2 lt2 p2 lm le ltb pm sl sd cm tm sl2 sd2 c2 t2 = some (r, W1, W2, W3) ∧ Blk n m S T L p c RL RR (V1 1) (V1 2) (V2 4) (V2 5) (V2 6) (V2 7) (V2 0) (V2 1) (V1 0) (V2 2) (V2 3) (W1 0) (W1 2) (W2 0) (W2 3) (W2 4) (W2 1) (W3 1) (W3 2) (W1 1) (W2 2) (W3 3) ∧ OrM (W3 0) (W3 2) p := by
  obtain ⟨h1, h2, h3, h4, h5, h6, h7, h8, h9, h10⟩ := h
  have hn := h1.1
  have hm := h1.2.1
  have hc := h8.1
  obtain ⟨r1, e1, d1⟩ := m_copyRow fu (N := 16) (by omega) (by decide) le le2
  obtain ⟨r2, e2, d2⟩ := m_copyRow fu (N := 32) (by omega) (by decide) cm c2
  obtain ⟨r3, e3, d3⟩ := m_copyRow fu (N := 32) (by omega) (by decide) tm t2
  obtain ⟨r4, e4, d4⟩ := m_copyRow fu (N := 32) (by omega) (by decide) lm l2
  obtain ⟨r5, e5, d5⟩ := m_copyRow fu (N := 12) (by omega) (by decide) sl sl2
  obtain ⟨r6, e6, d6⟩ := m_copyTable fu (N := 16) (w := 8) (by omega) (by omega) (by decide) (by decide) ltb lt2
  obtain ⟨r7, e7, d7⟩ := m_copyTable fu (N := 12) (w := 4) (by omega) (by omega) (by decide) (by decide) sd sd2
  obtain ⟨r8, e8, d8⟩ := m_copyPairs fu (by omega) h7 p2
  obtain ⟨r9, e9, d9⟩ := m_close fu (by omega) ab2 r8 p d8
  have a1 := h2.1
  have a2 := h3.1
  refine ⟨om, vv (0 : Int32) [rx, ox, sx], vv (fun _ => (0 : Int32)) [va_cpy bx b1 0 0 8, va_cpy px p1 0 0 8, va_cpy lf lf1 0 0 6, va_cpy rg rg1 0 0 6, va_cpy lx l1 0 0 32, va_cpy cx c1 0 0 32, va_cpy tx t1 0 0 32, va_cpy wx w1 0 0 16], vv (0 : Int32) [om, rm, sm], vv (fun _ => (0 : Int32)) [r4, r1, r5, r2, r3], vv (fun _ _ => (0 : Int32)) [r9, r6, r8, r7], ?_, ?_, ?_, d9, d8⟩
  · rw [a2, ← a1]
    rfl
  · unfold f_X12_restoreSnapshot
    rw [if_pos (show ¬ (1 : Int32) = 0 by decide)]
    simp only [lt]
    show (f_X12_copyRow fu le le2 16 16).bind _ = _
    rw [e1]
    show (f_X12_copyRow fu cm c2 32 32).bind _ = _
    rw [e2]
    show (f_X12_copyRow fu tm t2 32 32).bind _ = _
    rw [e3]
    show (f_X12_copyRow fu lm l2 32 32).bind _ = _
    rw [e4]
    show (f_X12_copyRow fu sl sl2 12 12).bind _ = _
    rw [e5]
    show (f_X12_copyTable fu ltb lt2 16 8 16 8).bind _ = _
    rw [e6]
    show (f_X12_copyTable fu sd sd2 12 4 12 4).bind _ = _
    rw [e7]
    show (f_X12_copyPairs fu pm p2 8 8 8 8).bind _ = _
    rw [e8]
    show (f_X12_closeOrder fu ab2 r8).bind _ = _
    rw [e9]
    rfl
  · exact ⟨h1, Sy_cp hm h2 (fun i hi => cpy_e _ _ _ _ hi) (fun i hi => cpy_e _ _ _ _ hi) (fun i hi => cpy_e _ _ _ _ hi), Sy_cp hm h3 d4 d2 d3, WoR_cp hn h4 (fun i hi => cpy_e _ _ _ _ hi) d1 d6, h5, ⟨Rb_cp h6.1 (fun i hi => cpy_e _ _ _ _ hi), Rb_cp h6.2 (fun i hi => cpy_e _ _ _ _ hi)⟩, d8, h8, RuX_cp hc h9 (fun i hi => cpy_e _ _ _ _ hi) (fun i hi => cpy_e _ _ _ _ hi), RuM_cp h8 h10 d5 d7⟩
