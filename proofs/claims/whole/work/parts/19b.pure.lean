/-! ===== the input line ===== -/
def InP (l : List Nat) : Prop := l.length ≤ 20 ∧ ∀ c, c ∈ l → 1 ≤ c ∧ c ≤ 127
theorem TxX_nil (sg : Nat → Int32) : TxX [] 0 sg := ⟨rfl, fun i c h => by cases h⟩
theorem s_feed {l : List Nat} {ix im : Int32} {bx bm : Nat → Int32} (hl : InP l) (h1 : TxX l ix bx) (h2 : TxX l im bm) (v1 : Int32) : ∃ (r ix' im' : Int32) (bx' bm' : Nat → Int32) (l' : List Nat), f_X11_feed ix bx v1 = some (r, bx', ix') ∧ f_X12_feed im bm v1 = some (r, bm', im') ∧ InP l' ∧ TxX l' ix' bx' ∧ TxX l' im' bm' := by
  have a1 := h1.1
  have a2 := h2.1
  subst a1 a2
  have hl20 := hl.1
  unfold f_X11_feed f_X12_feed f_X12_isBetween f_X1_append
  by_cases c1 : v1 < 1
  · rw [if_pos c1, if_pos c1]
    exact ⟨_, _, _, _, _, l, rfl, rfl, hl, h1, h2⟩
  · rw [if_neg c1, if_neg c1]
    by_cases c2 : v1 ≤ 127
    · rw [if_pos c2, if_neg (Int32.not_lt.mpr c2)]
      simp only [Option.bind_some]
      rw [if_pos (show ¬ (1 : Int32) = 0 by decide)]
      have hn0 : ¬ v1 < 0 := fun h => c1 (by
        rw [Int32.lt_iff_toInt_lt] at h ⊢
        have e0 : (0 : Int32).toInt = 0 := by decide
        have e1 : (1 : Int32).toInt = 1 := by decide
        omega)
      obtain ⟨c, hc, rfl⟩ := nI_of2 (x := v1) (M := 127) (n := 127) (by decide) hn0 c2
      have hc1 : 1 ≤ c := by
        refine Nat.pos_of_ne_zero (fun h => c1 ?_)
        rw [h]
        decide
      rw [show (20 : Int32) = nI 20 from rfl]
      simp (disch := omega) only [nI_ltI, nI_leI, nI_eq]
      by_cases hf : l.length < 20
      · have g1 : ¬ 20 ≤ l.length := by omega
        have g2 : ¬ l.length = 20 := by omega
        simp (disch := omega) only [hf, g1, g2, not_false_eq_true, ↓reduceIte, ck_nI, nI_clamp, lt, nI_1, Option.bind_some]
        refine ⟨_, _, _, _, _, l ++ [c], rfl, rfl, ⟨by rw [List.length_append]; show l.length + 1 ≤ 20; omega, fun d hd => ?_⟩, TxX_app h1 c, TxX_app h2 c⟩
        rcases List.mem_append.mp hd with hd | hd
        · exact hl.2 d hd
        · rw [List.mem_singleton] at hd
          rw [hd]
          exact ⟨hc1, hc⟩
      · have g2 : l.length = 20 := by omega
        rw [if_neg hf, if_neg (fun h => h g2)]
        exact ⟨_, _, _, _, _, l, rfl, rfl, hl, h1, h2⟩
    · rw [if_neg c2, if_pos (Int32.not_le.mp c2)]
      exact ⟨_, _, _, _, _, l, rfl, rfl, hl, h1, h2⟩
/-- the letters that stand from a position on, at most so many -/
def wdA (l : List Nat) : Nat → Nat → List Nat
  | _, 0 => []
  | f, q + 1 => match l[f]? with
    | some c => if 97 ≤ c ∧ c ≤ 99 then (c - 96) :: wdA l (f + 1) q else []
    | none => []
theorem wdA_y {l : List Nat} {f q c : Nat} (h : l[f]? = some c) (hc : 97 ≤ c ∧ c ≤ 99) : wdA l f (q + 1) = (c - 96) :: wdA l (f + 1) q := by
  show (match l[f]? with | some c => if 97 ≤ c ∧ c ≤ 99 then (c - 96) :: wdA l (f + 1) q else [] | none => []) = _
  rw [h]
  exact if_pos hc
theorem wdA_n {l : List Nat} {f q c : Nat} (h : l[f]? = some c) (hc : ¬ (97 ≤ c ∧ c ≤ 99)) : wdA l f (q + 1) = [] := by
  show (match l[f]? with | some c => if 97 ≤ c ∧ c ≤ 99 then (c - 96) :: wdA l (f + 1) q else [] | none => []) = _
  rw [h]
  exact if_neg hc
theorem wdA_e {l : List Nat} {f q : Nat} (h : l[f]? = none) : wdA l f (q + 1) = [] := by
  show (match l[f]? with | some c => if 97 ≤ c ∧ c ≤ 99 then (c - 96) :: wdA l (f + 1) q else [] | none => []) = _
  rw [h]
theorem wdA_P (l : List Nat) : ∀ (q f : Nat), (wdA l f q).length ≤ q ∧ Wd (wdA l f q) ∧ ∀ i c, (wdA l f q)[i]? = some c → l[f + i]? = some (96 + c) := by
  intro q
  induction q with
  | zero => exact fun f => ⟨Nat.le_refl 0, Wd_nil, fun i c h => by cases h⟩
  | succ q ih =>
    intro f
    cases hf : l[f]? with
    | none =>
      rw [wdA_e hf]
      exact ⟨Nat.zero_le _, Wd_nil, fun i c h => by cases h⟩
    | some c =>
      by_cases hc : 97 ≤ c ∧ c ≤ 99
      · rw [wdA_y hf hc]
        obtain ⟨h1, h2, h3⟩ := ih (f + 1)
        refine ⟨by show (wdA l (f + 1) q).length + 1 ≤ q + 1; omega, Wd_cons.mpr ⟨by omega, h2⟩, fun i d hd => ?_⟩
        cases i with
        | zero =>
          have hd : some (c - 96) = some d := hd
          cases hd
          rw [Nat.add_zero, hf, show 96 + (c - 96) = c by omega]
        | succ i =>
          have hd : (wdA l (f + 1) q)[i]? = some d := hd
          have := h3 i d hd
          rw [show f + (i + 1) = f + 1 + i by omega]
          exact this
      · rw [wdA_n hf hc]
        exact ⟨Nat.zero_le _, Wd_nil, fun i c h => by cases h⟩
theorem wdA_in {l : List Nat} {q f : Nat} : f + (wdA l f q).length ≤ l.length ∨ (wdA l f q).length = 0 := by
  by_cases h0 : (wdA l f q).length = 0
  · exact Or.inr h0
  · left
    have hlt : (wdA l f q).length - 1 < (wdA l f q).length := by omega
    have h := (wdA_P l q f).2.2 ((wdA l f q).length - 1) ((wdA l f q)[(wdA l f q).length - 1]) (List.getElem?_eq_getElem hlt)
    have := (List.getElem?_eq_some_iff.mp h).1
    omega
theorem x_byteAt {l : List Nat} (hl : InP l) {bx : Nat → Int32} (h : TxX l (nI l.length) bx) {i : Nat} (hi : i < 100) : (∃ c, l[i]? = some c ∧ f_X1_byteAt (nI l.length) bx (nI i) = some (nI c)) ∨ (l[i]? = none ∧ f_X1_byteAt (nI l.length) bx (nI i) = some 0) := by
  have hl20 := hl.1
  unfold f_X1_byteAt
  rw [inN_if, inN_nI (by omega) (by omega)]
  by_cases hil : i < l.length
  · rw [decide_eq_true hil, if_pos rfl]
    have hc : l[i]? = some (l[i]) := List.getElem?_eq_getElem hil
    refine Or.inl ⟨l[i], hc, ?_⟩
    simp (disch := omega) only [ck_nI, nI_clamp]
    rw [h.2 i _ hc]
  · rw [decide_eq_false hil, if_neg (by decide)]
    exact Or.inr ⟨List.getElem?_eq_none (by omega), rfl⟩
theorem x_appW {u : List Nat} (hu : Wd u) (hl : u.length ≤ 8) {c : Nat} (hc : 97 ≤ c ∧ c ≤ 99) : f_X10_append (nI (enc u)) (nI u.length) (nI c) = some (nI (enc (u ++ [c - 96]))) := by
  unfold f_X10_append
  have e1 : nI c - 97 + 1 = nI (c - 96) := by
    rw [show nI c - 97 = nI (c - 97) from pk_sub (a := c) (b := 97) (by omega), nI_1]
    congr 1
    omega
  have h4 : 4 ^ u.length ≤ 4 ^ 8 := Nat.pow_le_pow_right (by decide) hl
  have h3 : (4 : Nat) ^ 8 = 65536 := by decide
  have b1 : (c - 96) * 4 ^ u.length < 2 ^ 32 := by
    have : (c - 96) * 4 ^ u.length ≤ 3 * 4 ^ u.length := Nat.mul_le_mul_right _ (by omega)
    omega
  rw [e1, w_shl (by omega) b1, nI_or, ← p24, or_add (by rw [p24]; exact enc_lt hu), enc_app, p24]
  rfl
theorem x_wordAt (fu : Nat) (hfu : 32 < fu) {l : List Nat} (hl : InP l) {bx : Nat → Int32} (h : TxX l (nI l.length) bx) {f q : Nat} (hf : f < 50) (hq : q ≤ 8) : f_X1_wordAt fu (nI l.length) bx (nI f) (nI q) = some (nI (enc (wdA l f q))) := by
  have : tot (f_X1_wordAt fu (nI l.length) bx (nI f) (nI q)) (fun r => r = nI (enc (wdA l f q))) := by
    unfold f_X1_wordAt
    refine tot_lt (tot_lt (lw2 (fun k v3 v4 => ∃ i u, v4 = nI i ∧ i + k = q ∧ v3 = nI (enc u) ∧ u.length = i ∧ Wd u ∧ wdA l f q = u ++ wdA l (f + i) (q - i)) ?_ fu q _ _ (by omega) ⟨0, [], rfl, by omega, rfl, rfl, Wd_nil, rfl⟩))
    rintro r k v3 v4 ⟨i, u, rfl, hi, rfl, hu, hw, he⟩ ih
    unfold f_X1_wordAt_L5
    by_cases hiq : i = q
    · subst hiq
      rw [if_pos (nI_le (Nat.le_refl i) (by omega))]
      rw [Nat.sub_self, show wdA l (f + i) 0 = [] from rfl, List.append_nil] at he
      exact tot_some (by rw [he])
    · rw [if_neg (nI_ge (a := i) (by omega) (by omega)), nI_add]
      obtain ⟨q', hq'⟩ : ∃ z, q - i = z + 1 := ⟨q - i - 1, by omega⟩
      rw [hq'] at he
      rcases x_byteAt hl h (i := f + i) (by omega) with ⟨c, g1, g2⟩ | ⟨g1, g2⟩
      · rw [g2]
        have hcm := hl.2 c (List.mem_of_getElem? g1)
        simp only [Option.bind_some, lt]
        rw [show (97 : Int32) = nI 97 from rfl, show (99 : Int32) = nI 99 from rfl]
        simp (disch := omega) only [nI_ltI, nI_leI]
        by_cases hc : 97 ≤ c ∧ c ≤ 99
        · rw [if_neg (by omega), if_pos hc.2, ← hu, x_appW hw (by omega) hc]
          simp only [Option.bind_some, nI_1]
          rw [wdA_y g1 hc] at he
          refine ih (k - 1) _ _ (by omega) ⟨u.length + 1, u ++ [c - 96], rfl, by omega, rfl, by rw [List.length_append]; rfl, Wd_app.mpr ⟨hw, Wd_cons.mpr ⟨by omega, Wd_nil⟩⟩, ?_⟩
          rw [he, show q - (u.length + 1) = q' by omega, show f + (u.length + 1) = f + i + 1 by omega, List.append_assoc]
          rfl
        · rw [wdA_n g1 hc, List.append_nil] at he
          by_cases h97 : c < 97
          · rw [if_pos h97]
            exact tot_some (by rw [he])
          · rw [if_neg h97, if_neg (by omega)]
            exact tot_some (by rw [he])
      · rw [g2]
        simp only [Option.bind_some, lt]
        rw [wdA_e g1, List.append_nil] at he
        rw [if_pos (by decide)]
        exact tot_some (by rw [he])
  obtain ⟨r, e1, e2⟩ := this
  rw [e1, e2]
theorem m_letters (fu : Nat) (hfu : 32 < fu) {l : List Nat} (hl : InP l) {bm : Nat → Int32} (h : TxX l (nI l.length) bm) {f q : Nat} (hf : f < 50) (hq : q ≤ 8) : f_X12_lettersIn fu bm (nI l.length) (nI f) (nI q) = some (nI (wdA l f q).length, 0) := by
  have hl20 := hl.1
  have : tot (f_X12_lettersFrom fu (nI l.length) bm (nI f) (nI q)) (fun r => r = nI (wdA l f q).length) := by
    unfold f_X12_lettersFrom
    refine tot_lt (lw1 (fun k v3 => ∃ i, v3 = nI i ∧ i + k = q ∧ (wdA l f q).length = i + (wdA l (f + i) (q - i)).length) ?_ fu q _ (by omega) ⟨0, rfl, by omega, by rw [Nat.zero_add]; rfl⟩)
    rintro r k v3 ⟨i, rfl, hi, he⟩ ih
    unfold f_X12_lettersFrom_L2 f_X12_isLetterAt
    by_cases hiq : i = q
    · subst hiq
      rw [if_pos (nI_le (Nat.le_refl i) (by omega))]
      rw [Nat.sub_self, show wdA l (f + i) 0 = [] from rfl] at he
      exact tot_some (by rw [he]; rfl)
    · rw [if_neg (nI_ge (a := i) (by omega) (by omega)), nI_add]
      obtain ⟨q', hq'⟩ : ∃ z, q - i = z + 1 := ⟨q - i - 1, by omega⟩
      rw [hq'] at he
      by_cases hfl : l.length ≤ f + i
      · rw [if_pos (nI_le hfl (by omega))]
        simp only [Option.bind_some]
        rw [if_pos trivial]
        rw [wdA_e (List.getElem?_eq_none hfl)] at he
        exact tot_some (by rw [he]; rfl)
      · rw [if_neg (nI_ge (a := f + i) (by omega) (by omega))]
        have hc : l[f + i]? = some (l[f + i]'(by omega)) := List.getElem?_eq_getElem (by omega)
        generalize l[f + i]'(by omega) = c at hc
        have hcm := hl.2 c (List.mem_of_getElem? hc)
        simp (disch := omega) only [ck_nI, nI_clamp]
        rw [h.2 _ c hc]
        unfold f_X12_isBetween
        rw [show (97 : Int32) = nI 97 from rfl, show (99 : Int32) = nI 99 from rfl]
        simp (disch := omega) only [nI_ltI]
        by_cases hcl : 97 ≤ c ∧ c ≤ 99
        · rw [if_neg (by omega), if_neg (by omega)]
          simp only [Option.bind_some]
          rw [if_neg (show ¬ (1 : Int32) = 0 by decide)]
          simp only [Option.bind_some]
          rw [if_neg (show ¬ (1 : Int32) = 0 by decide)]
          refine tot_lt ?_
          rw [nI_1]
          rw [wdA_y hc hcl] at he
          refine ih (k - 1) _ (by omega) ⟨i + 1, rfl, by omega, ?_⟩
          rw [he, show q - (i + 1) = q' by omega, show f + (i + 1) = f + i + 1 by omega]
          show i + ((wdA l (f + i + 1) q').length + 1) = _
          omega
        · rw [wdA_n hc hcl] at he
          by_cases h97 : c < 97
          · rw [if_pos h97]
            exact tot_some (by rw [he]; rfl)
          · rw [if_neg h97, if_pos (by omega)]
            exact tot_some (by rw [he]; rfl)
  obtain ⟨r, e1, e2⟩ := this
  unfold f_X12_lettersIn
  simp only [lt]
  rw [e1, e2]
  rfl
