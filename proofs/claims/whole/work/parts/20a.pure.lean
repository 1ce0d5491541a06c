/-! ===== exploring: what both sides ask of words and steps ===== -/
def Jd (m : Nat) (S T L : Nat → Nat) (o t r : Nat) : Prop := ∃ s, s < m ∧ S s = o ∧ T s = t ∧ L s = r
theorem x_joined (fu : Nat) (hfu : 32 < fu) {n m : Nat} {S T L : Nat → Nat} {ox sx : Int32} {lx cx tx : Nat → Int32} (hp : SyP n m S T L) (hx : Sy n m S T L ox sx lx cx tx) {o t r : Nat} (ho : o < 100) (ht : t < 100) (hr : r < 100) : tot (f_X3_isJoined fu sx lx cx tx (nI o) (nI t) (nI r)) (fun q => (q = 1 ∧ Jd m S T L o t r) ∨ (q = 0 ∧ ¬ Jd m S T L o t r)) := by
  have hm := hp.2.1
  have hn := hp.1
  obtain ⟨rfl, rfl, hl, hc, htt⟩ := hx
  unfold f_X3_isJoined
  refine tot_lt (lw1 (fun k v => ∃ i, v = nI i ∧ i + k = m ∧ ∀ s, s < i → ¬ (S s = o ∧ T s = t ∧ L s = r)) ?_ fu m _ (by omega) ⟨0, rfl, by omega, fun s h => absurd h (Nat.not_lt_zero s)⟩)
  rintro rr k v ⟨i, rfl, hi, hv⟩ ih
  unfold f_X3_isJoined_L3 f_X3_isJoined_J47
  by_cases him : i = m
  · subst him
    rw [if_pos (nI_le (Nat.le_refl i) (by omega))]
    exact tot_some (Or.inr ⟨rfl, fun ⟨s, h1, h2⟩ => hv s h1 h2⟩)
  · rw [if_neg (nI_ge (a := i) (by omega) (by omega))]
    have hS := hp.2.2 i (by omega)
    have skip : ¬ (S i = o ∧ T i = t ∧ L i = r) → tot (rr (nI (i + 1))) (fun q => (q = 1 ∧ Jd m S T L o t r) ∨ (q = 0 ∧ ¬ Jd m S T L o t r)) := fun hno => ih (k - 1) _ (by omega) ⟨i + 1, rfl, by omega, fun s hs => by
      by_cases hsi : s = i
      · subst hsi
        exact hno
      · exact hv s (by omega)⟩
    simp (disch := omega) only [ck_nI, nI_clamp, lt, nI_1]
    rw [hc i (by omega), htt i (by omega), hl i (by omega)]
    simp (disch := omega) only [nI_eq]
    by_cases h1 : S i = o
    · rw [if_neg (fun h => h h1)]
      by_cases h2 : T i = t
      · rw [if_neg (fun h => h h2)]
        by_cases h3 : L i = r
        · rw [if_neg (fun h => h h3)]
          exact tot_some (Or.inl ⟨rfl, i, by omega, h1, h2, h3⟩)
        · rw [if_pos h3]
          exact skip (fun h => h3 h.2.2)
      · rw [if_pos h2]
        exact skip (fun h => h2 h.2.1)
    · rw [if_pos h1]
      exact skip (fun h => h1 h.1)
theorem m_joined (fu : Nat) (hfu : 32 < fu) {n m : Nat} {S T L : Nat → Nat} {ox sx : Int32} {lx cx tx : Nat → Int32} (hp : SyP n m S T L) (hx : Sy n m S T L ox sx lx cx tx) {o t r : Nat} (ho : o < 100) (ht : t < 100) (hr : r < 100) : tot (f_X12_hasStep fu sx lx cx tx (nI o) (nI t) (nI r)) (fun q => (q = 1 ∧ Jd m S T L o t r) ∨ (q = 0 ∧ ¬ Jd m S T L o t r)) := x_joined fu hfu hp hx ho ht hr
/-- the draft: words W, in the class as numbers, in the reference as rows -/
def DrW (n : Nat) (W : Nat → List Nat) (dw nl : Nat → Int32) (nt : Nat → Nat → Int32) : Prop := ∀ i, i < n → Wd (W i) ∧ (W i).length ≤ 8 ∧ dw i = nI (enc (W i)) ∧ wdM (W i) (nl i) (nt i)
theorem x_objOf (fu : Nat) (hfu : 32 < fu) {n : Nat} (hn : n ≤ 16) {W : Nat → List Nat} {dw nl : Nat → Int32} {nt : Nat → Nat → Int32} (hW : DrW n W dw nl nt) {w : List Nat} (hw : Wd w) (hwl : w.length ≤ 15) : tot (f_X3_objectOf fu (nI n) dw (nI (enc w))) (fun r => (r = -2 ∧ ∀ i, i < n → W i ≠ w) ∨ ∃ t, t < n ∧ r = nI t ∧ W t = w ∧ ∀ i, i < t → W i ≠ w) := by
  have hew := enc_31 hw hwl
  unfold f_X3_objectOf
  refine tot_lt (lw1 (fun k v => ∃ i, v = nI i ∧ i + k = n ∧ ∀ j, j < i → W j ≠ w) ?_ fu n _ (by omega) ⟨0, rfl, by omega, fun s h => absurd h (Nat.not_lt_zero s)⟩)
  rintro rr k v ⟨i, rfl, hi, hv⟩ ih
  unfold f_X3_objectOf_L2
  by_cases hin : i = n
  · subst hin
    rw [if_pos (nI_le (Nat.le_refl i) (by omega))]
    exact tot_some (Or.inl ⟨rfl, hv⟩)
  · rw [if_neg (nI_ge (a := i) (by omega) (by omega))]
    obtain ⟨g1, g2, g3, g4⟩ := hW i (by omega)
    have he := enc_31 g1 (show (W i).length ≤ 15 by omega)
    simp (disch := omega) only [ck_nI, nI_clamp, lt, nI_1]
    rw [g3]
    simp (disch := omega) only [nI_eq]
    by_cases hc : W i = w
    · rw [if_neg (fun h => h (by rw [hc]))]
      exact tot_some (Or.inr ⟨i, by omega, rfl, hc, hv⟩)
    · rw [if_pos (fun h => hc (enc_inj g1 hw h))]
      refine ih (k - 1) _ (by omega) ⟨i + 1, rfl, by omega, fun j hj => ?_⟩
      by_cases hji : j = i
      · subst hji
        exact hc
      · exact hv j (by omega)
theorem m_isWordOf (fu : Nat) (hfu : 32 < fu) {n : Nat} (hn : n ≤ 16) {W : Nat → List Nat} {dw nl : Nat → Int32} {nt : Nat → Nat → Int32} (hW : DrW n W dw nl nt) {w : List Nat} (hw : Wd w) (hwl : w.length ≤ 8) {ws : Int32} {word : Nat → Int32} (hm : wdM w ws word) {i : Nat} (hi : i < n) : tot (f_X12_isWordOf fu ws nl nt word (nI i)) (fun r => (r = 1 ∧ W i = w) ∨ (r = 0 ∧ W i ≠ w)) := by
  obtain ⟨g1, g2, g3, g4, g5⟩ := hW i hi
  obtain ⟨rfl, h2⟩ := hm
  unfold f_X12_isWordOf
  simp (disch := omega) only [ck_nI, nI_clamp, g4, nI_eq]
  by_cases hlen : (W i).length = w.length
  · rw [if_pos hlen]
    refine tot_lt (lw1 (fun k v => ∃ j, v = nI j ∧ j + k = w.length ∧ ∀ x, x < j → (W i)[x]? = w[x]?) ?_ fu w.length _ (by omega) ⟨0, rfl, by omega, fun s h => absurd h (Nat.not_lt_zero s)⟩)
    rintro rr k v ⟨j, rfl, hj, hv⟩ ih
    unfold f_X12_isWordOf_L17
    by_cases hjw : j = w.length
    · rw [if_pos (nI_le (show w.length ≤ j by omega) (by omega))]
      refine tot_some (Or.inl ⟨rfl, List.ext_getElem? (fun x => ?_)⟩)
      rcases Nat.lt_or_ge x w.length with hx | hx
      · exact hv x (by omega)
      · rw [List.getElem?_eq_none hx, List.getElem?_eq_none (by omega)]
    · rw [if_neg (nI_ge (a := j) (by omega) (by omega))]
      have hc1 : (W i)[j]? = some ((W i)[j]'(by omega)) := List.getElem?_eq_getElem (by omega)
      have hc2 : w[j]? = some (w[j]'(by omega)) := List.getElem?_eq_getElem (by omega)
      generalize (W i)[j]'(by omega) = c1 at hc1
      generalize w[j]'(by omega) = c2 at hc2
      have b1 := g1 c1 (List.mem_of_getElem? hc1)
      have b2 := hw c2 (List.mem_of_getElem? hc2)
      simp (disch := omega) only [ck_nI, nI_clamp, lt, nI_1]
      rw [g5 j c1 hc1, h2 j c2 hc2]
      simp (disch := omega) only [nI_eq]
      by_cases hcc : 96 + c1 = 96 + c2
      · rw [if_pos hcc]
        refine ih (k - 1) _ (by omega) ⟨j + 1, rfl, by omega, fun x hx => ?_⟩
        by_cases hxj : x = j
        · rw [hxj, hc1, hc2, show c1 = c2 by omega]
        · exact hv x (by omega)
      · rw [if_neg hcc]
        refine tot_some (Or.inr ⟨rfl, fun he => ?_⟩)
        rw [he, hc2] at hc1
        cases hc1
        exact hcc rfl
  · rw [if_neg hlen]
    exact tot_some (Or.inr ⟨rfl, fun h => hlen (by rw [h])⟩)
theorem m_addWord (fu : Nat) (hfu : 32 < fu) {n : Nat} (hn : n < 16) {w : List Nat} (hwl : w.length ≤ 8) {ws : Int32} {word nl : Nat → Int32} {nt : Nat → Nat → Int32} (hm : wdM w ws word) : ∃ nl' nt', f_X12_addWord fu (nI n) ws nl nt word = some (nl', nt', nI (n + 1)) ∧ wdM w (nl' n) (nt' n) ∧ (∀ i, i ≠ n → nl' i = nl i ∧ nt' i = nt i) := by
  obtain ⟨rfl, h2⟩ := hm
  have : tot (f_X12_addWord fu (nI n) (nI w.length) nl nt word) (fun q => q.2.2 = nI (n + 1) ∧ wdM w (q.1 n) (q.2.1 n) ∧ (∀ i, i ≠ n → q.1 i = nl i ∧ q.2.1 i = nt i)) := by
    unfold f_X12_addWord
    simp (disch := omega) only [ck_nI, nI_clamp, lt]
    refine lw2 (fun k v M => ∃ j, v = nI j ∧ j + k = w.length ∧ (∀ i, i ≠ n → M i = nt i) ∧ ∀ x c, x < j → w[x]? = some c → M n x = nI (96 + c)) ?_ fu w.length _ _ (by omega) ⟨0, rfl, by omega, fun i _ => rfl, fun x c h => absurd h (Nat.not_lt_zero x)⟩
    rintro rr k v M ⟨j, rfl, hj, hM1, hM2⟩ ih
    unfold f_X12_addWord_L15 f_X12_addWord_J46
    by_cases hjw : j = w.length
    · rw [if_pos (nI_le (show w.length ≤ j by omega) (by omega))]
      simp only [lt, nI_1]
      refine tot_some ⟨rfl, ⟨?_, fun x c hx => hM2 x c (by rw [hjw]; exact (List.getElem?_eq_some_iff.mp hx).1) hx⟩, fun i hi => ⟨?_, hM1 i hi⟩⟩
      · show upd nl n (nI w.length) n = _
        rw [upd_e, if_pos rfl]
      · show upd nl n (nI w.length) i = _
        rw [upd_e, if_neg hi]
    · rw [if_neg (nI_ge (a := j) (by omega) (by omega))]
      have hc2 : w[j]? = some (w[j]'(by omega)) := List.getElem?_eq_getElem (by omega)
      generalize w[j]'(by omega) = c2 at hc2
      simp (disch := omega) only [ck_nI, nI_clamp, lt, nI_1]
      rw [h2 j c2 hc2]
      refine ih (k - 1) _ _ (by omega) ⟨j + 1, rfl, by omega, fun i hi => ?_, fun x c hx hc => ?_⟩
      · funext y
        rw [up2_e, if_neg hi, hM1 i hi]
      · rw [up2_e, if_pos rfl]
        by_cases hxj : x = j
        · rw [if_pos hxj]
          rw [hxj, hc2] at hc
          cases hc
          rfl
        · rw [if_neg hxj]
          exact hM2 x c (by omega) hc
  obtain ⟨⟨a, b, c⟩, e1, e2, e3, e4⟩ := this
  have e2 : c = nI (n + 1) := e2
  subst e2
  exact ⟨a, b, e1, e3, e4⟩
theorem m_occurs (fu : Nat) (hfu : 32 < fu) {n : Nat} (hn : n ≤ 16) {W : Nat → List Nat} {dw nl : Nat → Int32} {nt : Nat → Nat → Int32} (hW : DrW n W dw nl nt) {sl : Nat → Int32} {sd : Nat → Nat → Int32} {u : List Nat} (hu : Wd u) (hul : u.length ≤ 4) {r : Nat} (hr : r < 6) (hM : wdM u (sl (2 * r)) (sd (2 * r))) {o i : Nat} (ho : o < n) (hi : i + u.length ≤ (W o).length) : f_X12_occurs fu nt sl sd (nI o) (nI r) (nI i) = some (bI (decide (((W o).drop i).take u.length = u))) := by
  obtain ⟨g1, g2, g3, g4, g5⟩ := hW o ho
  have : tot (f_X12_occurs fu nt sl sd (nI o) (nI r) (nI i)) (fun q => (q = 1 ∧ ((W o).drop i).take u.length = u) ∨ (q = 0 ∧ ((W o).drop i).take u.length ≠ u)) := by
    unfold f_X12_occurs
    refine tot_lt (lw1 (fun k v => ∃ j, v = nI j ∧ j + k = u.length ∧ ∀ x, x < j → (W o)[i + x]? = u[x]?) ?_ fu u.length _ (by omega) ⟨0, rfl, by omega, fun s h => absurd h (Nat.not_lt_zero s)⟩)
    rintro rr k v ⟨j, rfl, hj, hv⟩ ih
    unfold f_X12_occurs_L3
    simp (disch := omega) only [k2m, ck_nI, nI_clamp, hM.1, nI_leI]
    by_cases hjw : j = u.length
    · rw [if_pos (show u.length ≤ j by omega)]
      refine tot_some (Or.inl ⟨rfl, List.ext_getElem? (fun x => ?_)⟩)
      rw [List.getElem?_take]
      by_cases hx : x < u.length
      · rw [if_pos hx, List.getElem?_drop]
        exact hv x (by omega)
      · rw [if_neg hx, List.getElem?_eq_none (by omega)]
    · rw [if_neg (show ¬ u.length ≤ j by omega)]
      have hc1 : (W o)[i + j]? = some ((W o)[i + j]'(by omega)) := List.getElem?_eq_getElem (by omega)
      have hc2 : u[j]? = some (u[j]'(by omega)) := List.getElem?_eq_getElem (by omega)
      generalize (W o)[i + j]'(by omega) = c1 at hc1
      generalize u[j]'(by omega) = c2 at hc2
      have b1 := g1 c1 (List.mem_of_getElem? hc1)
      have b2 := hu c2 (List.mem_of_getElem? hc2)
      simp (disch := omega) only [nI_add, ck_nI, nI_clamp, lt, nI_1]
      rw [g5 (i + j) c1 hc1, hM.2 j c2 hc2]
      simp (disch := omega) only [nI_eq]
      by_cases hcc : 96 + c1 = 96 + c2
      · rw [if_pos hcc]
        refine ih (k - 1) _ (by omega) ⟨j + 1, rfl, by omega, fun x hx => ?_⟩
        by_cases hxj : x = j
        · rw [hxj, hc1, hc2, show c1 = c2 by omega]
        · exact hv x (by omega)
      · rw [if_neg hcc]
        refine tot_some (Or.inr ⟨rfl, fun he => ?_⟩)
        have h3 : (((W o).drop i).take u.length)[j]? = u[j]? := by rw [he]
        rw [List.getElem?_take, if_pos (by omega), List.getElem?_drop, hc1, hc2] at h3
        cases h3
        exact hcc rfl
  obtain ⟨q, e1, e2⟩ := this
  rw [e1]
  rcases e2 with ⟨rfl, h⟩ | ⟨rfl, h⟩
  · rw [decide_eq_true h]
    rfl
  · rw [decide_eq_false h]
    rfl
theorem wdM_app {u : List Nat} {word : Nat → Int32} (h : wdM u (nI u.length) word) (c : Nat) : wdM (u ++ [c]) (nI (u.length + 1)) (upd word u.length (nI (96 + c))) := by
  refine ⟨by rw [List.length_append]; rfl, fun k d hk => ?_⟩
  rw [upd_e]
  by_cases h1 : k = u.length
  · subst h1
    rw [List.getElem?_append_right (Nat.le_refl _), Nat.sub_self] at hk
    have hk : some c = some d := hk
    cases hk
    rw [if_pos rfl]
  · rw [if_neg h1]
    rcases Nat.lt_or_ge k u.length with h2 | h2
    · rw [List.getElem?_append_left h2] at hk
      exact h.2 k d hk
    · have : (u ++ [c])[k]? = none := List.getElem?_eq_none (by rw [List.length_append]; show u.length + 1 ≤ k; omega)
      rw [this] at hk
      cases hk
