/-! ===== counting decreasing peaks, the first that fails ===== -/
noncomputable def dcn (P : Nat × Nat → Prop) (l : List (Nat × Nat)) : Nat := (l.filter (fun p => @decide (P p) (Classical.propDecidable _))).length
theorem dcn_y {P : Nat × Nat → Prop} {l : List (Nat × Nat)} {p : Nat × Nat} (h : P p) : dcn P (l ++ [p]) = dcn P l + 1 := by
  unfold dcn
  rw [List.filter_append, List.length_append]
  simp [h]
theorem dcn_n {P : Nat × Nat → Prop} {l : List (Nat × Nat)} {p : Nat × Nat} (h : ¬ P p) : dcn P (l ++ [p]) = dcn P l := by
  unfold dcn
  rw [List.filter_append, List.length_append]
  simp [h]
def DecP (n m : Nat) (S T L : Nat → Nat) (w : Nat → Nat → Bool) : Nat × Nat → Prop := fun p => Dec n m S T L w p.1 p.2
def ffS (n m : Nat) (S T L : Nat → Nat) (w : Nat → Nat → Bool) (r : Int32) : Prop := (r = -2 ∧ ∀ p, p ∈ PK m S → DecP n m S T L w p) ∨ ∃ i p, r = nI i ∧ (PK m S)[i]? = some p ∧ ¬ DecP n m S T L w p ∧ ∀ j q, j < i → (PK m S)[j]? = some q → DecP n m S T L w q
theorem ffS_eq {n m : Nat} {S T L : Nat → Nat} {w : Nat → Nat → Bool} {r r2 : Int32} (h1 : ffS n m S T L w r) (h2 : ffS n m S T L w r2) : r = r2 := by
  rcases h1 with ⟨a1, a2⟩ | ⟨i, p, a1, a2, a3, a4⟩
  · rcases h2 with ⟨b1, b2⟩ | ⟨j, q, b1, b2, b3, b4⟩
    · rw [a1, b1]
    · exact absurd (a2 q (List.mem_of_getElem? b2)) b3
  · rcases h2 with ⟨b1, b2⟩ | ⟨j, q, b1, b2, b3, b4⟩
    · exact absurd (b2 p (List.mem_of_getElem? a2)) a3
    · have : i = j := by
        rcases Nat.lt_trichotomy i j with h | h | h
        · exact absurd (b4 i p h a2) a3
        · exact h
        · exact absurd (a4 j q h b2) b3
      rw [a1, b1, this]
theorem x_ff (fu : Nat) (hfu : 600 < fu) {n m : Nat} {S T L : Nat → Nat} {ox sx : Int32} {lx cx tx : Nat → Int32} (hp : SyP n m S T L) (hx : Sy n m S T L ox sx lx cx tx) {below : Nat → Int32} {w : Nat → Nat → Bool} (hw : Rb below w) {f g : Nat → Int32} (ha : pkA (PK m S) f g) :
    tot (f_X7_firstFailing fu ox sx (nI (PK m S).length) lx cx tx below f g) (ffS n m S T L w) := by
  have hlen := PK_len S hp.2.1
  unfold f_X7_firstFailing
  refine tot_lt (lw1 (fun k v => ∃ i, v = nI i ∧ i + k = (PK m S).length ∧ ∀ j q, j < i → (PK m S)[j]? = some q → DecP n m S T L w q) ?_ fu (PK m S).length _ (by omega) ⟨0, rfl, by omega, fun j q h => absurd h (Nat.not_lt_zero j)⟩)
  rintro r k v ⟨i, rfl, hi, hv⟩ ih
  unfold f_X7_firstFailing_L2
  by_cases hil : i = (PK m S).length
  · rw [← hil, if_pos (nI_le (Nat.le_refl i) (by omega))]
    refine tot_some (Or.inl ⟨rfl, fun p hpm => ?_⟩)
    obtain ⟨j, hj⟩ := List.getElem?_of_mem hpm
    exact hv j p (by rw [hil]; exact (List.getElem?_eq_some_iff.mp hj).1) hj
  · rw [if_neg (nI_ge (a := i) (by omega) (by omega))]
    have hp2 : (PK m S)[i]? = some ((PK m S)[i]'(by omega)) := List.getElem?_eq_getElem (by omega)
    generalize (PK m S)[i]'(by omega) = p at hp2
    obtain ⟨q, e1, e2⟩ := x_decr fu (by omega) hp hx hw ha hp2
    rw [e1]
    simp only [Option.bind_some, lt, nI_1]
    rcases e2 with ⟨rfl, h⟩ | ⟨rfl, h⟩
    · rw [if_pos (by decide)]
      refine ih (k - 1) _ (by omega) ⟨i + 1, rfl, by omega, fun j q hj hq => ?_⟩
      by_cases hji : j = i
      · subst hji
        rw [hp2] at hq
        cases hq
        exact h
      · exact hv j q (by omega) hq
    · rw [if_neg (by decide)]
      exact tot_some (Or.inr ⟨i, p, rfl, hp2, h, hv⟩)
theorem m_ff (fu : Nat) (hfu : 40000 < fu) {n m : Nat} {S T L : Nat → Nat} {om sm : Int32} {lm cm tm : Nat → Int32} (hp : SyP n m S T L) (hx : Sy n m S T L om sm lm cm tm) {above : Nat → Nat → Int32} {w : Nat → Nat → Bool} (hw : Rt above w) (a0 b0 : Int32) (M0 : Nat → Nat → Int32) :
    tot (f_X12_firstFailure fu om sm a0 b0 above lm M0 cm tm) (fun q => ffS n m S T L w q.1) := by
  have hlen := PK_len S hp.2.1
  have hm := hp.2.1
  have hn := hp.1
  have hxS := hx
  obtain ⟨rfl, rfl, _, hc, ht⟩ := hx
  unfold f_X12_firstFailure
  refine tot_lt (tot_lt (lw5 (fun k c v f M g => ∃ s, v = nI s ∧ s + k = m ∧ c = nI (pko m S s).length ∧ ∀ p, p ∈ pko m S s → DecP n m S T L w p) ?_ fu m _ _ _ _ _ (by omega) ⟨0, rfl, by omega, rfl, fun p h => by cases h⟩))
  rintro r k c v f M g ⟨s, rfl, hs, rfl, ha⟩ ih
  unfold f_X12_firstFailure_L4
  by_cases hsm : s = m
  · subst hsm
    rw [if_pos (nI_le (Nat.le_refl s) (by omega))]
    exact tot_some (Or.inl ⟨rfl, ha⟩)
  · rw [if_neg (nI_ge (a := s) (by omega) (by omega)), nI_1]
    refine tot_lt (lw5 (fun k c v f M g => ∃ d, v = nI (s + 1 + d) ∧ s + 1 + d + k = m ∧ c = nI (pkp m S s d).length ∧ ∀ p, p ∈ pkp m S s d → DecP n m S T L w p) ?_ fu (m - (s + 1)) _ _ _ _ _ (by omega) ⟨0, rfl, by omega, by rw [pkp_0], by rw [pkp_0]; exact ha⟩)
    clear ha
    rintro r2 k2 c v f M g ⟨d, rfl, hd, rfl, ha⟩ ih2
    unfold f_X12_firstFailure_L16 f_X12_firstFailure_J59 f_X12_firstFailure_J53
    by_cases hdm : s + 1 + d = m
    · rw [hdm, if_pos (nI_le (Nat.le_refl m) (by omega))]
      refine tot_lt ?_
      rw [nI_1]
      have e : pkp m S s d = pko m S (s + 1) := by
        rw [show d = m - (s + 1) by omega]
        rfl
      exact ih (k - 1) _ _ _ _ _ (by omega) ⟨s + 1, rfl, by omega, by rw [e], by rw [← e]; exact ha⟩
    · rw [if_neg (nI_ge (a := s + 1 + d) (by omega) (by omega))]
      have h1 := hp.2.2 s (by omega)
      have h2 := hp.2.2 (s + 1 + d) (by omega)
      simp (disch := omega) only [ck_nI, nI_clamp, lt, nI_1]
      rw [hc s (by omega), hc (s + 1 + d) (by omega)]
      simp (disch := omega) only [nI_eq]
      by_cases he : S s = S (s + 1 + d)
      · rw [if_neg (fun h => h he)]
        obtain ⟨q, M', e1, e2⟩ := m_pkd fu hfu hp hxS hw (show s < m by omega) (show s + 1 + d < m by omega) M
        rw [e1]
        simp only [Option.bind_some]
        rcases e2 with ⟨rfl, h⟩ | ⟨rfl, h⟩
        · rw [if_pos (by decide)]
          refine ih2 (k2 - 1) _ _ _ _ _ (by omega) ⟨d + 1, rfl, by omega, ?_, fun p hpm => ?_⟩
          · rw [pkp_y he, List.length_append]
            rfl
          · rw [pkp_y he, List.mem_append] at hpm
            rcases hpm with hpm | hpm
            · exact ha p hpm
            · rw [List.mem_singleton] at hpm
              subst hpm
              exact h
        · rw [if_neg (by decide)]
          obtain ⟨rr, hr⟩ := pkp_pre S (show s < m by omega) (show d + 1 ≤ m - (s + 1) by omega)
          refine tot_some (Or.inr ⟨(pkp m S s d).length, (s, s + 1 + d), rfl, ?_, h, fun j q hj hq => ?_⟩)
          · rw [hr, pkp_y he, List.append_assoc, List.getElem?_append_right (Nat.le_refl _), Nat.sub_self]
            rfl
          · rw [hr, pkp_y he, List.append_assoc, List.getElem?_append_left hj] at hq
            exact ha q (List.mem_of_getElem? hq)
      · rw [if_pos he]
        exact ih2 (k2 - 1) _ _ _ _ _ (by omega) ⟨d + 1, rfl, by omega, by rw [pkp_n he], by rw [pkp_n he]; exact ha⟩
theorem s_firstFailure (fu : Nat) (hfu : 40000 < fu) {n m : Nat} {S T L : Nat → Nat} {ox sx om sm : Int32} {lx cx tx lm cm tm : Nat → Int32} (hp : SyP n m S T L) (hx : Sy n m S T L ox sx lx cx tx) (hm : Sy n m S T L om sm lm cm tm) {below : Nat → Int32} {above : Nat → Nat → Int32} {w : Nat → Nat → Bool} (hb : Rb below w) (ha : Rt above w) (f0 g0 : Nat → Int32) (a0 b0 : Int32) (M0 : Nat → Nat → Int32) :
    ∃ (r pc : Int32) (f g : Nat → Int32) (a b : Int32) (M : Nat → Nat → Int32), f_X11_firstFailure fu ox sx below f0 g0 lx cx tx = some (r, pc, f, g) ∧ f_X12_firstFailure fu om sm a0 b0 above lm M0 cm tm = some (r, a, M, b) := by
  obtain ⟨f, g, e1, e3⟩ := x_coll fu (by omega) hp hx f0 g0
  obtain ⟨r, e4, e5⟩ := x_ff fu (by omega) hp hx hb e3
  obtain ⟨⟨r2, a, M, b⟩, e6, e7⟩ := m_ff fu hfu hp hm ha a0 b0 M0
  have : r = r2 := ffS_eq e5 e7
  subst this
  refine ⟨r, nI (PK m S).length, f, g, a, b, M, ?_, e6⟩
  unfold f_X11_firstFailure
  rw [e1]
  simp only [Option.bind_some]
  rw [e4]
  rfl
theorem s_decreasingCount (fu : Nat) (hfu : 40000 < fu) {n m : Nat} {S T L : Nat → Nat} {ox sx om sm : Int32} {lx cx tx lm cm tm : Nat → Int32} (hp : SyP n m S T L) (hx : Sy n m S T L ox sx lx cx tx) (hm : Sy n m S T L om sm lm cm tm) {below : Nat → Int32} {above : Nat → Nat → Int32} {w : Nat → Nat → Bool} (hb : Rb below w) (ha : Rt above w) (f0 g0 : Nat → Int32) (a0 b0 : Int32) (M0 : Nat → Nat → Int32) :
    ∃ (r pc : Int32) (f g : Nat → Int32) (a b : Int32) (M : Nat → Nat → Int32), f_X11_decreasingCount fu ox sx below f0 g0 lx cx tx = some (r, pc, f, g) ∧ f_X12_decreasingCount fu om sm a0 b0 above lm M0 cm tm = some (r, a, M, b) := by
  have hlen := PK_len S hp.2.1
  have hm32 := hp.2.1
  have hX : tot (f_X11_decreasingCount fu ox sx below f0 g0 lx cx tx) (fun q => q.1 = nI (dcn (DecP n m S T L w) (PK m S))) := by
    unfold f_X11_decreasingCount
    obtain ⟨f, g, e1, e3⟩ := x_coll fu (by omega) hp hx f0 g0
    rw [e1]
    simp only [Option.bind_some]
    refine tot_lt (tot_lt (lw2 (fun k c v => ∃ i, v = nI i ∧ i + k = (PK m S).length ∧ c = nI (dcn (DecP n m S T L w) ((PK m S).take i))) ?_ fu (PK m S).length _ _ (by omega) ⟨0, rfl, by omega, rfl⟩))
    rintro r k c v ⟨i, rfl, hi, rfl⟩ ih
    unfold f_X11_decreasingCount_L15 f_X11_decreasingCount_J48
    by_cases hil : i = (PK m S).length
    · rw [hil, if_pos (nI_le (Nat.le_refl _) (by omega)), List.take_length]
      exact tot_some rfl
    · rw [if_neg (nI_ge (a := i) (by omega) (by omega))]
      have hp2 : (PK m S)[i]? = some ((PK m S)[i]'(by omega)) := List.getElem?_eq_getElem (by omega)
      generalize (PK m S)[i]'(by omega) = p at hp2
      have htk : (PK m S).take (i + 1) = (PK m S).take i ++ [p] := by
        rw [List.take_add_one, hp2]
        rfl
      obtain ⟨q, e4, e5⟩ := x_decr fu (by omega) hp hx hb e3 hp2
      rw [e4]
      simp only [Option.bind_some, lt, nI_1]
      rcases e5 with ⟨rfl, h⟩ | ⟨rfl, h⟩
      · rw [if_neg (by decide)]
        exact ih (k - 1) _ _ (by omega) ⟨i + 1, rfl, by omega, by rw [htk, dcn_y (P := DecP n m S T L w) h]⟩
      · rw [if_pos rfl]
        exact ih (k - 1) _ _ (by omega) ⟨i + 1, rfl, by omega, by rw [htk, dcn_n (P := DecP n m S T L w) h]⟩
  have hM : tot (f_X12_decreasingCount fu om sm a0 b0 above lm M0 cm tm) (fun q => q.1 = nI (dcn (DecP n m S T L w) (PK m S))) := by
    have hn := hp.1
    have hxS := hm
    obtain ⟨rfl, rfl, _, hc, ht⟩ := hm
    unfold f_X12_decreasingCount
    refine tot_lt (tot_lt (lw5 (fun k c v f M g => ∃ s, v = nI s ∧ s + k = m ∧ c = nI (dcn (DecP n m S T L w) (pko m S s))) ?_ fu m _ _ _ _ _ (by omega) ⟨0, rfl, by omega, rfl⟩))
    rintro r k c v f M g ⟨s, rfl, hs, rfl⟩ ih
    unfold f_X12_decreasingCount_L4
    by_cases hsm : s = m
    · subst hsm
      rw [if_pos (nI_le (Nat.le_refl s) (by omega))]
      exact tot_some rfl
    · rw [if_neg (nI_ge (a := s) (by omega) (by omega)), nI_1]
      refine tot_lt (lw5 (fun k c v f M g => ∃ d, v = nI (s + 1 + d) ∧ s + 1 + d + k = m ∧ c = nI (dcn (DecP n m S T L w) (pkp m S s d))) ?_ fu (m - (s + 1)) _ _ _ _ _ (by omega) ⟨0, rfl, by omega, by rw [pkp_0]⟩)
      rintro r2 k2 c v f M g ⟨d, rfl, hd, rfl⟩ ih2
      unfold f_X12_decreasingCount_L16 f_X12_decreasingCount_J62 f_X12_decreasingCount_J53 f_X12_decreasingCount_J54
      by_cases hdm : s + 1 + d = m
      · rw [hdm, if_pos (nI_le (Nat.le_refl m) (by omega))]
        refine tot_lt ?_
        rw [nI_1]
        have e : pkp m S s d = pko m S (s + 1) := by
          rw [show d = m - (s + 1) by omega]
          rfl
        exact ih (k - 1) _ _ _ _ _ (by omega) ⟨s + 1, rfl, by omega, by rw [e]⟩
      · rw [if_neg (nI_ge (a := s + 1 + d) (by omega) (by omega))]
        have h1 := hp.2.2 s (by omega)
        have h2 := hp.2.2 (s + 1 + d) (by omega)
        have e0 : ∀ x : Int32, x + 0 = x := fun x => Int32.add_zero x
        simp (disch := omega) only [ck_nI, nI_clamp, lt, nI_1, e0]
        rw [hc s (by omega), hc (s + 1 + d) (by omega)]
        simp (disch := omega) only [nI_eq]
        by_cases he : S s = S (s + 1 + d)
        · rw [if_neg (fun h => h he)]
          obtain ⟨q, M', e1, e2⟩ := m_pkd fu hfu hp hxS ha (show s < m by omega) (show s + 1 + d < m by omega) M
          rw [e1]
          simp only [Option.bind_some]
          rcases e2 with ⟨rfl, h⟩ | ⟨rfl, h⟩
          · rw [if_neg (by decide)]
            exact ih2 (k2 - 1) _ _ _ _ _ (by omega) ⟨d + 1, rfl, by omega, by rw [pkp_y he, dcn_y (P := DecP n m S T L w) (p := (s, s + 1 + d)) h]⟩
          · rw [if_pos rfl]
            exact ih2 (k2 - 1) _ _ _ _ _ (by omega) ⟨d + 1, rfl, by omega, by rw [pkp_y he, dcn_n (P := DecP n m S T L w) (p := (s, s + 1 + d)) h]⟩
        · rw [if_pos he]
          exact ih2 (k2 - 1) _ _ _ _ _ (by omega) ⟨d + 1, rfl, by omega, by rw [pkp_n he]⟩
  obtain ⟨⟨r, pc, f, g⟩, e1, e2⟩ := hX
  obtain ⟨⟨r2, a, M, b⟩, e3, e4⟩ := hM
  have : r = r2 := Eq.trans e2 (Eq.symm e4)
  subst this
  exact ⟨_, _, _, _, _, _, _, e1, e3⟩
