theorem x_coll (fu : Nat) (hfu : 32 < fu) {n m : Nat} {S T L : Nat → Nat} {ox sx : Int32} {lx cx tx : Nat → Int32} (hp : SyP n m S T L) (hx : Sy n m S T L ox sx lx cx tx) (f0 g0 : Nat → Int32) :
    ∃ f g, f_X7_collect fu sx cx f0 g0 = some (nI (PK m S).length, f, g) ∧ pkA (PK m S) f g := by
  obtain ⟨⟨c, f, g⟩, e1, e2, e3⟩ := x_collect fu hfu hp hx f0 g0
  have e2 : c = nI (PK m S).length := e2
  rw [e2] at e1
  exact ⟨f, g, e1, e3⟩
theorem has_x (n : Nat) (v : Int32) : f_X7_has (nI n) v = some (bI (inN v n)) := obj_x n v
theorem side_m (v : Int32) : f_X12_isSide v = some (bI (inN v 2)) := by
  unfold f_X12_isSide
  rw [show (1 : Int32) = nI 2 - 1 from by decide, btw_e (by decide)]
  exact bI_ckb
theorem side_x (v : Int32) : f_X11_isSide v = some (bI (inN v 2)) := by
  unfold f_X11_isSide f_X11_isSide_J9
  cases h : inN v 2 with
  | true =>
    obtain ⟨j, hj, rfl⟩ := inN_of (by decide) h
    have : j = 0 ∨ j = 1 := by omega
    rcases this with rfl | rfl
    · rfl
    · rfl
  | false =>
    by_cases h0 : v = 0
    · rw [h0] at h
      exact absurd h (by decide)
    · rw [if_neg h0]
      by_cases h1 : v = 1
      · rw [h1] at h
        exact absurd h (by decide)
      · rw [if_pos h1]
        rfl
theorem m_peakCount (fu : Nat) (hfu : 600 < fu) {n m : Nat} {S T L : Nat → Nat} {om sm : Int32} {lm cm tm : Nat → Int32} (hp : SyP n m S T L) (hx : Sy n m S T L om sm lm cm tm) (f0 g0 : Int32) :
    tot (f_X12_peakCount fu sm f0 g0 cm) (fun q => q.1 = nI (PK m S).length) := by
  have hm := hp.2.1
  have hlen := PK_len S hm
  unfold f_X12_peakCount
  refine tot_lt (lw3 (fun k c f g => ∃ i, c = nI i ∧ i + k = (PK m S).length) ?_ fu (PK m S).length _ _ _ (by omega) ⟨0, rfl, by omega⟩)
  rintro r k c f g ⟨i, rfl, hi⟩ ih
  unfold f_X12_peakCount_L2
  obtain ⟨⟨a, b, c⟩, e1, e2⟩ := m_peak fu (by omega) hp hx f g (nI i)
  rw [e1]
  simp only [Option.bind_some, lt, nI_1]
  rw [inN_nI (by omega) (by omega)] at e2
  rcases e2 with ⟨h1, h2, _⟩ | ⟨h1, h2⟩
  · have h1 : a = 1 := h1
    subst h1
    rw [if_neg (by decide)]
    have := of_decide_eq_true h2
    exact ih (k - 1) _ _ _ (by omega) ⟨i + 1, rfl, by omega⟩
  · cases h1
    rw [if_pos rfl]
    have := of_decide_eq_false h2
    exact tot_some (by show nI i = _; congr 1; omega)
theorem s_peakCount (fu : Nat) (hfu : 600 < fu) {n m : Nat} {S T L : Nat → Nat} {ox sx om sm : Int32} {lx cx tx lm cm tm : Nat → Int32} (hp : SyP n m S T L) (hx : Sy n m S T L ox sx lx cx tx) (hm : Sy n m S T L om sm lm cm tm) (f0 g0 : Nat → Int32) (a0 b0 : Int32) :
    ∃ (r pc : Int32) (f g : Nat → Int32) (a b : Int32), f_X11_peakCount fu sx f0 g0 cx = some (r, pc, f, g) ∧ f_X12_peakCount fu sm a0 b0 cm = some (r, a, b) := by
  obtain ⟨⟨c, f, g⟩, e1, e2, _⟩ := x_collect fu (by omega) hp hx f0 g0
  obtain ⟨⟨r, a, b⟩, e3, e4⟩ := m_peakCount fu hfu hp hm a0 b0
  have e2 : c = nI (PK m S).length := e2
  have e4 : r = nI (PK m S).length := e4
  refine ⟨r, c, f, g, a, b, ?_, e3⟩
  unfold f_X11_peakCount
  rw [e1, e2, e4]
  rfl
theorem s_peakStep (fu : Nat) (hfu : 32 < fu) {n m : Nat} {S T L : Nat → Nat} {ox sx om sm : Int32} {lx cx tx lm cm tm : Nat → Int32} (hp : SyP n m S T L) (hx : Sy n m S T L ox sx lx cx tx) (hm : Sy n m S T L om sm lm cm tm) (f0 g0 : Nat → Int32) (a0 b0 : Int32) (v1 v2 : Int32) :
    ∃ (r pc : Int32) (f g : Nat → Int32) (a b : Int32), f_X11_peakStep fu sx f0 g0 cx v1 v2 = some (r, pc, f, g) ∧ f_X12_peakStep fu sm a0 b0 cm v1 v2 = some (r, a, b) := by
  have hlen := PK_len S hp.2.1
  obtain ⟨f, g, e1, e3⟩ := x_coll fu hfu hp hx f0 g0
  obtain ⟨⟨t, a, b⟩, e4, e5⟩ := m_peak fu hfu hp hm a0 b0 v1
  unfold f_X11_peakStep f_X12_peakStep
  rw [e1, e4]
  simp only [Option.bind_some, has_x, bI_if]
  rcases e5 with ⟨h1, h2, i, p, h3, h4, h5, h6⟩ | ⟨h1, h2⟩
  · have h1 : t = 1 := h1
    have h5 : a = nI p.1 := h5
    have h6 : b = nI p.2 := h6
    subst h1 h3 h5 h6
    have hi : i < 496 := by
      have := (List.getElem?_eq_some_iff.mp h4).1
      omega
    rw [h2]
    simp only [↓reduceIte]
    rw [if_neg (show ¬ (1 : Int32) = 0 by decide), side_x, side_m]
    simp (disch := omega) only [Option.bind_some, bI_ifn, ck_nI, nI_clamp]
    rw [(e3 i p h4).1, (e3 i p h4).2]
    cases inN v2 2 with
    | false => exact ⟨_, _, _, _, _, _, rfl, rfl⟩
    | true =>
      simp only [↓reduceIte]
      by_cases hv : v2 = 0
      · rw [if_neg (fun h => h hv), if_neg (fun h => h hv)]
        exact ⟨_, _, _, _, _, _, rfl, rfl⟩
      · rw [if_pos hv, if_pos hv]
        exact ⟨_, _, _, _, _, _, rfl, rfl⟩
  · cases h1
    rw [h2]
    exact ⟨_, _, _, _, _, _, rfl, rfl⟩
theorem s_isLocallyConfluent (fu : Nat) (hfu : 600 < fu) {n m : Nat} {S T L : Nat → Nat} {ox sx om sm : Int32} {lx cx tx lm cm tm : Nat → Int32} (hp : SyP n m S T L) (hx : Sy n m S T L ox sx lx cx tx) (hm : Sy n m S T L om sm lm cm tm) (f0 g0 rows : Nat → Int32) (D : Nat → Nat → Int32) :
    ∃ (r pc : Int32) (f g rows' : Nat → Int32) (D' : Nat → Nat → Int32), f_X11_isLocallyConfluent fu ox sx f0 g0 rows lx cx tx = some (r, pc, f, g, rows') ∧ f_X12_isLocallyConfluent fu om sm D cm tm = some (r, D') := by
  have hn := hp.1
  have hm32 := hp.2.1
  have hlen := PK_len S hm32
  have hX : tot (f_X11_isLocallyConfluent fu ox sx f0 g0 rows lx cx tx) (fun q => (q.1 = 0 ∧ ∃ p, p ∈ PK m S ∧ ¬ Jn m S T (T p.1) (T p.2)) ∨ (q.1 = 1 ∧ ∀ p, p ∈ PK m S → Jn m S T (T p.1) (T p.2))) := by
    unfold f_X11_isLocallyConfluent
    obtain ⟨reach, e1, e2⟩ := x_fill fu (by omega) hp hx rows
    obtain ⟨f, g, e3, e5⟩ := x_coll fu (by omega) hp hx f0 g0
    rw [e1, e3]
    simp only [Option.bind_some]
    obtain ⟨_, _, _, _, ht⟩ := hx
    refine tot_lt (lw1 (fun k v => ∃ i, v = nI i ∧ i + k = (PK m S).length ∧ ∀ j p, j < i → (PK m S)[j]? = some p → Jn m S T (T p.1) (T p.2)) ?_ fu (PK m S).length _ (by omega) ⟨0, rfl, by omega, fun j p h => absurd h (Nat.not_lt_zero j)⟩)
    rintro r k v ⟨i, rfl, hi, hv⟩ ih
    unfold f_X11_isLocallyConfluent_L24
    by_cases hil : i = (PK m S).length
    · rw [← hil, if_pos (nI_le (Nat.le_refl i) (by omega))]
      refine tot_some (Or.inr ⟨rfl, fun p hpm => ?_⟩)
      obtain ⟨j, hj⟩ := List.getElem?_of_mem hpm
      exact hv j p (by rw [hil]; exact (List.getElem?_eq_some_iff.mp hj).1) hj
    · rw [if_neg (nI_ge (a := i) (by omega) (by omega))]
      have hil2 : i < (PK m S).length := by omega
      have hp2 : (PK m S)[i]? = some ((PK m S)[i]) := List.getElem?_eq_getElem hil2
      generalize (PK m S)[i] = p at hp2
      have g1 := PK_at hp2
      have g2 := hp.2.2 p.1 (by omega)
      have g3 := hp.2.2 p.2 (by omega)
      have g4 := e5 i p hp2
      simp (disch := omega) only [ck_nI, nI_clamp, lt, nI_1, g4.1, g4.2]
      rw [ht p.1 (by omega), ht p.2 (by omega)]
      simp (disch := omega) only [ck_nI, nI_clamp]
      have g5 := isRch_and hp g2.2.1 (e2 _ g2.2.1) (e2 _ g3.2.1)
      by_cases h : reach (T p.1) &&& reach (T p.2) = 0
      · rw [if_neg (fun h2 => h2 h)]
        exact tot_some (Or.inl ⟨rfl, p, List.mem_of_getElem? hp2, g5.mp h⟩)
      · rw [if_pos h]
        refine ih (k - 1) _ (by omega) ⟨i + 1, rfl, by omega, fun j q hj hq => ?_⟩
        by_cases hji : j = i
        · subst hji
          rw [hp2] at hq
          cases hq
          exact Classical.byContradiction (fun hc => h (g5.mpr hc))
        · exact hv j q (by omega) hq
  have hM : tot (f_X12_isLocallyConfluent fu om sm D cm tm) (fun q => (q.1 = 0 ∧ ∃ p, p ∈ PK m S ∧ ¬ Jn m S T (T p.1) (T p.2)) ∨ (q.1 = 1 ∧ ∀ p, p ∈ PK m S → Jn m S T (T p.1) (T p.2))) := by
    unfold f_X12_isLocallyConfluent
    obtain ⟨D', e1, e2⟩ := m_dist fu (by omega) hp hm D
    rw [e1]
    simp only [Option.bind_some]
    have hmS := hm
    obtain ⟨rfl, rfl, _, hc, ht⟩ := hm
    refine tot_lt (lw1 (fun k v => ∃ s, v = nI s ∧ s + k = m ∧ ∀ p, p ∈ pko m S s → Jn m S T (T p.1) (T p.2)) ?_ fu m _ (by omega) ⟨0, rfl, by omega, fun p h => by cases h⟩)
    rintro r k v ⟨s, rfl, hs, ha⟩ ih
    unfold f_X12_isLocallyConfluent_L6
    by_cases hsm : s = m
    · subst hsm
      rw [if_pos (nI_le (Nat.le_refl s) (by omega))]
      exact tot_some (Or.inr ⟨rfl, ha⟩)
    · rw [if_neg (nI_ge (a := s) (by omega) (by omega)), nI_1]
      refine tot_lt (lw1 (fun k v => ∃ d, v = nI (s + 1 + d) ∧ s + 1 + d + k = m ∧ ∀ p, p ∈ pkp m S s d → Jn m S T (T p.1) (T p.2)) ?_ fu (m - (s + 1)) _ (by omega) ⟨0, rfl, by omega, by rw [pkp_0]; exact ha⟩)
      clear ha
      rintro r2 k2 v ⟨d, rfl, hd, ha⟩ ih2
      unfold f_X12_isLocallyConfluent_L18 f_X12_isLocallyConfluent_J68 f_X12_isLocallyConfluent_J62
      by_cases hdm : s + 1 + d = m
      · rw [hdm, if_pos (nI_le (Nat.le_refl m) (by omega))]
        refine tot_lt ?_
        rw [nI_1]
        have e : pkp m S s d = pko m S (s + 1) := by
          rw [show d = m - (s + 1) by omega]
          rfl
        exact ih (k - 1) _ (by omega) ⟨s + 1, rfl, by omega, by rw [← e]; exact ha⟩
      · rw [if_neg (nI_ge (a := s + 1 + d) (by omega) (by omega))]
        have h1 := hp.2.2 s (by omega)
        have h2 := hp.2.2 (s + 1 + d) (by omega)
        simp (disch := omega) only [ck_nI, nI_clamp, lt, nI_1]
        rw [hc s (by omega), hc (s + 1 + d) (by omega), ht s (by omega), ht (s + 1 + d) (by omega)]
        simp (disch := omega) only [nI_eq]
        by_cases he : S s = S (s + 1 + d)
        · rw [if_neg (fun h => h he)]
          obtain ⟨q, e3, e4⟩ := m_join fu (by omega) hp hmS e2 h1.2.1 h2.2.1
          rw [e3]
          simp only [Option.bind_some]
          rcases e4 with ⟨rfl, h3⟩ | ⟨rfl, h3⟩
          · rw [if_pos (by decide)]
            refine ih2 (k2 - 1) _ (by omega) ⟨d + 1, rfl, by omega, fun p hpm => ?_⟩
            rw [pkp_y he, List.mem_append] at hpm
            rcases hpm with hpm | hpm
            · exact ha p hpm
            · rw [List.mem_singleton] at hpm
              subst hpm
              exact h3
          · rw [if_neg (by decide)]
            obtain ⟨rr, hr⟩ := pkp_pre S (show s < m by omega) (show d + 1 ≤ m - (s + 1) by omega)
            refine tot_some (Or.inl ⟨rfl, (s, s + 1 + d), ?_, h3⟩)
            rw [hr, pkp_y he]
            simp
        · rw [if_pos he]
          exact ih2 (k2 - 1) _ (by omega) ⟨d + 1, rfl, by omega, by rw [pkp_n he]; exact ha⟩
  obtain ⟨⟨r, pc, f, g, rows'⟩, e1, e2⟩ := hX
  obtain ⟨⟨r2, D'⟩, e3, e4⟩ := hM
  have : r = r2 := by
    rcases e2 with ⟨h1, p, h2, h3⟩ | ⟨h1, h2⟩
    · rcases e4 with ⟨h4, _⟩ | ⟨h4, h5⟩
      · exact Eq.trans h1 (Eq.symm h4)
      · exact absurd (h5 p h2) h3
    · rcases e4 with ⟨h4, p, h5, h6⟩ | ⟨h4, h5⟩
      · exact absurd (h2 p h5) h6
      · exact Eq.trans h1 (Eq.symm h4)
  subst this
  exact ⟨_, _, _, _, _, _, e1, e3⟩
