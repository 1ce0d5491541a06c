/-! both sides of a peak: the class's places and the reference's rows -/
theorem dl_eq {n m : Nat} {S T L : Nat → Nat} {w : Nat → Nat → Bool} {own oth t0 : Nat} {arr fp len prv row : Nat → Int32} (h1 : SpF n m S T L w own oth t0 arr fp len prv) (h2 : BfP (EN m S T L w own oth) (fun z => z = 2 * t0) row) {b : Nat} (hb : b < 16) : dlx fp len b = dl row b := LnP_eq (sp_len h1 hb) (dl_P h2 hb)
theorem s_valley (fu : Nat) (hfu : 40000 < fu) {n m : Nat} {S T L : Nat → Nat} {ox sx om sm : Int32} {lx cx tx lm cm tm : Nat → Int32} (hp : SyP n m S T L) (hx : Sy n m S T L ox sx lx cx tx) (hm : Sy n m S T L om sm lm cm tm) {below : Nat → Int32} {above : Nat → Nat → Int32} {w : Nat → Nat → Bool} (hb : Rb below w) (ha : Rt above w) (lbo lbe lot lpl rbo rbe rot rpl : Int32) (lar lfp lle lob lpa lpr f0 g0 rar rfp rle rob rpa rpr : Nat → Int32) (a0 b0 : Int32) (M0 : Nat → Nat → Int32) (v1 : Int32) :
    ∃ (r : Int32) (X : (Nat → Int32) × (Nat → Nat → Int32)) (a b : Int32) (M : Nat → Nat → Int32), f_X11_valley fu lbo lbe lot lpl rbo rbe rot rpl ox sx lar lfp lle lob lpa lpr below f0 g0 rar rfp rle rob rpa rpr lx cx tx v1 = some (r, X) ∧ f_X12_valley fu om sm a0 b0 above lm M0 cm tm v1 = some (r, a, M, b) := by
  have hn := hp.1
  obtain ⟨r, R1, R2, e1, e2⟩ := x_findValley fu (by omega) hp hx hb lbo lbe lot lpl rbo rbe rot rpl lar lfp lle lob lpa lpr f0 g0 rar rfp rle rob rpa rpr v1
  obtain ⟨⟨t, a, b⟩, e4, e5⟩ := m_peak fu (by omega) hp hm a0 b0 v1
  unfold f_X11_valley f_X12_valley
  rw [e1, e4]
  simp only [Option.bind_some]
  rcases e2 with ⟨h1, rfl⟩ | ⟨i, p, h1, rfl, h2, h3, h4, h5, h6, h7⟩
  · rw [h1] at e5
    rcases e5 with ⟨_, h2, _⟩ | ⟨h2, _⟩
    · cases h2
    · cases h2
      exact ⟨_, _, _, _, _, rfl, rfl⟩
  · rw [h1] at e5
    rcases e5 with ⟨g1, _, i2, p2, g2, g3, g4, g5⟩ | ⟨_, g2⟩
    · have hlen := PK_len S hp.2.1
      have i1 := (List.getElem?_eq_some_iff.mp h2).1
      have i2' := (List.getElem?_eq_some_iff.mp g3).1
      rw [nI_eq (by omega) (by omega)] at g2
      subst g2
      rw [h2] at g3
      cases g3
      have g1 : t = 1 := g1
      have g4 : a = nI p.1 := g4
      have g5 : b = nI p.2 := g5
      subst g1 g4 g5
      have hpk := PK_at h2
      rw [if_pos (show ¬ (1 : Int32) = 0 by decide)]
      obtain ⟨r2, M, q1, q2, q3, q4, _⟩ := m_val2 fu hfu hp hm ha (show p.1 < m by omega) (show p.2 < m by omega) M0
      rw [q1]
      simp only [Option.bind_some]
      have : r = r2 := valS_eq (fun b hb => dl_eq h5 q2 (by omega)) (fun b hb => dl_eq h6 q3 (by omega)) h7 q4
      subst this
      exact ⟨_, _, _, _, _, rfl, rfl⟩
    · cases g2
theorem valS_0 {n : Nat} {d0 d1 : Nat → Nat} {r : Int32} (hn : n ≤ 16) (h : valS n d0 d1 r) : (r = -2) ∨ ∃ b, b < n ∧ r = nI b ∧ d0 b < 1000 ∧ d1 b < 1000 := by
  rcases h with ⟨h, _⟩ | ⟨b, h1, h2, h3, _⟩
  · exact Or.inl h
  · exact Or.inr ⟨b, h1, h2, by omega, by omega⟩
theorem s_joinLength (fu : Nat) (hfu : 40000 < fu) {n m : Nat} {S T L : Nat → Nat} {ox sx om sm : Int32} {lx cx tx lm cm tm : Nat → Int32} (hp : SyP n m S T L) (hx : Sy n m S T L ox sx lx cx tx) (hm : Sy n m S T L om sm lm cm tm) {below : Nat → Int32} {above : Nat → Nat → Int32} {w : Nat → Nat → Bool} (hb : Rb below w) (ha : Rt above w) (lbo lbe lot lpl pc rbo rbe rot rpl : Int32) (lar lfp lle lob lpa lpr f0 g0 rar rfp rle rob rpa rpr : Nat → Int32) (a0 b0 : Int32) (M0 : Nat → Nat → Int32) (v1 v2 : Int32) :
    ∃ (r : Int32) (X : (Nat → Int32) × (Nat → Nat → Int32)) (a b : Int32) (M : Nat → Nat → Int32), f_X11_joinLength fu lbo lbe lot lpl pc rbo rbe rot rpl ox sx lar lfp lle lob lpa lpr below f0 g0 rar rfp rle rob rpa rpr lx cx tx v1 v2 = some (r, X) ∧ f_X12_joinLength fu om sm a0 b0 above lm M0 cm tm v1 v2 = some (r, a, M, b) := by
  have hn := hp.1
  obtain ⟨r, R1, R2, e1, e2⟩ := x_findValley fu (by omega) hp hx hb lbo lbe lot lpl rbo rbe rot rpl lar lfp lle lob lpa lpr f0 g0 rar rfp rle rob rpa rpr v1
  obtain ⟨⟨t, a, b⟩, e4, e5⟩ := m_peak fu (by omega) hp hm a0 b0 v1
  unfold f_X11_joinLength f_X12_joinLength
  rw [e4, side_x, side_m]
  simp only [Option.bind_some, bI_ifn]
  cases hv2 : inN v2 2 with
  | false =>
    simp only [↓reduceIte, Bool.false_eq_true]
    rcases e5 with ⟨g1, _⟩ | ⟨g1, _⟩
    · have g1 : t = 1 := g1
      subst g1
      rw [if_neg (by decide)]
      exact ⟨_, _, _, _, _, rfl, rfl⟩
    · cases g1
      rw [if_pos rfl]
      exact ⟨_, _, _, _, _, rfl, rfl⟩
  | true =>
    simp only [↓reduceIte]
    rw [e1]
    simp only [Option.bind_some, lt]
    rcases e2 with ⟨h1, rfl⟩ | ⟨i, p, h1, rfl, h2, h3, h4, h5, h6, h7⟩
    · rw [if_neg (by decide)]
      rw [h1] at e5
      rcases e5 with ⟨_, h2, _⟩ | ⟨h2, _⟩
      · cases h2
      · cases h2
        rw [if_pos rfl]
        exact ⟨_, _, _, _, _, rfl, rfl⟩
    · rw [h1] at e5
      rcases e5 with ⟨g1, _, i2, p2, g2, g3, g4, g5⟩ | ⟨_, g2⟩
      · have hlen := PK_len S hp.2.1
        have i1 := (List.getElem?_eq_some_iff.mp h2).1
        have i2' := (List.getElem?_eq_some_iff.mp g3).1
        rw [nI_eq (by omega) (by omega)] at g2
        subst g2
        rw [h2] at g3
        cases g3
        have g1 : t = 1 := g1
        have g4 : a = nI p.1 := g4
        have g5 : b = nI p.2 := g5
        subst g1 g4 g5
        have hpk := PK_at h2
        rw [if_neg (show ¬ (1 : Int32) = 0 by decide)]
        obtain ⟨r2, M, q1, q2, q3, q4, _⟩ := m_val2 fu hfu hp hm ha (show p.1 < m by omega) (show p.2 < m by omega) M0
        rw [q1]
        simp only [Option.bind_some]
        have : r = r2 := valS_eq (fun b hb => dl_eq h5 q2 (by omega)) (fun b hb => dl_eq h6 q3 (by omega)) h7 q4
        subst this
        rcases valS_0 hn h7 with rfl | ⟨b, hb1, rfl, hd0, hd1⟩
        · rw [if_neg (by decide), if_neg (fun h => h rfl)]
          exact ⟨_, _, _, _, _, rfl, rfl⟩
        · rw [if_pos (nI_pos' (by omega)), if_pos (nI_ne2 (by omega))]
          obtain ⟨j, hj, rfl⟩ := inN_of (by decide) hv2
          have hj2 : j = 0 ∨ j = 1 := by omega
          rcases hj2 with rfl | rfl
          · rw [if_pos (show nI 0 = 0 from rfl), x_lengthTo h5 (by omega) hd0, m_lengthTo (by decide) q2 (show b < 16 by omega), dl_eq h5 q2 (show b < 16 by omega)]
            exact ⟨_, _, _, _, _, rfl, rfl⟩
          · rw [if_neg (show ¬ nI 1 = 0 by decide), x_lengthTo h6 (by omega) hd1, m_lengthTo (by decide) q3 (show b < 16 by omega), dl_eq h6 q3 (show b < 16 by omega)]
            exact ⟨_, _, _, _, _, rfl, rfl⟩
      · cases g2
