theorem sp_first {n m : Nat} {S T L : Nat → Nat} {w : Nat → Nat → Bool} {own oth t0 : Nat} {arr fp len prv : Nat → Int32} (h : SpF n m S T L w own oth t0 arr fp len prv) {b : Nat} (hb : b < 16) (hd : dlx fp len b < 1000) : ∃ c nd ln pv ar pl obj par i0, Bf m (dS S T L w own oth) (2 * t0) c 0 c nd ln pv ar ∧ PlR c nd ln pv ar pl arr fp len obj par prv ∧ c ≤ 32 ∧ (∀ i, i < c → nd i < 2 * n) ∧ i0 < c ∧ fp b = nI i0 ∧ nd i0 / 2 = b ∧ (∀ j, j < i0 → nd j / 2 ≠ b) ∧ ln i0 = dlx fp len b := by
  obtain ⟨c, nd, ln, pv, ar, pl, obj, par, hB, hP, hc, hnd⟩ := h
  rcases hP.2.2.2 b hb with ⟨h1, h2⟩ | ⟨i, h1, h2, h3, h4⟩
  · have : dlx fp len b = 1000 := if_pos h1
    omega
  · have hl := Bf_lnb hB i h1
    have e : dlx fp len b = ln i := by
      unfold dlx
      rw [if_neg (by rw [h2]; exact nI_ne2 (by omega)), h2, nI_clamp (by omega), (hP.2.1 i h1).2.2, nI_clamp (by omega)]
    exact ⟨c, nd, ln, pv, ar, pl, obj, par, i, hB, hP, hc, hnd, h1, h2, h3, h4, e.symm⟩
theorem side_path (fu : Nat) (hfu : 40000 < fu) {n m : Nat} {S T L : Nat → Nat} {om sm : Int32} {lm cm tm : Nat → Int32} (hp : SyP n m S T L) (hx : Sy n m S T L om sm lm cm tm) {above : Nat → Nat → Int32} {w : Nat → Nat → Bool} (hw : Rt above w) {sd f g st ot : Nat} (hsd : sdP sd f g st ot) (hst : st < m) (hot : ot < m) {M : Nat → Nat → Int32} (hM : BfP (EN m S T L w (L st) (L ot)) (fun z => z = 2 * T st) (M sd)) {arr fp len prv : Nat → Int32} (hS : SpF n m S T L w (L st) (L ot) (T st) arr fp len prv) {b : Nat} (hb : b < n) (hd : dlx fp len b < 1000) :
    ∃ (d : Nat) (pth : Nat → Nat), d < 32 ∧ (∀ j, j < d → pth j < 32) ∧ (∀ v, inN v d = false → f_X9_stepTo fu arr fp len prv (nI b) v = some (-2)) ∧ (∀ j, j < d → f_X9_stepTo fu arr fp len prv (nI b) (nI j) = some (nI (pth j))) ∧ f_X9_lengthTo fp len (nI b) = some (nI d) ∧ ∀ (pl0 : Int32) (lf0 path0 : Nat → Int32), ∃ (lf path : Nat → Int32), f_X12_findPath fu sm (nI f) (nI g) pl0 above lm lf0 M path0 cm tm (nI sd) (nI b) = some (lf, path, nI d) ∧ ∀ j, j < d → path j = nI (pth j) := by
  have hn := hp.1
  have hm := hp.2.1
  have hdl := dl_eq hS hM (show b < 16 by omega)
  have hLT := x_lengthTo hS (show b < 16 by omega) hd
  obtain ⟨c, nd, ln, pv, ar, pl, obj, par, i0, hB, hP, hc, hnd, h1, h2, h3, h4, h5⟩ := sp_first hS (show b < 16 by omega) hd
  have hl := Bf_lnb hB i0 h1
  have key := fun v => x_stepTo (n := n) fu (by omega) hB hP hc (show b < 16 by omega) h1 h2 h5 v
  refine ⟨dlx fp len b, fun j => ar (up pv (dlx fp len b - 1 - j) i0), by omega, fun j hj => ?_, fun v hv => (key v).1 hv, fun j hj => (key (nI j)).2 j hj rfl, hLT, fun pl0 lf0 path0 => ?_⟩
  · obtain ⟨g1, g2⟩ := Bf_up hB h1 (dlx fp len b - 1 - j) (by omega)
    have hpos : 0 < up pv (dlx fp len b - 1 - j) i0 := by
      refine Nat.pos_of_ne_zero (fun h0 => ?_)
      rw [h0, hB.2.2.1] at g2
      omega
    have := (hB.2.2.2.2.1 _ hpos g1).2.1
    show ar (up pv (dlx fp len b - 1 - j) i0) < 32
    omega
  · obtain ⟨⟨lf, path, q⟩, e1, e2, e3⟩ := m_path fu hfu hp hx hw hsd hst hot pl0 lf0 path0 hM hB hc hnd hb h1 h3 h4 h5 hdl.symm
    have e2 : q = nI (dlx fp len b) := e2
    subst e2
    exact ⟨lf, path, e1, e3⟩
theorem s_joinStep (fu : Nat) (hfu : 40000 < fu) {n m : Nat} {S T L : Nat → Nat} {ox sx om sm : Int32} {lx cx tx lm cm tm : Nat → Int32} (hp : SyP n m S T L) (hx : Sy n m S T L ox sx lx cx tx) (hm : Sy n m S T L om sm lm cm tm) {below : Nat → Int32} {above : Nat → Nat → Int32} {w : Nat → Nat → Bool} (hb : Rb below w) (ha : Rt above w) (lbo lbe lot lpl pc rbo rbe rot rpl : Int32) (lar lfp lle lob lpa lpr f0 g0 rar rfp rle rob rpa rpr : Nat → Int32) (a0 b0 pl0 : Int32) (lf0 path0 : Nat → Int32) (M0 : Nat → Nat → Int32) (v1 v2 v3 : Int32) :
    ∃ (r : Int32) (X : (Nat → Int32) × (Nat → Nat → Int32)) (Y : (Nat → Int32) × (Nat → Nat → Int32) × (Nat → Nat → Nat → Int32)), f_X11_joinStep fu lbo lbe lot lpl pc rbo rbe rot rpl ox sx lar lfp lle lob lpa lpr below f0 g0 rar rfp rle rob rpa rpr lx cx tx v1 v2 v3 = some (r, X) ∧ f_X12_joinStep fu om sm a0 b0 pl0 above lm lf0 M0 path0 cm tm v1 v2 v3 = some (r, Y) := by
  have hn := hp.1
  obtain ⟨r, R1, R2, e1, e2⟩ := x_findValley fu (by omega) hp hx hb lbo lbe lot lpl rbo rbe rot rpl lar lfp lle lob lpa lpr f0 g0 rar rfp rle rob rpa rpr v1
  obtain ⟨⟨t, a, b⟩, e4, e5⟩ := m_peak fu (by omega) hp hm a0 b0 v1
  unfold f_X11_joinStep f_X12_joinStep
  rw [e4, side_x, side_m]
  simp only [Option.bind_some, bI_ifn]
  cases hv2 : inN v2 2 with
  | false =>
    simp only [↓reduceIte, Bool.false_eq_true]
    rcases e5 with ⟨g1, _⟩ | ⟨g1, _⟩
    · have g1 : t = 1 := g1
      subst g1
      rw [if_neg (by decide)]
      exact ⟨_, _, _, rfl, rfl⟩
    · cases g1
      rw [if_pos rfl]
      exact ⟨_, _, _, rfl, rfl⟩
  | true =>
    simp only [↓reduceIte]
    rw [e1]
    simp only [Option.bind_some, lt]
    rcases e2 with ⟨h1, rfl⟩ | ⟨i, p, h1, rfl, h2, h3, h4, h5, h6, h7⟩
    · rw [if_neg (by decide)]
      rw [h1] at e5
      rcases e5 with ⟨_, h2, _⟩ | ⟨h2, _⟩
      · cases h2
      · cases h2
        rw [if_pos rfl]
        exact ⟨_, _, _, rfl, rfl⟩
    · rw [h1] at e5
      rcases e5 with ⟨g1, _, i2, p2, g2, g3, g4, g5⟩ | ⟨_, g2⟩
      · have hlen := PK_len S hp.2.1
        have i1 := (List.getElem?_eq_some_iff.mp h2).1
        have i2' := (List.getElem?_eq_some_iff.mp g3).1
        rw [nI_eq (by omega) (by omega)] at g2
        subst g2
        rw [h2] at g3
        cases g3
        have g1 : t = 1 := g1
        have g4 : a = nI p.1 := g4
        have g5 : b = nI p.2 := g5
        subst g1 g4 g5
        have hpk := PK_at h2
        rw [if_neg (show ¬ (1 : Int32) = 0 by decide)]
        obtain ⟨r2, M, q1, q2, q3, q4, _⟩ := m_val2 fu hfu hp hm ha (show p.1 < m by omega) (show p.2 < m by omega) M0
        rw [q1]
        simp only [Option.bind_some]
        have : r = r2 := valS_eq (fun b hb => dl_eq h5 q2 (by omega)) (fun b hb => dl_eq h6 q3 (by omega)) h7 q4
        subst this
        rcases valS_0 hn h7 with rfl | ⟨b, hb1, rfl, hd0, hd1⟩
        · rw [if_neg (by decide), if_neg (fun h => h rfl)]
          exact ⟨_, _, _, rfl, rfl⟩
        · rw [if_pos (nI_pos' (by omega)), if_pos (nI_ne2 (by omega))]
          obtain ⟨j, hj, rfl⟩ := inN_of (by decide) hv2
          have hj2 : j = 0 ∨ j = 1 := by omega
          rcases hj2 with rfl | rfl
          · rw [if_pos (show nI 0 = 0 from rfl)]
            obtain ⟨d, pth, k1, k2, k3, k4, _, k6⟩ := side_path fu hfu hp hm ha (sd := 0) (f := p.1) (g := p.2) (Or.inl ⟨rfl, rfl, rfl⟩) (show p.1 < m by omega) (show p.2 < m by omega) q2 h5 hb1 hd0
            obtain ⟨lf, path, k7, k8⟩ := k6 pl0 lf0 path0
            rw [k7]
            simp (disch := omega) only [Option.bind_some, btw_e, bI_if]
            cases hv3 : inN v3 d with
            | false =>
              rw [k3 v3 hv3]
              exact ⟨_, _, _, rfl, rfl⟩
            | true =>
              obtain ⟨j, hj, rfl⟩ := inN_of (by omega) hv3
              rw [k4 j hj]
              simp (disch := omega) only [↓reduceIte, ck_nI, nI_clamp, k8 j hj, Option.bind_some]
              exact ⟨_, _, _, rfl, rfl⟩
          · rw [if_neg (show ¬ nI 1 = 0 by decide)]
            obtain ⟨d, pth, k1, k2, k3, k4, _, k6⟩ := side_path fu hfu hp hm ha (sd := 1) (f := p.1) (g := p.2) (Or.inr ⟨rfl, rfl, rfl⟩) (show p.2 < m by omega) (show p.1 < m by omega) q3 h6 hb1 hd1
            obtain ⟨lf, path, k7, k8⟩ := k6 pl0 lf0 path0
            rw [k7]
            simp (disch := omega) only [Option.bind_some, btw_e, bI_if]
            cases hv3 : inN v3 d with
            | false =>
              rw [k3 v3 hv3]
              exact ⟨_, _, _, rfl, rfl⟩
            | true =>
              obtain ⟨j, hj, rfl⟩ := inN_of (by omega) hv3
              rw [k4 j hj]
              simp (disch := omega) only [↓reduceIte, ck_nI, nI_clamp, k8 j hj, Option.bind_some]
              exact ⟨_, _, _, rfl, rfl⟩
      · cases g2
