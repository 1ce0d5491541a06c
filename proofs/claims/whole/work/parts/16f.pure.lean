theorem m_writePeak {n m : Nat} {S T L : Nat → Nat} {om sm : Int32} {lm cm tm : Nat → Int32} (hp : SyP n m S T L) (hx : Sy n m S T L om sm lm cm tm) {f g : Nat} (hf : f < m) (hg : g < m) (sg : Nat → Int32) {R : Type} (K : (Nat → Int32) → Int32 → Option R) :
    ∃ sg' tl', (f_X12_writeNumber 0 sg (tm f)).bind (fun r_25 => (f_X12_write r_25.2 r_25.1 60).bind (fun r_31 => (f_X12_writeNumber r_31.2 r_31.1 (nI f)).bind (fun r_39 => (f_X12_write r_39.2 r_39.1 45).bind (fun r_45 => (f_X12_writeNumber r_45.2 r_45.1 (cm f)).bind (fun r_58 => (f_X12_write r_58.2 r_58.1 45).bind (fun r_64 => (f_X12_writeNumber r_64.2 r_64.1 (nI g)).bind (fun r_72 => (f_X12_write r_72.2 r_72.1 62).bind (fun r_78 => (f_X12_writeNumber r_78.2 r_78.1 (tm g)).bind (fun r_91 => K r_91.1 r_91.2))))))))) = K sg' tl' ∧ TxX (pkT S T f g) tl' sg' := by
  have hm := hp.2.1
  have hn := hp.1
  have hF := hp.2.2 f hf
  have hG := hp.2.2 g hg
  have n1 := numT_len (T f)
  have n2 := numT_len f
  have n3 := numT_len (S f)
  have n4 := numT_len g
  have n5 := numT_len (T g)
  unfold pkT
  rw [hx.2.2.2.2 f hf, hx.2.2.2.1 f hf, hx.2.2.2.2 g hg]
  have h0 : TxX [] 0 sg := ⟨rfl, fun i c h => by cases h⟩
  obtain ⟨s1, t1, a1, b1⟩ := m_writeNumber h0 (by decide) (show T f < 100 by omega)
  rw [a1]
  simp only [Option.bind_some]
  rw [List.nil_append] at b1
  obtain ⟨s2, t2, a2, b2⟩ := m_write b1 (by omega) 60
  rw [show f_X12_write t1 s1 60 = some (s2, t2) from a2]
  simp only [Option.bind_some]
  obtain ⟨s3, t3, a3, b3⟩ := m_writeNumber b2 (by simp only [List.length_append, List.length_cons, List.length_nil]; omega) (show f < 100 by omega)
  rw [a3]
  simp only [Option.bind_some]
  obtain ⟨s4, t4, a4, b4⟩ := m_write b3 (by simp only [List.length_append, List.length_cons, List.length_nil]; omega) 45
  rw [show f_X12_write t3 s3 45 = some (s4, t4) from a4]
  simp only [Option.bind_some]
  obtain ⟨s5, t5, a5, b5⟩ := m_writeNumber b4 (by simp only [List.length_append, List.length_cons, List.length_nil]; omega) (show S f < 100 by omega)
  rw [a5]
  simp only [Option.bind_some]
  obtain ⟨s6, t6, a6, b6⟩ := m_write b5 (by simp only [List.length_append, List.length_cons, List.length_nil]; omega) 45
  rw [show f_X12_write t5 s5 45 = some (s6, t6) from a6]
  simp only [Option.bind_some]
  obtain ⟨s7, t7, a7, b7⟩ := m_writeNumber b6 (by simp only [List.length_append, List.length_cons, List.length_nil]; omega) (show g < 100 by omega)
  rw [a7]
  simp only [Option.bind_some]
  obtain ⟨s8, t8, a8, b8⟩ := m_write b7 (by simp only [List.length_append, List.length_cons, List.length_nil]; omega) 62
  rw [show f_X12_write t7 s7 62 = some (s8, t8) from a8]
  simp only [Option.bind_some]
  obtain ⟨s9, t9, a9, b9⟩ := m_writeNumber b8 (by simp only [List.length_append, List.length_cons, List.length_nil]; omega) (show T g < 100 by omega)
  rw [a9]
  exact ⟨_, _, rfl, b9⟩
theorem s_draw (fu : Nat) (hfu : 40000 < fu) {n m : Nat} {S T L : Nat → Nat} {ox sx om sm : Int32} {lx cx tx lm cm tm : Nat → Int32} (hp : SyP n m S T L) (hx : Sy n m S T L ox sx lx cx tx) (hm : Sy n m S T L om sm lm cm tm) {below : Nat → Int32} {above : Nat → Nat → Int32} {w : Nat → Nat → Bool} (hb : Rb below w) (ha : Rt above w) (lbo lbe lot lpl rbo rbe rot rpl tl : Int32) (lar lfp lle lob lpa lpr f0 g0 rar rfp rle rob rpa rpr sg : Nat → Int32) (a0 b0 pl0 ol : Int32) (lf0 out path0 : Nat → Int32) (M0 : Nat → Nat → Int32) {l0 : List Nat} (hl0 : l0.length ≤ 202) (ht1 : TxX l0 tl sg) (ht2 : TxX l0 ol out) (v1 : Int32) :
    ∃ (r : Int32) (V1 : Nat → Int32) (V2 : Nat → Nat → Int32) (W1 : Nat → Int32) (W2 : Nat → Nat → Int32) (W3 : Nat → Nat → Nat → Int32) (l : List Nat), f_X11_draw fu lbo lbe lot lpl rbo rbe rot rpl ox sx tl lar lfp lle lob lpa lpr below f0 g0 rar rfp rle rob rpa rpr lx cx tx sg v1 = some (r, V1, V2) ∧ f_X12_draw fu om sm a0 b0 pl0 ol above lm lf0 M0 out path0 cm tm v1 = some (r, W1, W2, W3) ∧ l.length ≤ 202 ∧ TxX l (V1 9) (V2 14) ∧ TxX l (W1 1) (W2 1) := by
  have hn := hp.1
  have hm32 := hp.2.1
  obtain ⟨r, R1, R2, e1, e2⟩ := x_findValley fu (by omega) hp hx hb lbo lbe lot lpl rbo rbe rot rpl lar lfp lle lob lpa lpr f0 g0 rar rfp rle rob rpa rpr v1
  obtain ⟨⟨t, a, b⟩, e4, e5⟩ := m_peak fu (by omega) hp hm a0 b0 v1
  unfold f_X11_draw f_X12_draw
  rw [e4, e1]
  simp only [Option.bind_some, lt]
  rcases e2 with ⟨h1, rfl⟩ | ⟨i, p, h1, rfl, h2, h3, h4, h5, h6, h7⟩
  · rw [if_neg (show ¬ ¬ (-1 : Int32) = -1 from fun h => h rfl)]
    rw [h1] at e5
    rcases e5 with ⟨_, h2, _⟩ | ⟨h2, _⟩
    · cases h2
    · cases h2
      rw [if_neg (show ¬ ¬ (0 : Int32) = 0 from fun h => h rfl)]
      exact ⟨_, _, _, _, _, _, l0, rfl, rfl, hl0, ht1, ht2⟩
  · rw [h1] at e5
    rcases e5 with ⟨g1, _, i2, p2, g2, g3, g4, g5⟩ | ⟨_, g2⟩
    · have hlen := PK_len S hp.2.1
      have i1 := (List.getElem?_eq_some_iff.mp h2).1
      have i2' := (List.getElem?_eq_some_iff.mp g3).1
      rw [nI_eq (by omega) (by omega)] at g2
      subst g2
      rw [h2] at g3
      cases g3
      have g1 : t = 1 := g1
      have g4 : a = nI p.1 := g4
      have g5 : b = nI p.2 := g5
      subst g1 g4 g5
      have hpk := PK_at h2
      have hF := hp.2.2 p.1 (by omega)
      have hG := hp.2.2 p.2 (by omega)
      rw [if_pos (show ¬ (1 : Int32) = 0 by decide)]
      obtain ⟨r2, M, q1, q2, q3, q4, _⟩ := m_val2 fu hfu hp hm ha (show p.1 < m by omega) (show p.2 < m by omega) M0
      have : r = r2 := valS_eq (fun b hb => dl_eq h5 q2 (by omega)) (fun b hb => dl_eq h6 q3 (by omega)) h7 q4
      subst this
      have hr1 : ¬ r = -1 := by
        rcases valS_0 hn h7 with rfl | ⟨b, hb1, rfl, _, _⟩
        · decide
        · intro hc
          have : (nI b).toInt = (-1 : Int32).toInt := by rw [hc]
          rw [nI_toInt (by omega)] at this
          have h22 : (-1 : Int32).toInt = -1 := by decide
          omega
      rw [if_pos hr1]
      have hclr : f_X6_clear = some 0 := rfl
      rw [hclr]
      simp (disch := omega) only [Option.bind_some, ck_nI, nI_clamp]
      rw [h3, h4]
      obtain ⟨t1, s1, a1, b1⟩ := x_writePeak hp hx (show p.1 < m by omega) (show p.2 < m by omega) sg
      rw [a1]
      simp only [Option.bind_some]
      obtain ⟨s2, t2, a2, b2⟩ := m_writePeak hp hm (show p.1 < m by omega) (show p.2 < m by omega) out (fun r91a r91b => (f_X12_valleyOfPeak fu om sm (nI p.1) (nI p.2) above lm M0 cm tm).bind (fun r_95 => if ¬ r_95.1 = (-2) then ((f_X12_write r91b r91a 58).bind (fun r_119 => (f_X12_writePath fu sm (nI p.1) (nI p.2) pl0 r_119.2 above lm lf0 r_95.2 r_119.1 path0 cm tm 0 r_95.1).bind (fun r_125 => (f_X12_write r_125.2.2.1 r_125.2.1 44).bind (fun r_131 => (f_X12_writePath fu sm (nI p.1) (nI p.2) r_125.2.2.2.2 r_131.2 above lm r_125.1 r_95.2 r_131.1 r_125.2.2.2.1 cm tm 1 r_95.1).bind (fun r_137 => some (r_137.2.2.1, vv (0 : Int32) [(nI p.1), r_137.2.2.1, r_137.2.2.2.2, (nI p.2)], vv (fun _ => (0 : Int32)) [r_137.1, r_137.2.1, r_137.2.2.2.1], vv (fun _ _ => (0 : Int32)) [r_95.2])))))) else ((f_X12_write r91b r91a 33).bind (fun r_108 => some (r_108.2, vv (0 : Int32) [(nI p.1), r_108.2, pl0, (nI p.2)], vv (fun _ => (0 : Int32)) [lf0, r_108.1, path0], vv (fun _ _ => (0 : Int32)) [r_95.2])))))
      have n0 := pkT_len S T p.1 p.2
      rcases valS_0 hn h7 with rfl | ⟨b, hb1, rfl, hd0, hd1⟩
      · rw [if_neg (show ¬ ¬ (-2 : Int32) = -2 from fun h => h rfl)]
        obtain ⟨t3, s3, a3, b3⟩ := x_putSign b1 (by omega) (show 33 < 128 by decide)
        rw [show f_X6_putSign t1 s1 33 = some (t3, s3) from a3]
        obtain ⟨s4, t4, a4, b4⟩ := m_write b2 (by omega) 33
        have ht : t3 = t4 := b3.1.trans b4.1.symm
        subst ht
        refine ⟨t3, _, _, vv (0 : Int32) [nI p.1, t3, pl0, nI p.2], vv (fun _ => (0 : Int32)) [lf0, s4, path0], vv (fun _ _ => (0 : Int32)) [M], _, rfl, a2.trans ?_, ?_, b3, b4⟩
        · show (f_X12_valleyOfPeak fu om sm (nI p.1) (nI p.2) above lm M0 cm tm).bind _ = _
          rw [q1]
          show (f_X12_write t2 s2 33).bind _ = _
          rw [show f_X12_write t2 s2 33 = some (s4, t3) from a4]
          rfl
        · simp only [List.length_append, List.length_cons, List.length_nil]
          omega
      · rw [if_pos (nI_ne2 (show b < 2 ^ 31 by omega))]
        obtain ⟨d, pth, k1, k2, k3, k4, k5, k6⟩ := side_path fu hfu hp hm ha (sd := 0) (f := p.1) (g := p.2) (Or.inl ⟨rfl, rfl, rfl⟩) (show p.1 < m by omega) (show p.2 < m by omega) q2 h5 hb1 hd0
        obtain ⟨d', pth', k1', k2', k3', k4', k5', k6'⟩ := side_path fu hfu hp hm ha (sd := 1) (f := p.1) (g := p.2) (Or.inr ⟨rfl, rfl, rfl⟩) (show p.2 < m by omega) (show p.1 < m by omega) q3 h6 hb1 hd1
        have n1 := ptx_len pth d
        have n2 := ptx_len pth' d'
        obtain ⟨t3, s3, a3, b3⟩ := x_putSign b1 (by omega) (show 58 < 128 by decide)
        rw [show f_X6_putSign t1 s1 58 = some (t3, s3) from a3]
        simp only [Option.bind_some]
        obtain ⟨t4, s4, a4, b4⟩ := x_writePath fu (by omega) k1 k2 k4 k5 b3 (by simp only [List.length_append, List.length_cons, List.length_nil]; omega)
        rw [a4]
        simp only [Option.bind_some]
        obtain ⟨t5, s5, a5, b5⟩ := x_putSign b4 (by simp only [List.length_append, List.length_cons, List.length_nil]; omega) (show 44 < 128 by decide)
        rw [show f_X6_putSign t4 s4 44 = some (t5, s5) from a5]
        simp only [Option.bind_some]
        obtain ⟨t6, s6, a6, b6⟩ := x_writePath fu (by omega) k1' k2' k4' k5' b5 (by simp only [List.length_append, List.length_cons, List.length_nil]; omega)
        rw [a6]
        simp only [Option.bind_some]
        obtain ⟨u3, v3, c3, d3⟩ := m_write b2 (by omega) 58
        obtain ⟨lf, path, k7, k8⟩ := k6 pl0 lf0 path0
        obtain ⟨u4, v4, c4, d4⟩ := m_writePath fu (by omega) k1 k2 k7 k8 d3 (by simp only [List.length_append, List.length_cons, List.length_nil]; omega)
        obtain ⟨u5, v5, c5, d5⟩ := m_write d4 (by simp only [List.length_append, List.length_cons, List.length_nil]; omega) 44
        obtain ⟨lf2, path2, k7', k8'⟩ := k6' (nI d) lf path
        obtain ⟨u6, v6, c6, d6⟩ := m_writePath fu (by omega) k1' k2' k7' k8' d5 (by simp only [List.length_append, List.length_cons, List.length_nil]; omega)
        have ht : t6 = v6 := b6.1.trans d6.1.symm
        subst ht
        refine ⟨t6, _, _, vv (0 : Int32) [nI p.1, t6, nI d', nI p.2], vv (fun _ => (0 : Int32)) [lf2, u6, path2], vv (fun _ _ => (0 : Int32)) [M], _, rfl, a2.trans ?_, ?_, b6, d6⟩
        · show (f_X12_valleyOfPeak fu om sm (nI p.1) (nI p.2) above lm M0 cm tm).bind _ = _
          rw [q1]
          show (if ¬ nI b = -2 then (f_X12_write t2 s2 58).bind _ else _) = _
          rw [if_pos (nI_ne2 (show b < 2 ^ 31 by omega)), show f_X12_write t2 s2 58 = some (u3, v3) from c3]
          show (f_X12_writePath fu sm (nI p.1) (nI p.2) pl0 v3 above lm lf0 M u3 path0 cm tm 0 (nI b)).bind _ = _
          rw [show f_X12_writePath fu sm (nI p.1) (nI p.2) pl0 v3 above lm lf0 M u3 path0 cm tm 0 (nI b) = _ from c4]
          show (f_X12_write v4 u4 44).bind _ = _
          rw [show f_X12_write v4 u4 44 = some (u5, v5) from c5]
          show (f_X12_writePath fu sm (nI p.1) (nI p.2) (nI d) v5 above lm lf M u5 path cm tm 1 (nI b)).bind _ = _
          rw [show f_X12_writePath fu sm (nI p.1) (nI p.2) (nI d) v5 above lm lf M u5 path cm tm 1 (nI b) = _ from c6]
          rfl
        · simp only [List.length_append, List.length_cons, List.length_nil]
          omega
    · cases g2
theorem s_output {tl ol : Int32} {sg out : Nat → Int32} {l : List Nat} (hl : l.length ≤ 202) (h1 : TxX l tl sg) (h2 : TxX l ol out) (v1 : Int32) : ∃ r, f_X11_output tl sg v1 = some r ∧ f_X12_output ol out v1 = some r := by
  have a1 := h1.1
  have a2 := h2.1
  subst a1 a2
  unfold f_X11_output f_X12_output
  rw [inN_if]
  simp (disch := omega) only [btw_e, Option.bind_some, bI_if]
  cases hv : inN v1 l.length with
  | false => exact ⟨_, rfl, rfl⟩
  | true =>
    obtain ⟨i, hi, rfl⟩ := inN_of (by omega) hv
    simp (disch := omega) only [↓reduceIte, ck_nI, nI_clamp]
    have hc : l[i]? = some (l[i]) := List.getElem?_eq_getElem hi
    rw [h1.2 i _ hc, h2.2 i _ hc]
    exact ⟨_, rfl, rfl⟩
