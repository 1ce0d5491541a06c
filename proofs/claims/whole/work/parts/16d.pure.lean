/-! ===== text ===== -/
def TxX (l : List Nat) (tl : Int32) (sg : Nat → Int32) : Prop := tl = nI l.length ∧ ∀ i c, l[i]? = some c → sg i = nI c
def numT (a : Nat) : List Nat := if a < 10 then [48 + a] else [48 + a / 10, 48 + a % 10]
theorem numT_len (a : Nat) : (numT a).length ≤ 2 := by
  unfold numT
  split <;> simp
theorem TxX_app {l : List Nat} {tl : Int32} {sg : Nat → Int32} (h : TxX l tl sg) (c : Nat) : TxX (l ++ [c]) (nI (l.length + 1)) (upd sg l.length (nI c)) := by
  refine ⟨by rw [List.length_append]; rfl, fun i x hi => ?_⟩
  rw [upd_e]
  by_cases h1 : i = l.length
  · subst h1
    rw [List.getElem?_append_right (Nat.le_refl _), Nat.sub_self] at hi
    have hi : some c = some x := hi
    cases hi
    rw [if_pos rfl]
  · rw [if_neg h1]
    rcases Nat.lt_or_ge i l.length with h2 | h2
    · rw [List.getElem?_append_left h2] at hi
      exact h.2 i x hi
    · have : (l ++ [c])[i]? = none := List.getElem?_eq_none (by rw [List.length_append]; show l.length + 1 ≤ i; omega)
      rw [this] at hi
      cases hi
theorem char_nar : ∀ c, c < 128 → vp_nar .char (nI c) = nI c := by decide +kernel
theorem x_putSign {l : List Nat} {tl : Int32} {sg : Nat → Int32} (h : TxX l tl sg) (hl : l.length < 202) {c : Nat} (hc : c < 128) : ∃ tl' sg', f_X6_putSign tl sg (nI c) = some (tl', sg') ∧ TxX (l ++ [c]) tl' sg' := by
  have h0 := h.1
  subst h0
  unfold f_X6_putSign
  rw [show (202 : Int32) = nI 202 from rfl, if_neg (nI_ge (a := l.length) hl (by decide)), char_nar c hc]
  simp (disch := omega) only [ck_nI, nI_clamp, lt, nI_1]
  exact ⟨_, _, rfl, TxX_app h c⟩
theorem m_write {l : List Nat} {tl : Int32} {sg : Nat → Int32} (h : TxX l tl sg) (hl : l.length < 400) (c : Nat) : ∃ sg' tl', f_X12_write tl sg (nI c) = some (sg', tl') ∧ TxX (l ++ [c]) tl' sg' := by
  have h0 := h.1
  subst h0
  unfold f_X12_write
  simp (disch := omega) only [ck_nI, nI_clamp, lt, nI_1]
  exact ⟨_, _, rfl, TxX_app h c⟩
theorem dig_x : ∀ a, a < 100 → (((48 + (nI a - nI a / 10 * 10)).toUInt32 % 65536).toInt32) = nI (48 + a % 10) ∧ (((48 + (nI a / 10)).toUInt32 % 65536).toInt32) = nI (48 + a / 10) := by decide +kernel
theorem dig_m : ∀ a, a < 100 → 48 + (nI a - nI a / 10 * 10) = nI (48 + a % 10) ∧ 48 + (nI a / 10) = nI (48 + a / 10) := by decide +kernel
theorem x_putNumber {l : List Nat} {tl : Int32} {sg : Nat → Int32} (h : TxX l tl sg) (hl : l.length + 2 ≤ 202) {a : Nat} (ha : a < 100) : ∃ tl' sg', f_X6_putNumber tl sg (nI a) = some (tl', sg') ∧ TxX (l ++ numT a) tl' sg' := by
  unfold f_X6_putNumber f_X6_putNumber_J18 numT
  rw [(dig_x a ha).1, (dig_x a ha).2, show (10 : Int32) = nI 10 from rfl]
  by_cases h10 : a < 10
  · rw [if_pos (nI_lt h10 (by decide)), if_pos h10, show 48 + a % 10 = 48 + a by omega]
    obtain ⟨tl', sg', e1, e2⟩ := x_putSign h (by omega) (show 48 + a < 128 by omega)
    rw [e1]
    exact ⟨_, _, rfl, e2⟩
  · rw [if_neg (nI_nlt (by omega) (by omega)), if_neg h10]
    obtain ⟨tl', sg', e1, e2⟩ := x_putSign h (by omega) (show 48 + a / 10 < 128 by omega)
    rw [e1]
    simp only [Option.bind_some]
    obtain ⟨tl2, sg2, e3, e4⟩ := x_putSign e2 (by rw [List.length_append]; show l.length + 1 < 202; omega) (show 48 + a % 10 < 128 by omega)
    rw [e3]
    rw [List.append_assoc] at e4
    exact ⟨_, _, rfl, e4⟩
theorem m_writeNumber {l : List Nat} {tl : Int32} {sg : Nat → Int32} (h : TxX l tl sg) (hl : l.length + 2 ≤ 400) {a : Nat} (ha : a < 100) : ∃ sg' tl', f_X12_writeNumber tl sg (nI a) = some (sg', tl') ∧ TxX (l ++ numT a) tl' sg' := by
  unfold f_X12_writeNumber f_X12_writeNumber_J17 numT
  rw [(dig_m a ha).1, (dig_m a ha).2, show (10 : Int32) = nI 10 from rfl]
  by_cases h10 : a < 10
  · rw [if_pos (nI_lt h10 (by decide)), if_pos h10, show 48 + a % 10 = 48 + a by omega]
    obtain ⟨tl', sg', e1, e2⟩ := m_write h (by omega) (48 + a)
    rw [e1]
    exact ⟨_, _, rfl, e2⟩
  · rw [if_neg (nI_nlt (by omega) (by omega)), if_neg h10]
    obtain ⟨tl', sg', e1, e2⟩ := m_write h (by omega) (48 + a / 10)
    rw [e1]
    simp only [Option.bind_some]
    obtain ⟨tl2, sg2, e3, e4⟩ := m_write e2 (by rw [List.length_append]; show l.length + 1 < 400; omega) (48 + a % 10)
    rw [e3]
    rw [List.append_assoc] at e4
    exact ⟨_, _, rfl, e4⟩
def ptx (pth : Nat → Nat) : Nat → List Nat
  | 0 => []
  | j + 1 => ptx pth j ++ ([46] ++ numT (pth j))
theorem ptx_len (pth : Nat → Nat) : ∀ j, (ptx pth j).length ≤ 3 * j := by
  intro j
  induction j with
  | zero => exact Nat.le_refl 0
  | succ j ih =>
    show (ptx pth j ++ ([46] ++ numT (pth j))).length ≤ 3 * (j + 1)
    rw [List.length_append, List.length_append]
    have := numT_len (pth j)
    have h1 : [46].length = 1 := rfl
    omega
def pkT (S T : Nat → Nat) (f g : Nat) : List Nat := numT (T f) ++ [60] ++ numT f ++ [45] ++ numT (S f) ++ [45] ++ numT g ++ [62] ++ numT (T g)
theorem pkT_len (S T : Nat → Nat) (f g : Nat) : (pkT S T f g).length ≤ 14 := by
  unfold pkT
  simp only [List.length_append, List.length_cons, List.length_nil]
  have := numT_len (T f)
  have := numT_len f
  have := numT_len (S f)
  have := numT_len g
  have := numT_len (T g)
  omega
theorem x_writePeak {n m : Nat} {S T L : Nat → Nat} {ox sx : Int32} {lx cx tx : Nat → Int32} (hp : SyP n m S T L) (hx : Sy n m S T L ox sx lx cx tx) {f g : Nat} (hf : f < m) (hg : g < m) (sg : Nat → Int32) : ∃ tl' sg', f_X11_writePeak 0 cx tx sg (nI f) (nI g) = some (tl', sg') ∧ TxX (pkT S T f g) tl' sg' := by
  have hm := hp.2.1
  have hn := hp.1
  have hF := hp.2.2 f hf
  have hG := hp.2.2 g hg
  have n1 := numT_len (T f)
  have n2 := numT_len f
  have n3 := numT_len (S f)
  have n4 := numT_len g
  have n5 := numT_len (T g)
  unfold f_X11_writePeak pkT
  simp (disch := omega) only [ck_nI, nI_clamp]
  rw [hx.2.2.2.2 f hf, hx.2.2.2.1 f hf, hx.2.2.2.2 g hg]
  have h0 : TxX [] 0 sg := ⟨rfl, fun i c h => by cases h⟩
  obtain ⟨t1, s1, a1, b1⟩ := x_putNumber h0 (by decide) (show T f < 100 by omega)
  rw [a1]
  simp only [Option.bind_some]
  rw [List.nil_append] at b1
  obtain ⟨t2, s2, a2, b2⟩ := x_putSign b1 (by omega) (show 60 < 128 by decide)
  rw [show f_X6_putSign t1 s1 60 = some (t2, s2) from a2]
  simp only [Option.bind_some]
  obtain ⟨t3, s3, a3, b3⟩ := x_putNumber b2 (by simp only [List.length_append, List.length_cons, List.length_nil]; omega) (show f < 100 by omega)
  rw [a3]
  simp only [Option.bind_some]
  obtain ⟨t4, s4, a4, b4⟩ := x_putSign b3 (by simp only [List.length_append, List.length_cons, List.length_nil]; omega) (show 45 < 128 by decide)
  rw [show f_X6_putSign t3 s3 45 = some (t4, s4) from a4]
  simp only [Option.bind_some]
  obtain ⟨t5, s5, a5, b5⟩ := x_putNumber b4 (by simp only [List.length_append, List.length_cons, List.length_nil]; omega) (show S f < 100 by omega)
  rw [a5]
  simp only [Option.bind_some]
  obtain ⟨t6, s6, a6, b6⟩ := x_putSign b5 (by simp only [List.length_append, List.length_cons, List.length_nil]; omega) (show 45 < 128 by decide)
  rw [show f_X6_putSign t5 s5 45 = some (t6, s6) from a6]
  simp only [Option.bind_some]
  obtain ⟨t7, s7, a7, b7⟩ := x_putNumber b6 (by simp only [List.length_append, List.length_cons, List.length_nil]; omega) (show g < 100 by omega)
  rw [a7]
  simp only [Option.bind_some]
  obtain ⟨t8, s8, a8, b8⟩ := x_putSign b7 (by simp only [List.length_append, List.length_cons, List.length_nil]; omega) (show 62 < 128 by decide)
  rw [show f_X6_putSign t7 s7 62 = some (t8, s8) from a8]
  simp only [Option.bind_some]
  obtain ⟨t9, s9, a9, b9⟩ := x_putNumber b8 (by simp only [List.length_append, List.length_cons, List.length_nil]; omega) (show T g < 100 by omega)
  rw [a9]
  exact ⟨_, _, rfl, b9⟩
theorem m_writePath (fu : Nat) (hfu : 40 < fu) {sm a0 b0 pl0 : Int32} {above : Nat → Nat → Int32} {lm lf0 : Nat → Int32} {M : Nat → Nat → Int32} {path0 cm tm : Nat → Int32} {sd b d : Nat} {pth : Nat → Nat} (hd : d < 32) (hpt : ∀ j, j < d → pth j < 32) {lf path : Nat → Int32} (hfp : f_X12_findPath fu sm a0 b0 pl0 above lm lf0 M path0 cm tm (nI sd) (nI b) = some (lf, path, nI d)) (hpath : ∀ j, j < d → path j = nI (pth j)) {l : List Nat} {tl : Int32} {sg : Nat → Int32} (h : TxX l tl sg) (hl : l.length + 3 * d ≤ 400) :
    ∃ sg' tl', f_X12_writePath fu sm a0 b0 pl0 tl above lm lf0 M sg path0 cm tm (nI sd) (nI b) = some (lf, sg', tl', path, nI d) ∧ TxX (l ++ ptx pth d) tl' sg' := by
  have : tot (f_X12_writePath fu sm a0 b0 pl0 tl above lm lf0 M sg path0 cm tm (nI sd) (nI b)) (fun q => q = (lf, q.2.1, q.2.2.1, path, nI d) ∧ TxX (l ++ ptx pth d) q.2.2.1 q.2.1) := by
    unfold f_X12_writePath
    rw [hfp]
    simp only [Option.bind_some]
    refine tot_lt (lw3 (fun k v sg tl => ∃ j, v = nI j ∧ j + k = d ∧ TxX (l ++ ptx pth j) tl sg) ?_ fu d _ _ _ (by omega) ⟨0, rfl, by omega, by show TxX (l ++ []) tl sg; rw [List.append_nil]; exact h⟩)
    rintro r k v sg tl ⟨j, rfl, hj, hT⟩ ih
    unfold f_X12_writePath_L8
    by_cases hjd : j = d
    · subst hjd
      rw [if_pos (nI_le (Nat.le_refl j) (by omega))]
      exact tot_some ⟨rfl, hT⟩
    · rw [if_neg (nI_ge (a := j) (by omega) (by omega))]
      have n1 := ptx_len pth j
      have n2 := hpt j (by omega)
      obtain ⟨s1, t1, a1, b1⟩ := m_write hT (by rw [List.length_append]; omega) 46
      rw [show f_X12_write tl sg 46 = some (s1, t1) from a1]
      simp (disch := omega) only [Option.bind_some, ck_nI, nI_clamp]
      rw [hpath j (by omega)]
      obtain ⟨s2, t2, a2, b2⟩ := m_writeNumber b1 (by simp only [List.length_append, List.length_cons, List.length_nil]; omega) (show pth j < 100 by omega)
      rw [a2]
      simp only [Option.bind_some, lt, nI_1]
      refine ih (k - 1) _ _ _ (by omega) ⟨j + 1, rfl, by omega, ?_⟩
      show TxX (l ++ (ptx pth j ++ ([46] ++ numT (pth j)))) t2 s2
      rw [List.append_assoc, List.append_assoc] at b2
      exact b2
  obtain ⟨⟨a, b, c, d', e⟩, e1, e2, e3⟩ := this
  cases e2
  exact ⟨_, _, e1, e3⟩
