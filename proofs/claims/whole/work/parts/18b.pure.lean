theorem x_findFirst (fu : Nat) (hfu : 40000 < fu) {n m : Nat} {S T L : Nat → Nat} {ox sx : Int32} {lx cx tx : Nat → Int32} (hp : SyP n m S T L) (hx : Sy n m S T L ox sx lx cx tx) (hm8 : m ≤ 8) {k : Nat} (hk1 : 1 ≤ k) (hk3 : k ≤ 3) {nb : Nat → Int32} (hnb : Rb nb o_nat) (fs0 : Int32) (wx fd0 tl ts tt tw f0 g0 : Nat → Int32) :
    tot (f_X4_findFirst fu ox sx fs0 lx cx tx wx fd0 nb tl ts tt tw f0 g0 (nI k)) (fun q => (q.1 = 0 ∧ (∀ t, t < pw k m → ¬ Gd n m S T k t) ∧ q.2.1 0 = fs0 ∧ q.2.2 0 = fd0) ∨ (q.1 = 1 ∧ ∃ t, t < pw k m ∧ Gd n m S T k t ∧ (∀ u, u < t → ¬ Gd n m S T k u) ∧ q.2.1 0 = nI m ∧ ∀ i, i < m → q.2.2 0 i = nI (dgt k m t i))) := by
  have hm := hp.2.1
  have hpw := pw_le k (by omega) m (by omega)
  unfold f_X4_findFirst
  obtain ⟨⟨a, B1, B2⟩, e1, e2, e3, e4, e5⟩ := x_begin fu (by omega) hp hx hm8 hk1 hk3 wx tl ts tt tw f0 g0
  have e2 : a = nI (pw k m) := e2
  subst e2
  rw [e1]
  simp only [Option.bind_some, lt]
  rw [show B1 0 = nI (PK m S).length from e3]
  have hst : B1 2 = nI m := e4.2.1
  refine lw2 (fun q v lab => ∃ t, v = nI t ∧ t + q = pw k m ∧ (∀ u, u < t → ¬ Gd n m S T k u) ∧ ∀ i, i < m → lab i = nI (dgt k m t i)) ?_ fu (pw k m) _ _ (by omega) ⟨0, rfl, by omega, fun u h => absurd h (Nat.not_lt_zero u), e4.2.2.1⟩
  rintro r q v lab ⟨t, rfl, ht, hno, hl⟩ ih
  unfold f_X4_findFirst_L10 f_X4_findFirst_J36
  by_cases hta : t = pw k m
  · rw [hta, if_pos (nI_le (Nat.le_refl _) (by omega))]
    rw [hta] at hno
    exact tot_some (Or.inl ⟨rfl, hno, rfl, rfl⟩)
  · rw [if_neg (nI_ge (a := t) (by omega) (by omega))]
    have hpt := SyP_dg hp hk1 hk3 t
    have hxt : Sy n m S T (dgt k m t) (B1 1) (B1 2) lab (B2 3) (B2 4) := ⟨e4.1, e4.2.1, hl, e4.2.2.2.1, e4.2.2.2.2⟩
    obtain ⟨w, g1, g2⟩ := x_ff fu (by omega) hpt hxt hnb e5
    have g3 := ffS_G hm g2
    rw [show f_X7_firstFailing fu (B1 1) (B1 2) (nI (PK m S).length) lab (B2 3) (B2 4) nb (B2 0) (B2 1) = some w from g1]
    simp only [Option.bind_some, lt, nI_1]
    by_cases hw : w = -2
    · rw [if_neg (fun h => h hw)]
      refine tot_some (Or.inr ⟨rfl, t, by omega, g3.mp hw, hno, hst, fun i hi => ?_⟩)
      show va_cpy lab fd0 0 0 8 i = _
      rw [cpy_e _ _ _ _ (by omega)]
      exact hl i hi
    · rw [if_pos hw]
      obtain ⟨lab', a1, a2⟩ := x_advance fu (by omega) hk1 hk3 hm8 hl
      rw [hst, a1]
      simp only [Option.bind_some]
      refine ih (q - 1) _ _ (by omega) ⟨t + 1, rfl, by omega, fun u hu => ?_, a2⟩
      by_cases hut : u = t
      · subst hut
        exact fun h => hw (g3.mpr h)
      · exact hno u (by omega)
theorem x_countAll (fu : Nat) (hfu : 40000 < fu) {n m : Nat} {S T L : Nat → Nat} {ox sx : Int32} {lx cx tx : Nat → Int32} (hp : SyP n m S T L) (hx : Sy n m S T L ox sx lx cx tx) (hm8 : m ≤ 8) {k : Nat} (hk1 : 1 ≤ k) (hk3 : k ≤ 3) {nb : Nat → Int32} (hnb : Rb nb o_nat) (wx tl ts tt tw f0 g0 : Nat → Int32) :
    tot (f_X4_countAll fu ox sx lx cx tx wx nb tl ts tt tw f0 g0 (nI k)) (fun q => q.1 = nI (dct (Gd n m S T k) (pw k m))) := by
  have hm := hp.2.1
  have hpw := pw_le k (by omega) m (by omega)
  unfold f_X4_countAll
  obtain ⟨⟨a, B1, B2⟩, e1, e2, e3, e4, e5⟩ := x_begin fu (by omega) hp hx hm8 hk1 hk3 wx tl ts tt tw f0 g0
  have e2 : a = nI (pw k m) := e2
  subst e2
  rw [e1]
  simp only [Option.bind_some, lt]
  rw [show B1 0 = nI (PK m S).length from e3]
  have hst : B1 2 = nI m := e4.2.1
  refine lw3 (fun q c v lab => ∃ t, v = nI t ∧ t + q = pw k m ∧ c = nI (dct (Gd n m S T k) t) ∧ ∀ i, i < m → lab i = nI (dgt k m t i)) ?_ fu (pw k m) _ _ _ (by omega) ⟨0, rfl, by omega, rfl, e4.2.2.1⟩
  rintro r q c v lab ⟨t, rfl, ht, rfl, hl⟩ ih
  unfold f_X4_countAll_L13 f_X4_countAll_J42
  by_cases hta : t = pw k m
  · rw [hta, if_pos (nI_le (Nat.le_refl _) (by omega))]
    exact tot_some rfl
  · rw [if_neg (nI_ge (a := t) (by omega) (by omega))]
    have hpt := SyP_dg hp hk1 hk3 t
    have hxt : Sy n m S T (dgt k m t) (B1 1) (B1 2) lab (B2 3) (B2 4) := ⟨e4.1, e4.2.1, hl, e4.2.2.2.1, e4.2.2.2.2⟩
    obtain ⟨w, g1, g2⟩ := x_ff fu (by omega) hpt hxt hnb e5
    have g3 := ffS_G hm g2
    rw [show f_X7_firstFailing fu (B1 1) (B1 2) (nI (PK m S).length) lab (B2 3) (B2 4) nb (B2 0) (B2 1) = some w from g1]
    obtain ⟨lab', a1, a2⟩ := x_advance fu (by omega) hk1 hk3 hm8 hl
    simp only [Option.bind_some, lt, nI_1]
    rw [hst, a1]
    simp only [Option.bind_some]
    by_cases hw : w = -2
    · rw [if_neg (fun h => h hw)]
      exact ih (q - 1) _ _ _ (by omega) ⟨t + 1, rfl, by omega, by rw [dct_y (g3.mp hw)], a2⟩
    · rw [if_pos hw]
      exact ih (q - 1) _ _ _ (by omega) ⟨t + 1, rfl, by omega, by rw [dct_n (fun h => hw (g3.mpr h))], a2⟩
/-! the reference's search -/
def SrI (n m : Nat) (S T : Nat → Nat) (k : Nat) (st : Bool) (fd0 : Nat → Int32) (fs0 : Int32) (t : Nat) (v4 : Int32) (fd : Nat → Int32) (fs : Int32) : Prop := if st = true then ((v4 = 0 ∧ (∀ u, u < t → ¬ Gd n m S T k u) ∧ fs = fs0 ∧ fd = fd0) ∨ (v4 = 1 ∧ ∃ u, u < t ∧ Gd n m S T k u ∧ (∀ u', u' < u → ¬ Gd n m S T k u') ∧ fs = nI m ∧ ∀ i, i < m → fd i = nI (dgt k m u i))) else (v4 = nI (dct (Gd n m S T k) t) ∧ fs = fs0 ∧ fd = fd0)
theorem m_search (fu : Nat) (hfu : 40000 < fu) {n m : Nat} {S T L : Nat → Nat} {om sm : Int32} {lm cm tm : Nat → Int32} (hp : SyP n m S T L) (hx : Sy n m S T L om sm lm cm tm) (hm8 : m ≤ 8) {k : Nat} (hk1 : 1 ≤ k) (hk3 : k ≤ 3) {above pairs : Nat → Nat → Int32} {p : Nat → Nat → Bool} (ho : OrM above pairs p) (a0 b0 fs0 : Int32) (fd0 kl0 : Nat → Int32) (kp0 M0 : Nat → Nat → Int32) (st : Bool) :
    tot (f_X12_search fu om sm a0 b0 fs0 above fd0 kl0 kp0 lm M0 pairs cm tm (nI k) (bI st)) (fun q => SrI n m S T k st fd0 fs0 (pw k m) q.1 (q.2.2.1 0) (q.2.1 1) ∧ (∀ i, i < 32 → q.2.2.1 2 i = lm i) ∧ OrM (q.2.2.2 0) (q.2.2.2 3) p) := by
  have hm := hp.2.1
  have hpw := pw_le k (by omega) m (by omega)
  unfold f_X12_search
  obtain ⟨kl, e1, e2⟩ := m_copyRow fu (N := 32) (by omega) (by decide) lm kl0
  obtain ⟨kp, e3, e4⟩ := m_copyPairs fu (by omega) ho.2 kp0
  obtain ⟨⟨rr, ab, pr⟩, e5, e6, e7⟩ := m_natural fu (by omega) above pairs p ho.2
  have e7 : OrM ab pr o_nat := e7
  have hab : Rt ab o_nat := by
    have := e7.1
    rw [o_nat_war] at this
    exact this
  rw [e1, e3, e5]
  simp only [Option.bind_some]
  have hxS := hx
  obtain ⟨rfl, rfl, hl, hc, ht⟩ := hx
  refine tot_lt (tot_lt (lw2 (fun q v3 v4 => ∃ i, v4 = nI i ∧ i + q = m ∧ v3 = nI (pw k i)) ?_ fu m _ _ (by omega) ⟨0, rfl, by omega, rfl⟩))
  rintro r q v3 v4 ⟨i, rfl, hi, rfl⟩ ih
  unfold f_X12_search_L32
  by_cases him : i = m
  · subst him
    rw [if_pos (nI_le (Nat.le_refl i) (by omega))]
    clear ih hi
    unfold f_X12_search_J51
    have fin : ∀ (v4 fst : Int32) (fd : Nat → Int32) (fs : Int32) (lab : Nat → Int32) (M : Nat → Nat → Int32) (snd : Int32), SrI n i S T k st fd0 fs0 (pw k i) v4 fd fs → tot (f_X12_search_J185 fu v4 ab fst fd fs kl kp lab M pr snd) (fun q => SrI n i S T k st fd0 fs0 (pw k i) q.1 (q.2.2.1 0) (q.2.1 1) ∧ (∀ i, i < 32 → q.2.2.1 2 i = lm i) ∧ OrM (q.2.2.2 0) (q.2.2.2 3) p) := by
      intro v4 fst fd fs lab M snd hS
      unfold f_X12_search_J185
      obtain ⟨l2, g1, g2⟩ := m_copyRow fu (N := 32) (by omega) (by decide) kl lab
      obtain ⟨p2, g3, g4⟩ := m_copyPairs fu (by omega) e4 pr
      obtain ⟨a2, g5, g6⟩ := m_close fu (by omega) ab p2 p g4
      rw [g1, g3]
      simp only [Option.bind_some]
      rw [g5]
      exact tot_some ⟨hS, fun i hi => (g2 i hi).trans (e2 i hi), g6, g4⟩
    refine tot_lt (tot_lt (lw8 (fun q v4 v5 fst fd fs lab M snd => ∃ t, v5 = nI t ∧ t + q = pw k i ∧ SrI n i S T k st fd0 fs0 t v4 fd fs) ?_ fu (pw k i) _ _ _ _ _ _ _ _ (by omega) ⟨0, rfl, by omega, ?_⟩))
    · rintro r q v4 v5 fst fd fs lab M snd ⟨t, rfl, ht1, hS⟩ ih
      unfold f_X12_search_L57
      by_cases hta : t = pw k i
      · rw [if_pos (nI_le (show pw k i ≤ t by omega) (by omega))]
        rw [hta] at hS
        exact fin _ _ _ _ _ _ _ hS
      · rw [if_neg (nI_ge (a := t) (by omega) (by omega))]
        -- one labelling
        have body : (st = true → v4 = 0) → tot (f_X12_search_J72 fu (nI n) (nI i) ab cm tm (nI k) (bI st) r v4 (nI t) fst fd fs lab M snd) (fun q => SrI n i S T k st fd0 fs0 (pw k i) q.1 (q.2.2.1 0) (q.2.1 1) ∧ (∀ i, i < 32 → q.2.2.1 2 i = lm i) ∧ OrM (q.2.2.2 0) (q.2.2.2 3) p) := by
          intro hv4
          unfold f_X12_search_J72
          refine tot_lt (tot_lt (lw3 (fun q v6 v7 lab => ∃ e, v6 = nI (dv k t e) ∧ v7 = nI (i - e) - 1 ∧ e + q = i ∧ ∀ j, j < i → i - e ≤ j → lab j = nI (dgt k i t j)) ?_ fu i _ _ _ (by omega) ⟨0, rfl, rfl, by omega, fun j h1 h2 => by omega⟩))
          rintro r2 q2 v6 v7 lab ⟨e, rfl, rfl, he, hlab⟩ ih2
          unfold f_X12_search_L84
          by_cases hei : e = i
          · subst hei
            rw [Nat.sub_self, if_pos nI_neg1]
            unfold f_X12_search_J112 f_X12_search_J179 f_X12_search_J140
            have hpt := SyP_dg hp hk1 hk3 t
            have hxt : Sy n e S T (dgt k e t) (nI n) (nI e) lab cm tm := ⟨rfl, rfl, fun j hj => hlab j hj (by omega), hc, ht⟩
            obtain ⟨⟨w, fa, Mb, sb⟩, g1, g2⟩ := m_ff fu hfu hpt hxt hab fst snd M
            have g3 := ffS_G hm g2
            rw [g1]
            simp only [Option.bind_some, lt, nI_1]
            by_cases hw : w = -2
            · rw [if_neg (fun h => h hw)]
              have hG : Gd n e S T k t := g3.mp hw
              cases st with
              | false =>
                rw [show bI false = 0 from rfl, if_pos rfl]
                obtain ⟨fu', hfu'⟩ : ∃ z, fu = z + 1 := ⟨fu - 1, by omega⟩
                obtain ⟨s1, s2, s3⟩ : v4 = nI (dct (Gd n e S T k) t) ∧ fs = fs0 ∧ fd = fd0 := hS
                subst s1 s2 s3
                have hr : tot (r (nI (dct (Gd n e S T k) t + 1)) (nI (t + 1)) fa fd fs lab Mb sb) (fun q => SrI n e S T k false fd fs (pw k e) q.1 (q.2.2.1 0) (q.2.1 1) ∧ (∀ i, i < 32 → q.2.2.1 2 i = lm i) ∧ OrM (q.2.2.2 0) (q.2.2.2 3) p) := ih (q - 1) _ _ _ _ _ _ _ _ (by omega) ⟨t + 1, rfl, by omega, by
                  unfold SrI
                  rw [if_neg (by decide)]
                  exact ⟨by rw [dct_y hG], rfl, rfl⟩⟩
                refine lw2 (fun q v f => v = nI 0 ∧ f = fd) ?_ fu 0 _ _ (by omega) ⟨rfl, rfl⟩
                rintro r3 q3 v f ⟨rfl, rfl⟩ _
                unfold f_X12_search_L146 f_X12_search_J179
                simp only [lt, nI_1]
                by_cases hz : nI e ≤ nI 0
                · rw [if_pos hz]
                  exact hr
                · rw [if_neg hz, if_pos trivial]
                  exact hr
              | true =>
                rw [show bI true = 1 from rfl, if_neg (by decide)]
                have hv0 := hv4 rfl
                subst hv0
                have hno : ∀ u, u < t → ¬ Gd n e S T k u := by
                  rcases (show ((0 : Int32) = 0 ∧ (∀ u, u < t → ¬ Gd n e S T k u) ∧ fs = fs0 ∧ fd = fd0) ∨ ((0 : Int32) = 1 ∧ _) from hS) with h | h
                  · exact h.2.1
                  · exact absurd h.1 (by decide)
                refine lw2 (fun q v f => ∃ j, v = nI j ∧ j + q = e ∧ ∀ x, x < j → f x = nI (dgt k e t x)) ?_ fu e _ _ (by omega) ⟨0, rfl, by omega, fun x h => absurd h (Nat.not_lt_zero x)⟩
                rintro r3 q3 v f ⟨j, rfl, hj, hf⟩ ih3
                unfold f_X12_search_L146 f_X12_search_J179
                by_cases hje : j = e
                · subst hje
                  rw [if_pos (nI_le (Nat.le_refl j) (by omega))]
                  simp only [lt, nI_1]
                  refine ih (q - 1) _ _ _ _ _ _ _ _ (by omega) ⟨t + 1, rfl, by omega, ?_⟩
                  unfold SrI
                  rw [if_pos rfl]
                  exact Or.inr ⟨rfl, t, by omega, hG, hno, rfl, hf⟩
                · rw [if_neg (nI_ge (a := j) (by omega) (by omega)), if_neg (by decide)]
                  simp (disch := omega) only [ck_nI, nI_clamp, lt, nI_1]
                  refine ih3 (q3 - 1) _ _ (by omega) ⟨j + 1, rfl, by omega, fun x hx => ?_⟩
                  rw [upd_e]
                  by_cases hxj : x = j
                  · rw [if_pos hxj, hxj]
                    exact hlab j (by omega) (by omega)
                  · rw [if_neg hxj]
                    exact hf x (by omega)
            · rw [if_pos hw]
              have hG : ¬ Gd n e S T k t := fun h => hw (g3.mpr h)
              refine ih (q - 1) _ _ _ _ _ _ _ _ (by omega) ⟨t + 1, rfl, by omega, ?_⟩
              unfold SrI at hS ⊢
              cases st with
              | false =>
                rw [if_neg (by decide)] at hS ⊢
                rw [dct_n hG]
                exact hS
              | true =>
                rw [if_pos rfl] at hS ⊢
                rcases hS with h | h
                · refine Or.inl ⟨h.1, fun u hu => ?_, h.2.2⟩
                  by_cases hut : u = t
                  · subst hut
                    exact hG
                  · exact h.2.1 u (by omega)
                · have := hv4 rfl
                  rw [h.1] at this
                  exact absurd this (by decide)
          · have e1 : nI (i - e) - 1 = nI (i - e - 1) := pk_sub (a := i - e) (b := 1) (by omega)
            have hdl := dv_le (k := k) (t := t) e
            rw [e1, if_neg (nI_pos (by omega))]
            have hckd : ∀ {β : Type} (K : Option β), ckd (nI k) K = K := fun K => by
              unfold ckd
              rw [if_neg (nI_ne0 (by omega) (by omega))]
            rw [hckd, pk_rem (d := k) (show dv k t e < 2 ^ 31 by omega) (by omega) (by omega)]
            simp (disch := omega) only [hckd, ck_nI, nI_clamp, lt, pk_div]
            refine ih2 (q2 - 1) _ _ _ (by omega) ⟨e + 1, rfl, ?_, by omega, fun j h1 h2 => ?_⟩
            · rw [show i - (e + 1) = i - e - 1 by omega]
              exact (Int32.sub_eq_add_neg _ _).symm
            · rw [upd_e]
              by_cases hj : j = i - e - 1
              · rw [if_pos hj, hj]
                unfold dgt
                rw [show i - 1 - (i - e - 1) = e by omega]
              · rw [if_neg hj]
                exact hlab j h1 (by omega)
        by_cases hv : v4 = 0
        · rw [if_pos hv]
          exact body (fun _ => hv)
        · rw [if_neg hv]
          cases st with
          | false =>
            rw [show bI false = 0 from rfl, if_neg (fun h => h rfl)]
            exact body (fun h => by cases h)
          | true =>
            rw [show bI true = 1 from rfl, if_pos (by decide)]
            refine fin _ _ _ _ _ _ _ ?_
            unfold SrI at hS ⊢
            rw [if_pos rfl] at hS ⊢
            rcases hS with h | ⟨h1, u, h2, h3⟩
            · exact absurd h.1 hv
            · exact Or.inr ⟨h1, u, by omega, h3⟩
    · unfold SrI
      cases st with
      | false =>
        rw [if_neg (by decide)]
        exact ⟨rfl, rfl, rfl⟩
      | true =>
        rw [if_pos rfl]
        exact Or.inl ⟨rfl, fun u h => absurd h (Nat.not_lt_zero u), rfl, rfl⟩
  · rw [if_neg (nI_ge (a := i) (by omega) (by omega))]
    simp only [lt, nI_1, pk_mul]
    exact ih (q - 1) _ _ (by omega) ⟨i + 1, rfl, by omega, rfl⟩
