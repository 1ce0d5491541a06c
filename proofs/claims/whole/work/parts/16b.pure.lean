def lfQ (lf : Nat → Int32) (d : Nat → Nat) : Prop := ∀ x, x < 32 → lf x = nI (d x)
theorem lfQ_up {lf : Nat → Int32} {d : Nat → Nat} (h : lfQ lf d) (y v : Nat) : lfQ (upd lf y (nI v)) (put1 d y v) := by
  intro x hx
  rw [upd_e]
  unfold put1
  by_cases hxy : x = y
  · rw [if_pos hxy, if_pos hxy]
  · rw [if_neg hxy, if_neg hxy]
    exact h x hx
/-- the joining path that the reference finds is the class's: the arrivals on the way up from the valley's first place -/
theorem m_path (fu : Nat) (hfu : 40000 < fu) {n m : Nat} {S T L : Nat → Nat} {om sm : Int32} {lm cm tm : Nat → Int32} (hp : SyP n m S T L) (hx : Sy n m S T L om sm lm cm tm) {above : Nat → Nat → Int32} {w : Nat → Nat → Bool} (hw : Rt above w) {sd f g st ot : Nat} (hsd : sdP sd f g st ot) (hst : st < m) (hot : ot < m) (pl0 : Int32) (lf0 path0 : Nat → Int32) {M : Nat → Nat → Int32} (hM : BfP (EN m S T L w (L st) (L ot)) (fun z => z = 2 * T st) (M sd))
    {c : Nat} {nd ln pv ar : Nat → Nat} (hB : Bf m (dS S T L w (L st) (L ot)) (2 * T st) c 0 c nd ln pv ar) (hc : c ≤ 32) (hnd : ∀ i, i < c → nd i < 2 * n) {b i0 d : Nat} (hb : b < n) (hi0 : i0 < c) (hib : nd i0 / 2 = b) (hfirst : ∀ j, j < i0 → nd j / 2 ≠ b) (hd : ln i0 = d) (hdl : dl (M sd) b = d) :
    tot (f_X12_findPath fu sm (nI f) (nI g) pl0 above lm lf0 M path0 cm tm (nI sd) (nI b)) (fun q => q.2.2 = nI d ∧ ∀ j, j < d → q.2.1 j = nI (ar (up pv (d - 1 - j) i0))) := by
  have hm := hp.2.1
  have hn := hp.1
  have hxS := hx
  obtain ⟨rfl, rfl, hl, hcs, ht⟩ := hx
  have hSt := hp.2.2 st hst
  have hOt := hp.2.2 ot hot
  have hsd2 : sd < 2 := by rcases hsd with h | h <;> omega
  have hd32 := Bf_lnb hB i0 hi0
  have hld : ∀ (s i : Nat), s < m → i < 4 → f_X12_leads above lm (nI s) (nI (i / 2)) (nI (i % 2)) (nI (L st)) (nI (L ot)) = some (bI (ld w (L st) (L ot) (L s) (i / 2) (i % 2))) := fun s i hs hi => m_leads hw hl (fun i hi => (hp.2.2 i hi).2.2) hm hs (by omega) (by omega) hSt.2.2 hOt.2.2
  unfold f_X12_findPath
  rw [(m_stepOf hsd).1, (m_stepOf hsd).2]
  simp (disch := omega) only [Option.bind_some, ck_nI, nI_clamp, lt]
  rw [hl st hst, hl ot hot]
  refine lw2 (fun k v lf => ∃ x, v = nI x ∧ x + k = 32 ∧ ∀ y, y < x → lf y = nI (if y / 2 = b then 0 else 1000)) ?_ fu 32 _ _ (by omega) ⟨0, rfl, by omega, fun y hy => absurd hy (Nat.not_lt_zero y)⟩
  rintro r k v lf ⟨x, rfl, hx, hlf⟩ ih
  unfold f_X12_findPath_L28
  rw [show (32 : Int32) = nI 32 from rfl]
  by_cases hx32 : x = 32
  · subst hx32
    rw [if_pos (nI_le (Nat.le_refl 32) (by decide))]
    unfold f_X12_findPath_J63
    clear ih
    have hB0 : bfI (fun x y => EN m S T L w (L st) (L ot) y x) (fun z => z / 2 = b) (fun y => if y / 2 = b then 0 else 1000) := by
      refine ⟨fun x hx => ?_, fun z hz => if_pos hz⟩
      by_cases hxb : x / 2 = b
      · simp only [hxb, ↓reduceIte]
        exact ⟨by omega, fun _ => ⟨x, hxb, rfl⟩⟩
      · simp only [hxb, ↓reduceIte]
        exact ⟨Nat.le_refl _, fun h => absurd h (Nat.lt_irrefl 1000)⟩
    have hs0 : sumd (fun y => if y / 2 = b then 0 else 1000) 32 ≤ 32 * 1000 := sumd_le 32 (fun x hx => (hB0.1 x hx).1)
    refine tot_lt (lw2 (fun k fl lf => ∃ e, lfQ lf e ∧ bfI (fun x y => EN m S T L w (L st) (L ot) y x) (fun z => z / 2 = b) e ∧ ((fl = 0 ∧ (∀ x y, EN m S T L w (L st) (L ot) y x → e y ≤ e x + 1) ∧ sumd e 32 ≤ k) ∨ (fl = 1 ∧ sumd e 32 + 1 ≤ k))) ?_ fu 32001 _ _ (by omega) ⟨_, hlf, hB0, Or.inr ⟨rfl, by omega⟩⟩)
    clear hB0 hs0 hlf
    rintro r k fl lf ⟨d0, hQ, hBf, hfl⟩ ih
    unfold f_X12_findPath_L66
    rcases hfl with ⟨rfl, hfl, _⟩ | ⟨rfl, hfl⟩
    · rw [if_pos rfl]
      clear ih
      have hend : ∀ z k x, z / 2 = b → wk (EN m S T L w (L st) (L ot)) k x z → d0 x ≤ k := fun z k x hz h => bf_done hBf hfl hz k x ((wk_rev k z x).mpr h)
      have hgo : ∀ x, x < 32 → d0 x < 1000 → ∃ z, z / 2 = b ∧ wk (EN m S T L w (L st) (L ot)) (d0 x) x z := fun x hx h => by
        obtain ⟨z, h1, h2⟩ := (hBf.1 x hx).2 h
        exact ⟨z, h1, (wk_rev _ z x).mp h2⟩
      have hle : ∀ x, x < 32 → lf x = nI (d0 x) ∧ d0 x ≤ 1000 := fun x hx => ⟨hQ x hx, (hBf.1 x hx).1⟩
      have hmin : ∀ k z, z / 2 = b → wk (EN m S T L w (L st) (L ot)) k (2 * T st) z → d ≤ k := by
        intro k z hz h
        have h1 := (dl_P hM (show b < 16 by omega)).2.2 k (by
          have : z = 2 * b ∨ z = 2 * b + 1 := by omega
          rcases this with rfl | rfl
          · exact Or.inl h
          · exact Or.inr h)
        rw [hdl] at h1
        exact h1
      unfold f_X12_findPath_J200
      rw [m_lengthTo hsd2 hM (show b < 16 by omega), hdl, (m_stepOf hsd).1]
      simp (disch := omega) only [Option.bind_some, ck_nI, nI_clamp, lt]
      rw [ht st hst]
      -- the walk down
      refine lw4 (fun k v6 v7 v8 path => ∃ i, v8 = nI i ∧ i + k = d ∧ v6 = nI (nd (up pv (d - i) i0) / 2) ∧ bt v7 (nd (up pv (d - i) i0) % 2) = true ∧ (∀ q, q < 32 → bt v7 q = true → nd (up pv (d - i) i0) % 2 ≤ q) ∧ ∀ j, j < i → path j = nI (ar (up pv (d - 1 - j) i0))) ?_ fu d _ _ _ _ (by omega) ⟨0, rfl, by omega, ?_, ?_, ?_, fun j hj => absurd hj (Nat.not_lt_zero j)⟩
      · rintro r k v6 v7 v8 path ⟨i, rfl, hi, rfl, hv1, hv2, hpath⟩ ih
        unfold f_X12_findPath_L228
        by_cases hid : i = d
        · subst hid
          rw [if_pos (nI_le (Nat.le_refl i) (by omega))]
          exact tot_some ⟨rfl, hpath⟩
        · rw [if_neg (nI_ge (a := i) (by omega) (by omega))]
          have er : nI d - nI i - 1 = nI (d - i - 1) := by
            rw [pk_sub (show i ≤ d by omega)]
            exact pk_sub (a := d - i) (b := 1) (by omega)
          rw [er]
          -- the place above and the place below
          obtain ⟨n1, n2⟩ := Bf_up hB hi0 (d - i - 1) (by omega)
          have npos : 0 < up pv (d - i - 1) i0 := by
            refine Nat.pos_of_ne_zero (fun h0 => ?_)
            rw [h0, hB.2.2.1] at n2
            omega
          have n3 := hB.2.2.2.2.1 _ npos n1
          have n4 : up pv (d - i) i0 = pv (up pv (d - i - 1) i0) := by
            rw [show d - i = (d - i - 1) + 1 by omega]
            rfl
          rw [← n4] at n3
          obtain ⟨m1, m2⟩ := Bf_up hB hi0 (d - i) (by omega)
          obtain ⟨bq, hbq, hy, hpa, hSs⟩ := dS_some n3.2.2.1
          have hP32 := hnd _ m1
          have hN32 := hnd _ n1
          have hSa := hp.2.2 _ n3.2.1
          have hNx : ∀ (s : Nat), s < m → tot (f_X12_nextPhases fu above lm lf cm tm (nI s) (nI (nd (up pv (d - i) i0) / 2)) v7 (nI (d - i - 1)) (nI (L st)) (nI (L ot))) (fun r => ∀ q, q < 32 → (bt r q = true ↔ Nx S T L w (L st) (L ot) d0 s (nd (up pv (d - i) i0) / 2) (bt v7) (d - i - 1) q)) := fun s hs => m_next fu (by omega) hp hxS hw hSt.2.2 hOt.2.2 hle hs (by omega) (by omega) v7
          -- the step taken by the class is possible
          have hA : Nx S T L w (L st) (L ot) d0 (ar (up pv (d - i - 1) i0)) (nd (up pv (d - i) i0) / 2) (bt v7) (d - i - 1) (nd (up pv (d - i - 1) i0) % 2) := by
            have hq : nd (up pv (d - i - 1) i0) % 2 = bq := by omega
            refine ⟨by omega, hSs, nd (up pv (d - i) i0) % 2, by omega, hv1, ?_, ?_⟩
            · rw [hq]
              exact pa_ld (by omega) hpa
            · have e1 : 2 * T (ar (up pv (d - i - 1) i0)) + nd (up pv (d - i - 1) i0) % 2 = nd (up pv (d - i - 1) i0) := by omega
              rw [e1]
              have g1 : d0 (nd (up pv (d - i - 1) i0)) ≤ d - i - 1 := hend _ _ _ hib (wk_mono (fun a b => ED_EN) _ _ _ (Bf_chain hB hi0 (d - i - 1) (by omega)))
              obtain ⟨z, g2, g3⟩ := hgo (nd (up pv (d - i - 1) i0)) (by omega) (by omega)
              have g4 := wk_mono (fun a b => ED_EN) _ _ _ (Bf_walk hB _ n1)
              have g5 := hmin _ z g2 (wk_add _ _ _ _ g4 g3)
              omega
          -- no lower step is
          have hBl : ∀ s q, s < ar (up pv (d - i - 1) i0) → ¬ Nx S T L w (L st) (L ot) d0 s (nd (up pv (d - i) i0) / 2) (bt v7) (d - i - 1) q := by
            rintro s q hs ⟨q1, q2, p, q3, q4, q5, q6⟩
            have hsm : s < m := by omega
            have hSs2 := hp.2.2 s hsm
            obtain ⟨y, y1, y2, y3⟩ := dS_sim (T := T) (S := S) (x := nd (up pv (d - i) i0)) q3 q1 q5 q2.symm (hv2 p (by omega) q4)
            obtain ⟨z, z1, z2⟩ := hgo (2 * T s + q) (by omega) (by omega)
            rw [q6] at z2
            obtain ⟨z', w1, w2, w3⟩ := EN_sim _ _ _ y z2 (by omega) (by omega)
            obtain ⟨j1, j2, rfl, j4⟩ := hB.2.2.2.2.2.2 (up pv (d - i) i0) s y (Or.inl m1) m1 hsm y1
            have jlt : j1 < up pv (d - i - 1) i0 := by
              refine Nat.lt_of_not_le (fun hge => ?_)
              have hj0 : 0 < j1 := by omega
              have g6 : lxl (pv j1) (ar j1) (up pv (d - i) i0) (s + 1) := by
                rcases j4 with h | h
                · omega
                · exact h
              by_cases hje : j1 = up pv (d - i - 1) i0
              · rw [hje] at g6
                rcases g6 with g | g <;> omega
              · have g7 := hB.2.2.2.2.2.1 _ j1 npos (by omega) j2
                rcases g6 with g | g <;> rcases g7 with g' | g' <;> omega
            obtain ⟨q', r1, r2⟩ := Bf_lt hB hi0 (d - i - 1) j1 z' (by omega) j2 jlt w1
            exact hfirst q' r1 (by omega)
          refine tot_lt ?_
          have hm0 : 0 < m := by omega
          obtain ⟨q0, e1, e2⟩ := hNx 0 hm0
          rw [show f_X12_nextPhases fu above lm lf cm tm 0 (nI (nd (up pv (d - i) i0) / 2)) v7 (nI (d - i - 1)) (nI (L st)) (nI (L ot)) = some q0 from e1]
          simp only [Option.bind_some, lt]
          refine lw2 (fun k v9 v10 => ∃ s, v9 = nI s ∧ s + k = ar (up pv (d - i - 1) i0) ∧ ∀ q, q < 32 → (bt v10 q = true ↔ Nx S T L w (L st) (L ot) d0 s (nd (up pv (d - i) i0) / 2) (bt v7) (d - i - 1) q)) ?_ fu (ar (up pv (d - i - 1) i0)) _ _ (by omega) ⟨0, rfl, by omega, e2⟩
          rintro r2 k2 v9 v10 ⟨s, rfl, hs, hv10⟩ ih2
          unfold f_X12_findPath_L264 f_X12_findPath_J299
          by_cases hz : v10 = 0
          · rw [if_neg (fun h => h hz)]
            have hlt : s < ar (up pv (d - i - 1) i0) := by
              refine Nat.lt_of_le_of_ne (by omega) (fun hse => ?_)
              rw [hse] at hv10
              have := (hv10 _ (show nd (up pv (d - i - 1) i0) % 2 < 32 by omega)).mpr hA
              rw [hz, b_0] at this
              cases this
            obtain ⟨q1, f1, f2⟩ := hNx (s + 1) (by omega)
            simp only [lt, nI_1]
            rw [er, f1]
            simp only [Option.bind_some]
            exact ih2 (k2 - 1) _ _ (by omega) ⟨s + 1, rfl, by omega, f2⟩
          · rw [if_pos hz]
            have hse : s = ar (up pv (d - i - 1) i0) := by
              refine Classical.byContradiction (fun hne => ?_)
              obtain ⟨l, g1, g2, _⟩ := b_least hz
              exact hBl s l (by omega) ((hv10 l g1).mp g2)
            have hsm : s < m := by rw [hse]; exact n3.2.1
            simp (disch := omega) only [ck_nI, nI_clamp, lt, nI_1]
            rw [ht s hsm]
            refine ih (k - 1) _ _ _ _ (by omega) ⟨i + 1, rfl, by omega, ?_, ?_, ?_, fun j hj => ?_⟩
            · rw [show d - (i + 1) = d - i - 1 by omega, hse]
              congr 1
              omega
            · rw [show d - (i + 1) = d - i - 1 by omega]
              rw [hse] at hv10
              exact (hv10 _ (by omega)).mpr hA
            · rw [show d - (i + 1) = d - i - 1 by omega]
              intro q hq hbq2
              rw [hse] at hv10
              obtain ⟨q1, q2, p, q3, q4, q5, q6⟩ := (hv10 q hq).mp hbq2
              obtain ⟨y, y1, y2, y3⟩ := dS_sim (T := T) (S := S) (x := nd (up pv (d - i) i0)) q3 q1 q5 q2.symm (hv2 p (by omega) q4)
              rw [n3.2.2.1] at y1
              cases y1
              exact y3
            · rw [upd_e]
              by_cases hji : j = i
              · rw [if_pos hji, hji, hse, show d - i - 1 = d - 1 - i by omega]
              · rw [if_neg hji]
                exact hpath j (by omega)
      · have : up pv (d - 0) i0 = 0 := by
          obtain ⟨g1, g2⟩ := Bf_up hB hi0 d (by omega)
          refine Classical.byContradiction (fun hne => ?_)
          have g3 := hB.2.2.2.2.1 (up pv d i0) (by have : up pv (d - 0) i0 = up pv d i0 := rfl; omega) g1
          omega
        rw [this, hB.2.1]
        congr 1
        omega
      · have : up pv (d - 0) i0 = 0 := by
          obtain ⟨g1, g2⟩ := Bf_up hB hi0 d (by omega)
          refine Classical.byContradiction (fun hne => ?_)
          have g3 := hB.2.2.2.2.1 (up pv d i0) (by have : up pv (d - 0) i0 = up pv d i0 := rfl; omega) g1
          omega
        rw [this, hB.2.1, show 2 * T st % 2 = 0 by omega]
        decide
      · have : up pv (d - 0) i0 = 0 := by
          obtain ⟨g1, g2⟩ := Bf_up hB hi0 d (by omega)
          refine Classical.byContradiction (fun hne => ?_)
          have g3 := hB.2.2.2.2.1 (up pv d i0) (by have : up pv (d - 0) i0 = up pv d i0 := rfl; omega) g1
          omega
        rw [this, hB.2.1, show 2 * T st % 2 = 0 by omega]
        exact fun q _ _ => Nat.zero_le q
    · rw [if_neg (by decide)]
      refine tot_lt (tot_lt (lw3 (fun k fl v lf => ∃ s e, v = nI s ∧ s + k = m ∧ lfQ lf e ∧ bfI (fun x y => EN m S T L w (L st) (L ot) y x) (fun z => z / 2 = b) e ∧ bfQ m S T L w (L st) (L ot) false d0 e s 0 fl) ?_ fu m _ _ _ (by omega) ⟨0, d0, rfl, by omega, hQ, hBf, bfQ_0⟩))
      clear hQ hBf
      rintro r2 k2 fl v lf ⟨s, e, rfl, hs, hQ, hBf, hf⟩ ih2
      unfold f_X12_findPath_L77 f_X12_findPath_J197
      by_cases hsm : s = m
      · subst hsm
        rw [if_pos (nI_le (Nat.le_refl s) (by omega))]
        rcases hf with ⟨rfl, rfl, h3⟩ | ⟨rfl, h3⟩
        · refine ih (sumd e 32) _ _ (by omega) ⟨e, hQ, hBf, Or.inl ⟨rfl, ?_, Nat.le_refl _⟩⟩
          rintro x y ⟨t, h4, j, h5, h6, rfl, rfl⟩
          have := h3 t j (Or.inl h4) h4 h5 h6
          rw [if_neg (by decide)] at this
          exact this
        · exact ih (sumd e 32 + 1) _ _ (by omega) ⟨e, hQ, hBf, Or.inr ⟨rfl, Nat.le_refl _⟩⟩
      · rw [if_neg (nI_ge (a := s) (by omega) (by omega))]
        refine tot_lt (lw3 (fun k fl v lf => ∃ i e, v = nI i ∧ i + k = 4 ∧ lfQ lf e ∧ bfI (fun x y => EN m S T L w (L st) (L ot) y x) (fun z => z / 2 = b) e ∧ bfQ m S T L w (L st) (L ot) false d0 e s i fl) ?_ fu 4 _ _ _ (by omega) ⟨0, e, rfl, by omega, hQ, hBf, hf⟩)
        clear hQ hBf hf
        rintro r3 k3 fl v lf ⟨i, e, rfl, hi, hQ, hBf, hf⟩ ih3
        unfold f_X12_findPath_L89 f_X12_findPath_J191 f_X12_findPath_J185
        rw [show (4 : Int32) = nI 4 from rfl]
        by_cases hi4 : i = 4
        · subst hi4
          rw [if_pos (nI_le (Nat.le_refl 4) (by decide))]
          refine tot_lt ?_
          rw [nI_1]
          exact ih2 (k2 - 1) _ _ _ (by omega) ⟨s + 1, e, rfl, by omega, hQ, hBf, bfQ_next hf⟩
        · rw [if_neg (nI_ge (a := i) (by omega) (by omega))]
          have hS := hp.2.2 s (by omega)
          rw [k4b (show i < 2 ^ 31 by omega), k4a (show i < 2 ^ 31 by omega)]
          simp (disch := omega) only [ck_nI, nI_clamp, lt]
          rw [hcs s (by omega), ht s (by omega), hld s i (by omega) (by omega)]
          simp (disch := omega) only [k2m, nI_add, ck_nI, nI_clamp, Option.bind_some, bI_if, nI_1]
          rw [hQ (2 * T s + i % 2) (by omega), hQ (2 * S s + i / 2) (by omega)]
          have b1 := (hBf.1 (2 * T s + i % 2) (by omega)).1
          have b2 := (hBf.1 (2 * S s + i / 2) (by omega)).1
          simp (disch := omega) only [nI_1, nI_leI]
          by_cases hle : e (2 * S s + i / 2) ≤ e (2 * T s + i % 2) + 1
          · rw [if_pos hle]
            exact ih3 (k3 - 1) _ _ _ (by omega) ⟨i + 1, e, rfl, by omega, hQ, hBf, bfQ_ok hf (fun _ => by rw [if_neg (by decide)]; exact hle)⟩
          · rw [if_neg hle]
            by_cases hl2 : ld w (L st) (L ot) (L s) (i / 2) (i % 2) = true
            · rw [if_pos hl2]
              exact ih3 (k3 - 1) _ _ _ (by omega) ⟨i + 1, _, rfl, by omega, lfQ_up hQ _ _, bf_step hBf (show EN m S T L w (L st) (L ot) (2 * S s + i / 2) (2 * T s + i % 2) from ⟨s, by omega, i, by omega, hl2, rfl, rfl⟩) (by omega) (by omega) (by omega), bfQ_up hf (by omega) (by omega) s (i + 1)⟩
            · rw [if_neg hl2]
              exact ih3 (k3 - 1) _ _ _ (by omega) ⟨i + 1, e, rfl, by omega, hQ, hBf, bfQ_ok hf (fun h => absurd h hl2)⟩
  · rw [if_neg (nI_ge (a := x) (by omega) (by omega))]
    unfold f_X12_findPath_J56
    have fin : ∀ z : Int32, z = nI (if x / 2 = b then 0 else 1000) → tot (r (nI (x + 1)) (upd lf x z)) (fun q => q.2.2 = nI d ∧ ∀ j, j < d → q.2.1 j = nI (ar (up pv (d - 1 - j) i0))) := fun z hz => by
      refine ih (k - 1) _ _ (by omega) ⟨x + 1, rfl, by omega, fun y hy => ?_⟩
      rw [upd_e]
      by_cases hyx : y = x
      · rw [if_pos hyx, hyx]
        exact hz
      · rw [if_neg hyx]
        exact hlf y (by omega)
    rw [k4a (show x < 2 ^ 31 by omega)]
    simp (disch := omega) only [ck_nI, nI_clamp, lt, nI_1, nI_eq]
    by_cases hxb : x / 2 = b
    · rw [if_neg (fun h => h hxb)]
      exact fin 0 (by rw [if_pos hxb]; rfl)
    · rw [if_pos hxb]
      exact fin 1000 (by rw [if_neg hxb]; rfl)
