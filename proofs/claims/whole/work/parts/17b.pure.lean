theorem s_saveReachable (fu : Nat) (hfu : 32 < fu) {n m : Nat} {S T L : Nat → Nat} {ox sx om sm : Int32} {lx cx tx lm cm tm : Nat → Int32} (hp : SyP n m S T L) (hx : Sy n m S T L ox sx lx cx tx) (hm : Sy n m S T L om sm lm cm tm) {K : Nat → Option Nat} {zx zm : Nat → Int32} {vx vm : Nat → Nat → Int64} (h : ArR K zx vx zm vm) (rows : Nat → Int32) (D : Nat → Nat → Int32) (v1 : Int32) :
    ∃ r zx' vx' rows' vm' D' zm' K', f_X11_saveReachable fu ox sx zx vx rows lx cx tx v1 = some (r, zx', vx', rows') ∧ f_X12_saveReachable fu om sm vm D zm cm tm v1 = some (r, vm', D', zm') ∧ ArR K' zx' vx' zm' vm' := by
  have hn := hp.1
  unfold f_X11_saveReachable f_X12_saveReachable
  rw [arr_x, arr_m]
  simp only [Option.bind_some, bI_ifn]
  cases h1 : inN v1 3 with
  | false => exact ⟨_, _, _, _, _, _, _, K, rfl, rfl, h⟩
  | true =>
    simp only [↓reduceIte]
    obtain ⟨a, ha, rfl⟩ := inN_of (by decide) h1
    obtain ⟨reach, e1, e2⟩ := x_fill fu hfu hp hx rows
    obtain ⟨D', e3, e4⟩ := m_dist fu hfu hp hm D
    rw [e1, e3]
    have h0 := hx.1
    have h00 := hm.1
    subst h0 h00
    obtain ⟨row, e5, e6⟩ := x_renew fu (by omega) (k := n) ha zx vx
    simp only [Option.bind_some]
    rw [e5]
    simp (disch := omega) only [Option.bind_some, ck_nI, nI_clamp, lt]
    have hX : tot (lp (τ := Int32 → (Nat → Nat → Int64) → Option (Int32 × (Nat → Int32) × (Nat → Nat → Int64) × (Nat → Int32))) (fun _ _ => none) (f_X11_saveReachable_L37 (nI n) (upd zx a (nI n)) reach (nI a)) fu 0 (va_up vx a row)) (fun q => q.1 = nI n ∧ q.2.1 = upd zx a (nI n) ∧ (∀ b j, b ≠ a → q.2.2.1 b j = vx b j) ∧ ∀ j, j < n → q.2.2.1 a j = (reach j).toInt64) := by
      refine lw2 (fun t v M => ∃ i, v = nI i ∧ i + t = n ∧ (∀ b j, b ≠ a → M b j = vx b j) ∧ ∀ j, j < i → M a j = (reach j).toInt64) ?_ fu n _ _ (by omega) ⟨0, rfl, by omega, fun b j hb => by rw [va_up_e, if_neg hb], fun j hj => absurd hj (Nat.not_lt_zero j)⟩
      rintro r t v M ⟨i, rfl, hi, hM1, hM2⟩ ih
      unfold f_X11_saveReachable_L37
      by_cases hik : i = n
      · subst hik
        rw [if_pos (nI_le (Nat.le_refl i) (by omega))]
        exact tot_some ⟨rfl, rfl, hM1, hM2⟩
      · rw [if_neg (nI_ge (a := i) (by omega) (by omega))]
        simp (disch := omega) only [ck_nI, nI_clamp, lt, nI_1]
        refine ih (t - 1) _ _ (by omega) ⟨i + 1, rfl, by omega, fun b j hb => ?_, fun j hj => ?_⟩
        · rw [up2_e, if_neg hb]
          exact hM1 b j hb
        · rw [up2_e, if_pos rfl]
          by_cases hji : j = i
          · rw [if_pos hji, hji]
          · rw [if_neg hji]
            exact hM2 j (by omega)
    have hM : tot (lp (τ := Int32 → (Nat → Nat → Int64) → Option (Int32 × (Nat → Nat → Int64) × (Nat → Nat → Int32) × (Nat → Int32))) (fun _ _ => none) (f_X12_saveReachable_L25 fu (nI n) D' (upd zm a (nI n)) (nI a)) fu 0 vm) (fun q => q.1 = nI n ∧ q.2.2.2 = upd zm a (nI n) ∧ (∀ b j, b ≠ a → q.2.1 b j = vm b j) ∧ ∀ j, j < n → q.2.1 a j = (reach j).toInt64) := by
      refine lw2 (fun t v M => ∃ i, v = nI i ∧ i + t = n ∧ (∀ b j, b ≠ a → M b j = vm b j) ∧ ∀ j, j < i → M a j = (reach j).toInt64) ?_ fu n _ _ (by omega) ⟨0, rfl, by omega, fun b j hb => rfl, fun j hj => absurd hj (Nat.not_lt_zero j)⟩
      rintro r t v M ⟨i, rfl, hi, hM1, hM2⟩ ih
      unfold f_X12_saveReachable_L25
      by_cases hik : i = n
      · subst hik
        rw [if_pos (nI_le (Nat.le_refl i) (by omega))]
        exact tot_some ⟨rfl, rfl, hM1, hM2⟩
      · rw [if_neg (nI_ge (a := i) (by omega) (by omega))]
        obtain ⟨q, f1, f2⟩ := m_reach fu hfu hp hm e4 (show i < n by omega)
        rw [f1]
        have : q = reach i := isRch_eq f2 (e2 i (by omega))
        subst this
        simp (disch := omega) only [ck_nI, nI_clamp, lt, nI_1, Option.bind_some]
        refine ih (t - 1) _ _ (by omega) ⟨i + 1, rfl, by omega, fun b j hb => ?_, fun j hj => ?_⟩
        · rw [up2_e, if_neg hb]
          exact hM1 b j hb
        · rw [up2_e, if_pos rfl]
          by_cases hji : j = i
          · rw [if_pos hji, hji]
          · rw [if_neg hji]
            exact hM2 j (by omega)
    obtain ⟨⟨r, z1, w1, rw1⟩, f1, f2, f3, f4, f5⟩ := hX
    obtain ⟨⟨r2, w2, D2, z2⟩, g1, g2, g3, g4, g5⟩ := hM
    have f2 : r = nI n := f2
    have g2 : r2 = nI n := g2
    have f3 : z1 = upd zx a (nI n) := f3
    have g3 : z2 = upd zm a (nI n) := g3
    subst f2 g2 f3 g3
    refine ⟨_, _, w1, _, w2, _, _, put1 K a (some n), f1, g1, fun i hi => ?_⟩
    rw [upd_e, upd_e]
    unfold put1
    by_cases hia : i = a
    · rw [if_pos hia, if_pos hia, if_pos hia]
      refine ⟨rfl, rfl, fun k' hk' => ?_⟩
      cases hk'
      refine ⟨hn, fun j hj => ?_⟩
      rw [hia]
      exact (f5 j hj).trans (g5 j hj).symm
    · rw [if_neg hia, if_neg hia, if_neg hia]
      refine ⟨(h i hi).1, (h i hi).2.1, fun k' hk' => ⟨((h i hi).2.2 k' hk').1, fun j hj => ?_⟩⟩
      exact ((f4 i j hia).trans (((h i hi).2.2 k' hk').2 j hj)).trans (g4 i j hia).symm
theorem s_compareReachable (fu : Nat) (hfu : 32 < fu) {n m : Nat} {S T L : Nat → Nat} {ox sx om sm : Int32} {lx cx tx lm cm tm : Nat → Int32} (hp : SyP n m S T L) (hx : Sy n m S T L ox sx lx cx tx) (hm : Sy n m S T L om sm lm cm tm) {K : Nat → Option Nat} {zx zm : Nat → Int32} {vx vm : Nat → Nat → Int64} (h : ArR K zx vx zm vm) (rows : Nat → Int32) (D : Nat → Nat → Int32) (v1 : Int32) :
    ∃ r rows' D', f_X11_compareReachable fu ox sx zx vx rows lx cx tx v1 = some (r, rows') ∧ f_X12_compareReachable fu om sm vm D zm cm tm v1 = some (r, D') := by
  have hn := hp.1
  unfold f_X11_compareReachable f_X12_compareReachable
  rw [arr_x, arr_m]
  simp only [Option.bind_some, bI_ifn]
  cases h1 : inN v1 3 with
  | false => exact ⟨_, _, _, rfl, rfl⟩
  | true =>
    obtain ⟨a, ha, rfl⟩ := inN_of (by decide) h1
    obtain ⟨g1, g2, g3⟩ := h a ha
    unfold f_X5_isMissing
    simp (disch := omega) only [↓reduceIte, ck_nI, nI_clamp, g1, g2, szI_m1 (fun k hk => (g3 k hk).1), szI_0 (fun k hk => (g3 k hk).1)]
    cases hk : K a with
    | none =>
      simp only [not_true_eq_false, ↓reduceIte]
      exact ⟨_, _, _, rfl, rfl⟩
    | some k =>
      obtain ⟨g4, g5⟩ := g3 k hk
      obtain ⟨reach, e1, e2⟩ := x_fill fu hfu hp hx rows
      obtain ⟨D', e3, e4⟩ := m_dist fu hfu hp hm D
      have hne : ¬ (some k = none) := by intro h; cases h
      simp only [hne, not_false_eq_true, ↓reduceIte, Option.bind_some]
      rw [e1, e3]
      have h0 := hx.1
      have h00 := hm.1
      subst h0 h00
      simp (disch := omega) only [Option.bind_some, lt, ck_nI]
      show ∃ r rows' D'_1, (lp _ (f_X11_compareReachable_L59 (nI n) vx reach (nI a) (nI k) (if nI n < nI k then nI n else nI k)) fu 0) = some (r, rows') ∧ (if nI n ≤ nI k then f_X12_compareReachable_J51 fu (nI n) vm zm (nI a) (nI n) D' else f_X12_compareReachable_J51 fu (nI n) vm zm (nI a) (nI k) D') = some (r, D'_1)
      have hc : ∃ c, c ≤ n ∧ c ≤ k ∧ (if nI n < nI k then nI n else nI k) = nI c ∧ (if nI n ≤ nI k then f_X12_compareReachable_J51 fu (nI n) vm zm (nI a) (nI n) D' else f_X12_compareReachable_J51 fu (nI n) vm zm (nI a) (nI k) D') = f_X12_compareReachable_J51 fu (nI n) vm zm (nI a) (nI c) D' := by
        simp (disch := omega) only [nI_ltI, nI_leI]
        by_cases hnk : n < k
        · exact ⟨n, by omega, by omega, if_pos hnk, if_pos (by omega)⟩
        · by_cases hnk2 : n ≤ k
          · have : n = k := by omega
            subst this
            exact ⟨n, by omega, by omega, if_neg hnk, if_pos hnk2⟩
          · exact ⟨k, by omega, by omega, if_neg hnk, if_neg hnk2⟩
      obtain ⟨c, c1, c2, c3, c4⟩ := hc
      rw [c3, c4]
      unfold f_X12_compareReachable_J51
      simp only [lt]
      have key : ∀ (fx fm k' i : Nat), i + k' = c → k' < fx → k' < fm → ∃ r rows' D2, lp (τ := Int32 → Option (Int32 × (Nat → Int32))) (fun _ => none) (f_X11_compareReachable_L59 (nI n) vx reach (nI a) (nI k) (nI c)) fx (nI i) = some (r, rows') ∧ lp (τ := Int32 → Option (Int32 × (Nat → Nat → Int32))) (fun _ => none) (f_X12_compareReachable_L54 fu (nI n) vm D' zm (nI a) (nI c)) fm (nI i) = some (r, D2) := by
        intro fx
        induction fx with
        | zero => intro fm k' i _ h; omega
        | succ fx ihx =>
          intro fm k' i hi hk1 hk2
          obtain ⟨fm, rfl⟩ : ∃ q, fm = q + 1 := ⟨fm - 1, by omega⟩
          show ∃ r rows' D2, f_X11_compareReachable_L59 (nI n) vx reach (nI a) (nI k) (nI c) (lp _ _ fx) (nI i) = some (r, rows') ∧ f_X12_compareReachable_L54 fu (nI n) vm D' zm (nI a) (nI c) (lp _ _ fm) (nI i) = some (r, D2)
          have IH := fun k' i => ihx fm k' i
          generalize lp (τ := Int32 → Option (Int32 × (Nat → Int32))) (fun _ => none) (f_X11_compareReachable_L59 (nI n) vx reach (nI a) (nI k) (nI c)) fx = rx at IH ⊢
          generalize lp (τ := Int32 → Option (Int32 × (Nat → Nat → Int32))) (fun _ => none) (f_X12_compareReachable_L54 fu (nI n) vm D' zm (nI a) (nI c)) fm = rm at IH ⊢
          unfold f_X11_compareReachable_L59 f_X12_compareReachable_L54 f_X11_compareReachable_J98 f_X12_compareReachable_J85
          by_cases hic : i = c
          · subst hic
            rw [if_pos (nI_le (Nat.le_refl i) (by omega)), if_pos (nI_le (Nat.le_refl i) (by omega))]
            simp (disch := omega) only [ck_nI, nI_clamp, g2, hk]
            show ∃ r rows' D2, (if ¬ nI k = nI n then some (nI i, reach) else some (-2, reach)) = some (r, rows') ∧ (if ¬ nI k = nI n then some (nI i, D') else some (-2, D')) = some (r, D2)
            by_cases he : nI k = nI n
            · rw [if_neg (fun h => h he), if_neg (fun h => h he)]
              exact ⟨_, _, _, rfl, rfl⟩
            · rw [if_pos he, if_pos he]
              exact ⟨_, _, _, rfl, rfl⟩
          · rw [if_neg (nI_ge (a := i) (by omega) (by omega)), if_neg (nI_ge (a := i) (by omega) (by omega))]
            obtain ⟨q, f1, f2⟩ := m_reach fu hfu hp hm e4 (show i < n by omega)
            rw [f1]
            have : q = reach i := isRch_eq f2 (e2 i (by omega))
            subst this
            simp (disch := omega) only [ck_nI, nI_clamp, Option.bind_some, lt, nI_1]
            rw [g5 i (by omega)]
            by_cases he : lg_cmp (vm a i) ((reach i).toInt64) = 0
            · rw [if_pos he, if_pos he]
              exact IH (k' - 1) (i + 1) (by omega) (by omega) (by omega)
            · rw [if_neg he, if_neg he]
              exact ⟨_, _, _, rfl, rfl⟩
      exact key fu fu c 0 (by omega) (by omega) (by omega)
