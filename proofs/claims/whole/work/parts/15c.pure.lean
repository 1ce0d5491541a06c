theorem x_leave (fu : Nat) (hfu : 32 < fu) {n m : Nat} {S T L : Nat → Nat} {ox sx : Int32} {lx cx tx : Nat → Int32} (hp : SyP n m S T L) (hx : Sy n m S T L ox sx lx cx tx) {w : Nat → Nat → Bool} {own oth : Nat} {bo be : Int32} (hoth : oth < 8) (hbo : ∀ l, l < 8 → bt bo l = w own l) (hbe : ∀ l, l < 8 → bt be l = (w own l || w oth l))
    {x0 p c : Nat} {nd ln pv ar : Nat → Nat} {pl : Int32} {arr fp len obj par prv : Nat → Int32} (hx0 : x0 < 2 * n) (hB : Bf m (dS S T L w own oth) x0 p 0 c nd ln pv ar) (hP : PlR c nd ln pv ar pl arr fp len obj par prv) (hc : c ≤ 32) (hnd : ∀ i, i < c → nd i < 2 * n) (hpc : p < c) :
    tot (f_X9_leave fu sx bo be (nI oth) pl lx cx tx arr fp len obj par prv (nI p)) (fun q => ∃ c' nd' ln' pv' ar' pl' arr' fp' len' obj' par' prv', q = (vv (0 : Int32) [pl'], vv (fun _ => (0 : Int32)) [arr', fp', len', obj', par', prv']) ∧ c ≤ c' ∧ c' ≤ 32 ∧ (∀ i, i < c' → nd' i < 2 * n) ∧ Bf m (dS S T L w own oth) x0 p m c' nd' ln' pv' ar' ∧ PlR c' nd' ln' pv' ar' pl' arr' fp' len' obj' par' prv') := by
  have hm := hp.2.1
  have hn := hp.1
  obtain ⟨rfl, rfl, hl, hcs, ht⟩ := hx
  unfold f_X9_leave
  refine tot_lt (lw8 (fun k v arr fp len obj par pl prv => ∃ s c' nd ln pv ar, v = nI s ∧ s + k = m ∧ c ≤ c' ∧ c' ≤ 32 ∧ (∀ i, i < c' → nd i < 2 * n) ∧ Bf m (dS S T L w own oth) x0 p s c' nd ln pv ar ∧ PlR c' nd ln pv ar pl arr fp len obj par prv) ?_ fu m _ _ _ _ _ _ _ _ (by omega) ⟨0, c, nd, ln, pv, ar, rfl, by omega, Nat.le_refl c, hc, hnd, hB, hP⟩)
  clear hB hP hnd hc
  rintro r k v arr fp len obj par pl prv ⟨s, c', nd, ln, pv, ar, rfl, hs, hcc, hc, hnd, hB, hP⟩ ih
  unfold f_X9_leave_L2 f_X9_leave_J63
  by_cases hsm : s = m
  · subst hsm
    rw [if_pos (nI_le (Nat.le_refl s) (by omega))]
    exact tot_some ⟨c', nd, ln, pv, ar, _, _, _, _, _, _, _, rfl, hcc, hc, hnd, hB, hP⟩
  · rw [if_neg (nI_ge (a := s) (by omega) (by omega))]
    have hS := hp.2.2 s (by omega)
    have hnp := hnd p (by omega)
    simp (disch := omega) only [ck_nI, nI_clamp, lt, nI_1]
    rw [hcs s (by omega), (hP.2.1 p (by omega)).1, (hP.2.1 p (by omega)).2.1, hl s (by omega), ht s (by omega)]
    simp (disch := omega) only [nI_eq]
    have skip : (∀ y, dS S T L w own oth s (nd p) = some y → ∃ i, i < c' ∧ nd i = y) → ∀ pl arr fp len obj par prv, PlR c' nd ln pv ar pl arr fp len obj par prv → tot (r (nI (s + 1)) arr fp len obj par pl prv) _ := fun hno pl arr fp len obj par prv hP => ih (k - 1) _ _ _ _ _ _ _ _ (by omega) ⟨s + 1, c', nd, ln, pv, ar, rfl, by omega, hcc, hc, hnd, Bf_none hB hno, hP⟩
    by_cases he : S s = nd p / 2
    · rw [if_neg (fun h => h he), x_part hS.2.2 (show nd p % 2 < 2 by omega) hoth (hbo _ hS.2.2) (hbe _ hS.2.2)]
      simp only [Option.bind_some]
      cases hpa : pa w own oth (L s) (nd p % 2) with
      | none =>
        simp only [↓reduceIte]
        refine skip (fun y hy => ?_) _ _ _ _ _ _ _ hP
        obtain ⟨b, _, _, h2, _⟩ := dS_some hy
        rw [hpa] at h2
        cases h2
      | some b =>
        have hb := pa_lt hpa
        have hd : dS S T L w own oth s (nd p) = some (2 * T s + b) := by
          unfold dS
          rw [if_pos he, hpa]
          rfl
        have hne : ¬ nI b = -1 := by
          have : b = 0 ∨ b = 1 := by omega
          rcases this with rfl | rfl <;> decide
        simp only [hne, ↓reduceIte]
        have hlnb : ∀ i, i < c' → ln i < 1000 := by
          intro i hi
          have h1 : ∀ i, i < c' → ln i ≤ i := by
            intro i
            induction i using Nat.strongRecOn with
            | ind i ihh =>
              intro hi
              by_cases h0 : i = 0
              · rw [h0, hB.2.2.1]
                exact Nat.le_refl 0
              · have g := hB.2.2.2.2.1 i (by omega) hi
                have := ihh (pv i) g.1 (by omega)
                rw [g.2.2.2.1]
                omega
          have := h1 i hi
          omega
        obtain ⟨pl', arr', fp', len', obj', par', prv', e1, e2⟩ := x_meet fu hfu hc hB.2.2.2.1 (fun i hi => by have := hnd i hi; omega) hlnb hP (o := T s) (q := b) (p := p) (s := s) (by omega) hb (by omega)
        rw [e1]
        simp only [Option.bind_some]
        rcases e2 with ⟨h1, h2⟩ | ⟨h1, h2, h3⟩
        · refine skip (fun y hy => ?_) _ _ _ _ _ _ _ h2
          rw [hd] at hy
          cases hy
          exact h1
        · refine ih (k - 1) _ _ _ _ _ _ _ _ (by omega) ⟨s + 1, c' + 1, _, _, _, _, rfl, by omega, by omega, by omega, fun i hi => ?_, Bf_add hB (by omega) (by omega) hd h1, h3⟩
          unfold put1
          by_cases hic : i = c'
          · rw [if_pos hic]
            omega
          · rw [if_neg hic]
            exact hnd i (by omega)
    · rw [if_pos he]
      refine skip (fun y hy => ?_) _ _ _ _ _ _ _ hP
      obtain ⟨b, _, _, _, h2⟩ := dS_some hy
      exact absurd h2 he
theorem x_fill32 (fu : Nat) {N : Nat} (hfu : N < fu) (hN : N < 2 ^ 31) (f : Nat → Int32) (x : Int32) : tot (f_J7_fill_53178 fu f N x) (fun o => ∀ b, b < N → o b = x) := by
  unfold f_J7_fill_53178
  refine tot_lt (tot_lt (lw2 (fun k v f => ∃ i, v = nI i ∧ i + k = N ∧ ∀ b, b < i → f b = x) ?_ fu N _ _ hfu ⟨0, rfl, by omega, fun b hb => absurd hb (Nat.not_lt_zero b)⟩))
  rintro r k v f ⟨i, rfl, hi, hf⟩ ih
  unfold f_J7_fill_53178_L5
  rw [show Int32.ofNat N = nI N from rfl]
  by_cases hin : i = N
  · subst hin
    rw [if_pos (nI_le (Nat.le_refl i) (by omega))]
    exact tot_some hf
  · rw [if_neg (nI_ge (a := i) (by omega) (by omega))]
    simp (disch := omega) only [ck_nI, nI_clamp, lt, nI_1]
    refine ih (k - 1) _ _ (by omega) ⟨i + 1, rfl, by omega, fun b hb => ?_⟩
    rw [upd_e]
    by_cases hbi : b = i
    · rw [if_pos hbi]
    · rw [if_neg hbi]
      exact hf b (by omega)
def SpF (n m : Nat) (S T L : Nat → Nat) (w : Nat → Nat → Bool) (own oth t0 : Nat) (arr fp len prv : Nat → Int32) : Prop := ∃ c nd ln pv ar pl obj par, Bf m (dS S T L w own oth) (2 * t0) c 0 c nd ln pv ar ∧ PlR c nd ln pv ar pl arr fp len obj par prv ∧ c ≤ 32 ∧ ∀ i, i < c → nd i < 2 * n
theorem x_search (fu : Nat) (hfu : 40 < fu) {n m : Nat} {S T L : Nat → Nat} {ox sx : Int32} {lx cx tx : Nat → Int32} (hp : SyP n m S T L) (hx : Sy n m S T L ox sx lx cx tx) {below : Nat → Int32} {w : Nat → Nat → Bool} (hw : Rb below w) {st ot : Nat} (hst : st < m) (hot : ot < m) (arr fp len obj par prv : Nat → Int32) :
    tot (f_X9_search fu sx lx cx tx below arr fp len obj par prv (nI st) (nI ot)) (fun q => SpF n m S T L w (L st) (L ot) (T st) (q.2 0) (q.2 1) (q.2 2) (q.2 5)) := by
  have hm := hp.2.1
  have hn := hp.1
  have hSt := hp.2.2 st hst
  have hOt := hp.2.2 ot hot
  unfold f_X9_search
  simp (disch := omega) only [ck_nI, nI_clamp, lt]
  rw [hx.2.2.1 st hst, hx.2.2.1 ot hot, hx.2.2.2.2 st hst]
  simp (disch := omega) only [ck_nI, nI_clamp]
  obtain ⟨fp0, e1, e2⟩ := x_fill32 fu (N := 16) (by omega) (by decide) fp (-2)
  rw [e1]
  simp only [Option.bind_some]
  obtain ⟨pl', arr', fp', len', obj', par', prv', e3, e4⟩ := x_meet0 fu (by omega) (arr := arr) (fp := fp0) (len := len) (obj := obj) (par := par) (prv := prv) e2 (show T st < 16 by omega) (fun _ => 0) (fun _ => 0)
  rw [e3]
  simp only [Option.bind_some]
  refine lw8 (fun k v arr fp len obj par pl prv => ∃ p c nd ln pv ar, v = nI p ∧ p + k = 32 ∧ p ≤ c ∧ c ≤ 32 ∧ (∀ i, i < c → nd i < 2 * n) ∧ Bf m (dS S T L w (L st) (L ot)) (2 * T st) p 0 c nd ln pv ar ∧ PlR c nd ln pv ar pl arr fp len obj par prv) ?_ fu 32 _ _ _ _ _ _ _ _ (by omega) ⟨0, 1, _, _, _, _, rfl, by omega, by omega, by omega, fun i hi => by show 2 * T st < 2 * n; omega, Bf_init _ _ _ rfl rfl, e4⟩
  clear e1 e2 e3 e4
  rintro r k v arr fp len obj par pl prv ⟨p, c, nd, ln, pv, ar, rfl, hk, hpc, hc, hnd, hB, hP⟩ ih
  unfold f_X9_search_L80
  rw [show (32 : Int32) = nI 32 from rfl]
  have hpl := hP.1
  subst hpl
  by_cases hp32 : 32 ≤ p
  · have : p = c := by omega
    subst this
    rw [if_pos (nI_le hp32 (by omega))]
    exact tot_some ⟨p, nd, ln, pv, ar, _, _, _, hB, hP, hc, hnd⟩
  · rw [if_neg (nI_ge (a := p) (by omega) (by decide))]
    by_cases hpc2 : c ≤ p
    · have : p = c := by omega
      subst this
      rw [if_pos (nI_le hpc2 (by omega))]
      exact tot_some ⟨p, nd, ln, pv, ar, _, _, _, hB, hP, hc, hnd⟩
    · rw [if_neg (nI_ge (a := p) (by omega) (by omega))]
      obtain ⟨q, e1, c', nd', ln', pv', ar', pl', arr', fp', len', obj', par', prv', rfl, g1, g2, g3, g4, g5⟩ := x_leave fu (by omega) hp hx (w := w) (own := L st) (oth := L ot) (bo := below (L st)) (be := below (L st) ||| below (L ot)) hOt.2.2 (fun l hl => hw (L st) hSt.2.2 l (by omega)) (fun l hl => by rw [b_or, hw (L st) hSt.2.2 l (by omega), hw (L ot) hOt.2.2 l (by omega)]) (show 2 * T st < 2 * n by omega) hB hP hc hnd (by omega)
      rw [e1]
      simp only [Option.bind_some, lt, nI_1]
      exact ih (k - 1) _ _ _ _ _ _ _ _ (by omega) ⟨p + 1, c', nd', ln', pv', ar', rfl, by omega, by omega, g2, g3, Bf_next g4, g5⟩
