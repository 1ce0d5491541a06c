theorem s_removeGreater (fu : Nat) (hfu : 8 < fu) {below pairs : Nat → Int32} {above pm : Nat → Nat → Int32} {p : Nat → Nat → Bool} (hp : OrP p) (hx : OrX below pairs p) (hm : OrM above pm p) (v1 v2 : Int32) :
    ∃ (r : Int32) (b' p' : Nat → Int32) (a' m' : Nat → Nat → Int32) (q : Nat → Nat → Bool), f_X11_removeGreater fu below pairs v1 v2 = some (r, b', p') ∧ f_X12_removeGreater fu above pm v1 v2 = some (r, a', m') ∧ OrP q ∧ OrX b' p' q ∧ OrM a' m' q := by
  unfold f_X11_removeGreater f_X12_removeGreater
  simp only [lab_x, lab_m, Option.bind_some, bI_if, bI_ifn]
  cases h1 : inN v1 8 with
  | false =>
    simp only [↓reduceIte, Bool.false_eq_true]
    exact ⟨_, _, _, _, _, p, rfl, rfl, hp, hx, hm⟩
  | true =>
    cases h2 : inN v2 8 with
    | false =>
      simp only [↓reduceIte, Bool.false_eq_true]
      exact ⟨_, _, _, _, _, p, rfl, rfl, hp, hx, hm⟩
    | true =>
      obtain ⟨g, hg, rfl⟩ := inN_of (by decide) h1
      obtain ⟨l, hl, rfl⟩ := inN_of (by decide) h2
      simp only [↓reduceIte]
      simp (disch := omega) only [ck_nI, nI_clamp]
      rw [hm.2 g hg l hl, x_hasPair hx.2 hg hl]
      unfold f_X12_removeGreater_J32
      simp (disch := omega) only [ck_nI, nI_clamp, lt, Option.bind_some, bI_if, bI_ifn]
      rw [show vp_nar .boolean (0 : Int32) = 0 from rfl]
      have hma := Rt_del (g := g) (l := l) hm.2
      obtain ⟨a', e3, e4⟩ := m_close fu hfu above _ _ hma
      rw [e3]
      cases hc : p g l with
      | true =>
        simp only [↓reduceIte]
        have hxa := Rb_del (g := g) hx.2 hl
        obtain ⟨b', e1, e2⟩ := x_close fu hfu below _ _ hxa
        refine ⟨1, b', _, a', _, o_del p g l, ?_, rfl, ⟨o_del_sm hp.1, o_del_ac hp.1 hp.2⟩, ⟨e2, hxa⟩, ⟨e4, hma⟩⟩
        unfold f_X2_drop
        simp (disch := omega) only [ck_nI, nI_clamp, lt]
        rw [e1]
        rfl
      | false =>
        simp only [↓reduceIte, Bool.false_eq_true]
        have e : o_del p g l = p := by
          funext i j
          unfold o_del
          by_cases hg : i = g
          · by_cases hl : j = l
            · subst hg hl
              rw [hc]
              rfl
            · simp [hl]
          · simp [hg]
        rw [e] at e4 hma
        exact ⟨_, _, _, _, _, p, rfl, rfl, hp, hx, ⟨e4, hma⟩⟩
theorem s_isGreater {below pairs : Nat → Int32} {above pm : Nat → Nat → Int32} {p : Nat → Nat → Bool} (hx : OrX below pairs p) (hm : OrM above pm p) (v1 v2 : Int32) :
    ∃ (r : Int32), f_X11_isGreater below v1 v2 = some r ∧ f_X12_isGreater above v1 v2 = some r := by
  unfold f_X11_isGreater f_X12_isGreater f_X12_isGreater_J14
  simp only [lab_x, lab_m, Option.bind_some, bI_if, bI_ifn]
  cases h1 : inN v1 8 with
  | false => exact ⟨_, rfl, rfl⟩
  | true =>
    cases h2 : inN v2 8 with
    | false => exact ⟨_, rfl, rfl⟩
    | true =>
      obtain ⟨g, hg, rfl⟩ := inN_of (by decide) h1
      obtain ⟨l, hl, rfl⟩ := inN_of (by decide) h2
      simp only [↓reduceIte]
      simp (disch := omega) only [ck_nI, nI_clamp]
      rw [hm.1 g hg l hl, x_above hx.1 hg hl]
      simp only [Option.bind_some, bI_if]
      cases war p 8 g l <;> exact ⟨_, rfl, rfl⟩
/-! counting -/
def cb (f : Nat → Bool) : Nat → Nat
  | 0 => 0
  | n + 1 => cb f n + (f n).toNat
theorem bc8 : ∀ k, k < 256 → f_J6_bitCount_0f7a4 (nI k) = some (nI (cb (fun j => k.testBit j) 8)) := by decide +kernel
theorem b_nat (x : Int32) : ∃ k, x = nI k ∧ ∀ j, k.testBit j = bt x j :=
  ⟨x.toBitVec.toNat, Int32.toBitVec_inj.mp (by show _ = BitVec.ofNat 32 _; simp), fun _ => rfl⟩
theorem bc_e {x : Int32} {q : Nat → Bool} (h : ∀ j, j < 32 → bt x j = q j) (hq : ∀ j, 8 ≤ j → q j = false) : f_J6_bitCount_0f7a4 x = some (nI (cb q 8)) := by
  obtain ⟨k, rfl, hk⟩ := b_nat x
  have hk2 : ∀ j, k.testBit j = q j := fun j => by
    rw [hk]
    rcases Nat.lt_or_ge j 32 with h3 | h3
    · exact h j h3
    · rw [b_big h3, hq j (by omega)]
  have : k < 256 := Nat.lt_pow_two_of_testBit k (n := 8) (fun i hi => by rw [hk2 i, hq i hi])
  rw [bc8 k this]
  congr 2
  congr 1
  funext j
  exact hk2 j
def sz (p : Nat → Nat → Bool) : Nat → Nat
  | 0 => 0
  | n + 1 => sz p n + cb (p n) 8
theorem x_size (fu : Nat) (hfu : 8 < fu) (pairs : Nat → Int32) (p : Nat → Nat → Bool) (hs : o_sm p) (hp : Rb pairs p) : f_X2_size fu pairs = some (nI (sz p 8)) := by
  have : tot (f_X2_size fu pairs) (fun o => o = nI (sz p 8)) := by
    unfold f_X2_size
    refine tot_lt (tot_lt (lw2 (fun n v w => ∃ i, w = nI i ∧ i + n = 8 ∧ v = nI (sz p i)) ?_ fu 8 _ _ hfu ⟨0, rfl, rfl, rfl⟩))
    rintro r n v w ⟨i, rfl, hi, rfl⟩ ih
    unfold f_X2_size_L4
    by_cases h8 : i = 8
    · subst h8
      rw [if_pos c8t]
      exact tot_some rfl
    · rw [if_neg (c8f (k := i) (by omega))]
      simp (disch := omega) only [ck_nI, nI_clamp]
      rw [bc_e (hp i (by omega)) (fun j hj => hs i j (Or.inr hj))]
      simp only [Option.bind_some, lt, nI_1, nI_add]
      exact ih (n - 1) _ _ (by omega) ⟨i + 1, rfl, by omega, rfl⟩
  obtain ⟨o, h1, h2⟩ := this
  rw [h1, h2]
theorem natb : ∀ i, i < 8 → ∀ j, j < 32 → bt ((1 <<< (nI i &&& 31)) - 1) j = o_nat i j := by decide +kernel
theorem x_makeNatural (fu : Nat) (hfu : 8 < fu) (below pairs : Nat → Int32) : tot (f_X2_makeNatural fu below pairs) (fun o => OrX o.1 o.2 o_nat) := by
  unfold f_X2_makeNatural
  refine tot_lt (lw3 (fun n v b q => ∃ i, v = nI i ∧ i + n = 8 ∧ (∀ a, a < i → ∀ j, j < 32 → bt (b a) j = o_nat a j) ∧ (∀ a, a < i → ∀ j, j < 32 → bt (q a) j = o_nat a j)) ?_ fu 8 _ _ _ hfu ⟨0, rfl, rfl, fun a ha => absurd ha (Nat.not_lt_zero a), fun a ha => absurd ha (Nat.not_lt_zero a)⟩)
  rintro r n v b q ⟨i, rfl, hi, hb, hq⟩ ih
  unfold f_X2_makeNatural_L2
  by_cases h8 : i = 8
  · subst h8
    rw [if_pos c8t]
    refine tot_some ⟨?_, hq⟩
    rw [o_nat_war]
    exact hb
  · rw [if_neg (c8f (k := i) (by omega))]
    simp (disch := omega) only [ck_nI, nI_clamp, lt, nI_1]
    have key : ∀ (f : Nat → Int32), (∀ a, a < i → ∀ j, j < 32 → bt (f a) j = o_nat a j) → ∀ x, (∀ j, j < 32 → bt x j = o_nat i j) → ∀ a, a < i + 1 → ∀ j, j < 32 → bt (upd f i x a) j = o_nat a j := by
      intro f hf x hx a ha j hj
      rw [upd_e]
      by_cases h : a = i
      · subst h
        rw [if_pos rfl]
        exact hx j hj
      · rw [if_neg h]
        exact hf a (by omega) j hj
    refine ih (n - 1) _ _ _ (by omega) ⟨i + 1, rfl, by omega, key b hb _ (fun j hj => ?_), key q hq _ (natb i (by omega))⟩
    rw [upd_e, if_pos rfl]
    exact natb i (by omega) j hj
theorem m_natural (fu : Nat) (hfu : 8 < fu) (above pm : Nat → Nat → Int32) (p : Nat → Nat → Bool) (hp : Rt pm p) : tot (f_X12_useNaturalOrder fu above pm) (fun o => o.1 = nI (sz p 8) ∧ OrM o.2.1 o.2.2 o_nat) := by
  unfold f_X12_useNaturalOrder
  refine tot_lt (tot_lt (lw3 (fun n v w q => ∃ i, w = nI i ∧ i + n = 8 ∧ v = nI (sz p i) ∧ (∀ a, a < 8 → ∀ j, j < 8 → q a j = bI (if a < i then o_nat a j else p a j))) ?_ fu 8 _ _ _ hfu ⟨0, rfl, rfl, rfl, fun a ha j hj => by rw [if_neg (Nat.not_lt_zero a)]; exact hp a ha j hj⟩))
  rintro r n v w q ⟨i, rfl, hi, rfl, hq⟩ ih
  unfold f_X12_useNaturalOrder_L4
  by_cases h8 : i = 8
  · subst h8
    rw [if_pos c8t]
    unfold f_X12_useNaturalOrder_J67
    have hq2 : Rt q o_nat := fun a ha j hj => by rw [hq a ha j hj, if_pos ha]
    obtain ⟨a', e3, e4⟩ := m_close fu hfu above _ _ hq2
    rw [e3]
    exact tot_some ⟨rfl, e4, hq2⟩
  · rw [if_neg (c8f (k := i) (by omega))]
    refine tot_lt (lw3 (fun n v w q => ∃ t, w = nI t ∧ t + n = 8 ∧ v = nI (sz p i + cb (p i) t) ∧ (∀ a, a < 8 → ∀ j, j < 8 → q a j = bI (if a < i ∨ (a = i ∧ j < t) then o_nat a j else p a j))) ?_ fu 8 _ _ _ hfu ⟨0, rfl, rfl, rfl, fun a ha j hj => ?_⟩)
    · clear hq
      rintro r2 n2 v w q ⟨t, rfl, ht, rfl, hq⟩ ih2
      unfold f_X12_useNaturalOrder_L12 f_X12_useNaturalOrder_J61
      by_cases ht8 : t = 8
      · subst ht8
        rw [if_pos c8t]
        refine tot_lt ?_
        rw [nI_1]
        refine ih (n - 1) _ _ _ (by omega) ⟨i + 1, rfl, by omega, rfl, fun a ha j hj => ?_⟩
        rw [hq a ha j hj]
        by_cases h1 : a < i + 1
        · rw [if_pos h1, if_pos (by omega)]
        · rw [if_neg h1, if_neg (by omega)]
      · rw [if_neg (c8f (k := t) (by omega))]
        have e1 : q i t = bI (p i t) := by rw [hq i (by omega) t (by omega), if_neg (by omega)]
        have fin : tot (r2 (nI (sz p i + cb (p i) (t + 1))) (nI (t + 1)) (up2 q i t (bI (o_nat i t)))) (fun o => o.1 = nI (sz p 8) ∧ OrM o.2.1 o.2.2 o_nat) := by
          refine ih2 (n2 - 1) _ _ _ (by omega) ⟨t + 1, rfl, by omega, rfl, fun a ha j hj => ?_⟩
          rw [up2_e]
          by_cases h1 : a = i
          · subst h1
            rw [if_pos rfl]
            by_cases h2 : j = t
            · subst h2
              rw [if_pos rfl, if_pos (by omega)]
            · rw [if_neg h2, hq a ha j hj]
              by_cases h3 : j < t
              · rw [if_pos (by omega), if_pos (by omega)]
              · rw [if_neg (by omega), if_neg (by omega)]
          · rw [if_neg h1, hq a ha j hj]
            by_cases h3 : a < i
            · rw [if_pos (by omega), if_pos (by omega)]
            · rw [if_neg (by omega), if_neg (by omega)]
        have e2 : (if nI i ≤ nI t then f_X12_useNaturalOrder_J54 (nI i) r2 (nI t) 0 (nI (sz p i + cb (p i) (t + 1))) (nI t) q else f_X12_useNaturalOrder_J54 (nI i) r2 (nI t) 1 (nI (sz p i + cb (p i) (t + 1))) (nI t) q) = r2 (nI (sz p i + cb (p i) (t + 1))) (nI (t + 1)) (up2 q i t (bI (o_nat i t))) := by
          unfold f_X12_useNaturalOrder_J54
          simp (disch := omega) only [ck_nI, nI_clamp, lt, nI_1, nI_leI]
          by_cases h : i ≤ t
          · rw [if_pos h]
            have : o_nat i t = false := by unfold o_nat; rw [decide_eq_false (by omega)]; rfl
            rw [this]
            rfl
          · rw [if_neg h]
            have : o_nat i t = true := by unfold o_nat; rw [decide_eq_true (by omega), decide_eq_true (by omega)]; rfl
            rw [this]
            rfl
        unfold f_X12_useNaturalOrder_J35
        simp (disch := omega) only [ck_nI, nI_clamp, lt, e1]
        cases hc : p i t with
        | false =>
          have : sz p i + cb (p i) (t + 1) = sz p i + cb (p i) t := by
            show sz p i + (cb (p i) t + (p i t).toNat) = _
            rw [hc]
            rfl
          rw [if_pos bI_f, show nI (sz p i + cb (p i) t) + 0 = nI (sz p i + cb (p i) (t + 1)) from by rw [this, show (0 : Int32) = nI 0 from rfl, nI_add]; rfl, e2]
          exact fin
        | true =>
          have : sz p i + cb (p i) (t + 1) = sz p i + cb (p i) t + 1 := by
            show sz p i + (cb (p i) t + (p i t).toNat) = _
            rw [hc]
            rfl
          rw [if_neg (by decide), nI_1, ← this, e2]
          exact fin
    · rw [hq a ha j hj]
      by_cases h : a < i
      · rw [if_pos h, if_pos (by omega)]
      · rw [if_neg h, if_neg (by omega)]
theorem s_useNaturalOrder (fu : Nat) (hfu : 8 < fu) {below pairs : Nat → Int32} {above pm : Nat → Nat → Int32} {p : Nat → Nat → Bool} (hp : OrP p) (hx : OrX below pairs p) (hm : OrM above pm p) :
    ∃ (r : Int32) (b' p' : Nat → Int32) (a' m' : Nat → Nat → Int32) (q : Nat → Nat → Bool), f_X11_useNaturalOrder fu below pairs = some (r, b', p') ∧ f_X12_useNaturalOrder fu above pm = some (r, a', m') ∧ OrP q ∧ OrX b' p' q ∧ OrM a' m' q := by
  obtain ⟨⟨b', p'⟩, e1, e2⟩ := x_makeNatural fu hfu below pairs
  obtain ⟨⟨r, a', m'⟩, e3, e4, e5⟩ := m_natural fu hfu above pm p hm.2
  refine ⟨r, b', p', a', m', o_nat, ?_, e3, ⟨o_nat_sm, o_nat_ac⟩, e2, e5⟩
  unfold f_X11_useNaturalOrder
  rw [x_size fu hfu pairs p hp.1 hx.2, ← e4]
  simp only [Option.bind_some, lt, e1]
