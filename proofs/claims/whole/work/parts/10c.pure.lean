theorem m_close (fu : Nat) (hfu : 8 < fu) (above pairs : Nat → Nat → Int32) (p : Nat → Nat → Bool) (hp : Rt pairs p) :
    tot (f_X12_closeOrder fu above pairs) (fun o => Rt o (war p 8)) := by
  unfold f_X12_closeOrder
  refine tot_lt (lw2 (fun n v b => ∃ i, v = nI i ∧ i + n = 8 ∧ ∀ a, a < i → ∀ j, j < 8 → b a j = bI (p a j)) ?_ fu 8 _ _ hfu ⟨0, rfl, rfl, fun a ha => absurd ha (Nat.not_lt_zero a)⟩)
  rintro r n v b ⟨i, rfl, hi, hb⟩ ih
  unfold f_X12_closeOrder_L2
  by_cases h8 : i = 8
  · subst h8
    rw [if_pos c8t]
    unfold f_X12_closeOrder_J44
    refine tot_lt (lw2 (fun n v b => ∃ k, v = nI k ∧ k + n = 8 ∧ Rt b (war p k)) ?_ fu 8 _ _ hfu ⟨0, rfl, rfl, hb⟩)
    clear ih hb hi
    rintro r n v b ⟨k, rfl, hk, hb⟩ ih
    unfold f_X12_closeOrder_L46
    by_cases h8 : k = 8
    · subst h8
      rw [if_pos c8t]
      exact tot_some hb
    · rw [if_neg (c8f (k := k) (by omega))]
      refine tot_lt (lw2 (fun n v b => ∃ i, v = nI i ∧ i + n = 8 ∧ ∀ a, a < 8 → ∀ j, j < 8 → b a j = bI (if a < i then war p (k + 1) a j else war p k a j)) ?_ fu 8 _ _ hfu ⟨0, rfl, rfl, fun a ha j hj => by rw [if_neg (Nat.not_lt_zero a)]; exact hb a ha j hj⟩)
      clear hb
      rintro r2 n2 v b ⟨i, rfl, hi, hb⟩ ih2
      unfold f_X12_closeOrder_L54 f_X12_closeOrder_J118
      by_cases hi8 : i = 8
      · subst hi8
        rw [if_pos c8t]
        refine tot_lt ?_
        rw [nI_1]
        refine ih (n - 1) _ _ (by omega) ⟨k + 1, rfl, by omega, fun a ha j hj => ?_⟩
        rw [hb a ha j hj, if_pos ha]
      · rw [if_neg (c8f (k := i) (by omega))]
        refine tot_lt (lw2 (fun n v b => ∃ t, v = nI t ∧ t + n = 8 ∧ ∀ a, a < 8 → ∀ j, j < 8 → b a j = bI (if a < i ∨ (a = i ∧ j < t) then war p (k + 1) a j else war p k a j)) ?_ fu 8 _ _ hfu ⟨0, rfl, rfl, fun a ha j hj => ?_⟩)
        · clear hb
          rintro r3 n3 v b ⟨t, rfl, ht, hb⟩ ih3
          unfold f_X12_closeOrder_L62 f_X12_closeOrder_J112 f_X12_closeOrder_J103 f_X12_closeOrder_J104
          by_cases ht8 : t = 8
          · subst ht8
            rw [if_pos c8t]
            refine tot_lt ?_
            rw [nI_1]
            refine ih2 (n2 - 1) _ _ (by omega) ⟨i + 1, rfl, by omega, fun a ha j hj => ?_⟩
            rw [hb a ha j hj]
            by_cases h1 : a < i + 1
            · rw [if_pos h1, if_pos (by omega)]
            · rw [if_neg h1, if_neg (by omega)]
          · rw [if_neg (c8f (k := t) (by omega))]
            have e1 : b i k = bI (war p k i k) := by
              rw [hb i (by omega) k (by omega)]
              by_cases h : i < i ∨ i = i ∧ k < t
              · rw [if_pos h, war_ik]
              · rw [if_neg h]
            have e2 : b k t = bI (war p k k t) := by
              rw [hb k (by omega) t (by omega)]
              by_cases h : k < i ∨ k = i ∧ t < t
              · rw [if_pos h, war_kj]
              · rw [if_neg h]
            have e3 : b i t = bI (war p k i t) := by
              rw [hb i (by omega) t (by omega), if_neg (by omega)]
            have fin : tot (r3 (nI (t + 1)) (up2 b i t (bI (war p (k + 1) i t)))) (fun o => Rt o (war p 8)) := by
              refine ih3 (n3 - 1) _ _ (by omega) ⟨t + 1, rfl, by omega, fun a ha j hj => ?_⟩
              rw [up2_e]
              by_cases h1 : a = i
              · subst h1
                rw [if_pos rfl]
                by_cases h2 : j = t
                · subst h2
                  rw [if_pos rfl, if_pos (by omega)]
                · rw [if_neg h2, hb a ha j hj]
                  by_cases h3 : j < t
                  · rw [if_pos (by omega), if_pos (by omega)]
                  · rw [if_neg (by omega), if_neg (by omega)]
              · rw [if_neg h1, hb a ha j hj]
                by_cases h3 : a < i
                · rw [if_pos (by omega), if_pos (by omega)]
                · rw [if_neg (by omega), if_neg (by omega)]
            simp (disch := omega) only [ck_nI, nI_clamp, e1, e2, e3, lt, nI_1]
            rw [war_s] at fin
            cases h1 : war p k i k with
            | false =>
              rw [if_pos bI_f, show (0 : Int32) = bI false from rfl, bI_or, bI_nar]
              rw [h1] at fin
              simpa using fin
            | true =>
              rw [if_neg (by decide)]
              cases h2 : war p k k t with
              | false =>
                rw [if_pos bI_f, show (0 : Int32) = bI false from rfl, bI_or, bI_nar]
                rw [h1, h2] at fin
                simpa using fin
              | true =>
                rw [if_neg (by decide), show (1 : Int32) = bI true from rfl, bI_or, bI_nar]
                rw [h1, h2] at fin
                simpa using fin
        · rw [hb a ha j hj]
          by_cases h : a < i
          · rw [if_pos h, if_pos (by omega)]
          · rw [if_neg h, if_neg (by omega)]
  · rw [if_neg (c8f (k := i) (by omega))]
    refine tot_lt (lw2 (fun n v b => ∃ t, v = nI t ∧ t + n = 8 ∧ ∀ a, a ≤ i → ∀ j, j < 8 → (a < i ∨ j < t) → b a j = bI (p a j)) ?_ fu 8 _ _ hfu ⟨0, rfl, rfl, fun a ha j hj h => hb a (by omega) j hj⟩)
    clear hb
    rintro r2 n2 v b ⟨t, rfl, ht, hb⟩ ih2
    unfold f_X12_closeOrder_L10 f_X12_closeOrder_J38
    by_cases ht8 : t = 8
    · subst ht8
      rw [if_pos c8t]
      refine tot_lt ?_
      rw [nI_1]
      exact ih (n - 1) _ _ (by omega) ⟨i + 1, rfl, by omega, fun a ha j hj => hb a (by omega) j hj (Or.inr hj)⟩
    · rw [if_neg (c8f (k := t) (by omega))]
      simp (disch := omega) only [ck_nI, nI_clamp, lt, nI_1]
      rw [hp i (by omega) t (by omega), bI_nar]
      refine ih2 (n2 - 1) _ _ (by omega) ⟨t + 1, rfl, by omega, fun a ha j hj h => ?_⟩
      rw [up2_e]
      by_cases h1 : a = i
      · rw [if_pos h1]
        by_cases h2 : j = t
        · rw [if_pos h2, h1, h2]
        · rw [if_neg h2]
          exact hb a ha j hj (by omega)
      · rw [if_neg h1]
        exact hb a ha j hj (by omega)
theorem Rb_add {f : Nat → Int32} {p : Nat → Nat → Bool} {g l : Nat} (h : Rb f p) (hl : l < 8) : Rb (upd f g (f g ||| (1 <<< (nI l &&& 31)))) (o_add p g l) := by
  intro i hi j hj
  rw [upd_e]
  unfold o_add
  by_cases hg : i = g
  · subst hg
    rw [if_pos rfl, b_or, b_1shl (by omega) hj, h i hi j hj]
    simp
  · rw [if_neg hg, h i hi j hj]
    simp [hg]
theorem Rb_del {f : Nat → Int32} {p : Nat → Nat → Bool} {g l : Nat} (h : Rb f p) (hl : l < 8) : Rb (upd f g (f g &&& ((1 <<< (nI l &&& 31)) ^^^ (-1)))) (o_del p g l) := by
  intro i hi j hj
  rw [upd_e]
  unfold o_del
  by_cases hg : i = g
  · subst hg
    rw [if_pos rfl, b_and, b_xor, b_1shl (by omega) hj, b_m1 j hj, h i hi j hj]
    simp
  · rw [if_neg hg, h i hi j hj]
    simp [hg]
theorem Rt_add {f : Nat → Nat → Int32} {p : Nat → Nat → Bool} {g l : Nat} (h : Rt f p) : Rt (up2 f g l 1) (o_add p g l) := by
  intro i hi j hj
  rw [up2_e]
  unfold o_add
  by_cases hg : i = g
  · by_cases hl : j = l
    · simp [hg, hl, bI]
    · rw [if_pos hg, if_neg hl, h i hi j hj]
      simp [hl]
  · rw [if_neg hg, h i hi j hj]
    simp [hg]
theorem Rt_del {f : Nat → Nat → Int32} {p : Nat → Nat → Bool} {g l : Nat} (h : Rt f p) : Rt (up2 f g l 0) (o_del p g l) := by
  intro i hi j hj
  rw [up2_e]
  unfold o_del
  by_cases hg : i = g
  · by_cases hl : j = l
    · simp [hg, hl, bI]
    · rw [if_pos hg, if_neg hl, h i hi j hj]
      simp [hl]
  · rw [if_neg hg, h i hi j hj]
    simp [hg]
/-! the order's state: the pairs p, their closure beside them -/
def OrX (below pairs : Nat → Int32) (p : Nat → Nat → Bool) : Prop := Rb below (war p 8) ∧ Rb pairs p
def OrM (above pairs : Nat → Nat → Int32) (p : Nat → Nat → Bool) : Prop := Rt above (war p 8) ∧ Rt pairs p
def OrP (p : Nat → Nat → Bool) : Prop := o_sm p ∧ o_ac p
theorem x_above {b : Nat → Int32} {p : Nat → Nat → Bool} {i j : Nat} (h : Rb b p) (hi : i < 8) (hj : j < 8) : f_X2_isAbove b (nI i) (nI j) = some (bI (p i j)) := by
  unfold f_X2_isAbove
  simp (disch := omega) only [ck_nI, nI_clamp]
  rw [isIn_e _ (show j < 32 by omega), h i hi j (by omega)]
  exact bI_ckb
theorem x_hasPair {b : Nat → Int32} {p : Nat → Nat → Bool} {i j : Nat} (h : Rb b p) (hi : i < 8) (hj : j < 8) : f_X2_hasPair b (nI i) (nI j) = some (bI (p i j)) := x_above h hi hj
theorem s_addGreater (fu : Nat) (hfu : 8 < fu) {below pairs : Nat → Int32} {above pm : Nat → Nat → Int32} {p : Nat → Nat → Bool} (hp : OrP p) (hx : OrX below pairs p) (hm : OrM above pm p) (v1 v2 : Int32) :
    ∃ (r : Int32) (b' p' : Nat → Int32) (a' m' : Nat → Nat → Int32) (q : Nat → Nat → Bool), f_X11_addGreater fu below pairs v1 v2 = some (r, b', p') ∧ f_X12_addGreater fu above pm v1 v2 = some (r, a', m') ∧ OrP q ∧ OrX b' p' q ∧ OrM a' m' q := by
  unfold f_X11_addGreater f_X12_addGreater
  simp only [lab_x, lab_m, Option.bind_some, bI_if, bI_ifn]
  cases h1 : inN v1 8 with
  | false =>
    simp only [↓reduceIte, Bool.false_eq_true]
    exact ⟨_, _, _, _, _, p, rfl, rfl, hp, hx, hm⟩
  | true =>
    cases h2 : inN v2 8 with
    | false =>
      simp only [↓reduceIte, Bool.false_eq_true]
      exact ⟨_, _, _, _, _, p, rfl, rfl, hp, hx, hm⟩
    | true =>
      obtain ⟨g, hg, rfl⟩ := inN_of (by decide) h1
      obtain ⟨l, hl, rfl⟩ := inN_of (by decide) h2
      simp only [↓reduceIte]
      simp (disch := omega) only [ck_nI, nI_clamp, nI_eq]
      rw [hm.2 g hg l hl, hm.1 l hl g hg, x_above hx.1 hl hg, x_hasPair hx.2 hg hl]
      simp only [Option.bind_some, bI_if, bI_ifn]
      by_cases hgl : g = l
      · subst hgl
        have : p g g = false := by
          cases hc : p g g with
          | false => rfl
          | true =>
            have := hp.2 g
            rw [war_sup hc] at this
            cases this
        simp only [this, ↓reduceIte, Bool.false_eq_true]
        exact ⟨_, _, _, _, _, p, rfl, rfl, hp, hx, hm⟩
      · simp only [hgl, ↓reduceIte]
        cases hw : war p 8 l g with
        | true =>
          have : p g l = false := by
            cases hc : p g l with
            | false => rfl
            | true =>
              have := hp.2 g
              rw [war_tr8 hp.1 (war_sup hc) hw] at this
              cases this
          simp only [this, ↓reduceIte, Bool.false_eq_true]
          exact ⟨_, _, _, _, _, p, rfl, rfl, hp, hx, hm⟩
        | false =>
          cases hc : p g l with
          | true =>
            simp only [↓reduceIte, Bool.false_eq_true]
            exact ⟨_, _, _, _, _, p, rfl, rfl, hp, hx, hm⟩
          | false =>
            simp only [↓reduceIte, Bool.false_eq_true]
            have hxa := Rb_add (g := g) hx.2 hl
            have hma := Rt_add (g := g) (l := l) hm.2
            obtain ⟨b', e1, e2⟩ := x_close fu hfu below _ _ hxa
            obtain ⟨a', e3, e4⟩ := m_close fu hfu above _ _ hma
            refine ⟨1, b', _, a', _, o_add p g l, ?_, ?_, ⟨o_add_sm hp.1 hg hl, o_add_ac hp.1 hp.2 hgl hw⟩, ⟨e2, hxa⟩, ⟨e4, hma⟩⟩
            · unfold f_X2_put
              simp (disch := omega) only [ck_nI, nI_clamp, lt]
              rw [e1]
              rfl
            · simp only [lt]
              rw [show vp_nar .boolean (1 : Int32) = 1 from rfl, e3]
              rfl
