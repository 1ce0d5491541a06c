theorem lw8 {α β γ δ ε ζ η θ R : Type} {z : α → β → γ → δ → ε → ζ → η → θ → Option R} {F : (α → β → γ → δ → ε → ζ → η → θ → Option R) → α → β → γ → δ → ε → ζ → η → θ → Option R} {P : R → Prop} (I : Nat → α → β → γ → δ → ε → ζ → η → θ → Prop)
    (h : ∀ (r : α → β → γ → δ → ε → ζ → η → θ → Option R) (k : Nat) a b c d e f g i, I k a b c d e f g i → (∀ k' a' b' c' d' e' f' g' i', k' < k → I k' a' b' c' d' e' f' g' i' → tot (r a' b' c' d' e' f' g' i') P) → tot (F r a b c d e f g i) P) :
    ∀ (fu k : Nat) a b c d e f g i, k < fu → I k a b c d e f g i → tot (lp (τ := α → β → γ → δ → ε → ζ → η → θ → Option R) z F fu a b c d e f g i) P := by
  intro fu
  induction fu with
  | zero => intro k a b c d e f g i hk; omega
  | succ n ih =>
    intro k a b c d e f g i hk hI
    show tot (F (lp z F n) a b c d e f g i) P
    exact h _ k a b c d e f g i hI (fun k' a' b' c' d' e' f' g' i' hk' hI' => ih k' a' b' c' d' e' f' g' i' (by omega) hI')
def fpR (c : Nat) (nd : Nat → Nat) (fp : Nat → Int32) : Prop := ∀ b, b < 16 → (fp b = -2 ∧ ∀ i, i < c → nd i / 2 ≠ b) ∨ ∃ i, i < c ∧ fp b = nI i ∧ nd i / 2 = b ∧ ∀ j, j < i → nd j / 2 ≠ b
def PlR (c : Nat) (nd ln pv ar : Nat → Nat) (pl : Int32) (arr fp len obj par prv : Nat → Int32) : Prop :=
  pl = nI c ∧ (∀ i, i < c → obj i = nI (nd i / 2) ∧ par i = nI (nd i % 2) ∧ len i = nI (ln i)) ∧ (∀ i, 0 < i → i < c → prv i = nI (pv i) ∧ arr i = nI (ar i)) ∧ fpR c nd fp
theorem x_isMet (fu : Nat) (hfu : 32 < fu) {c : Nat} {nd : Nat → Nat} {obj par : Nat → Int32} (hc : c ≤ 32) (hnd : ∀ i, i < c → nd i < 32) (h : ∀ i, i < c → obj i = nI (nd i / 2) ∧ par i = nI (nd i % 2)) {o q : Nat} (ho : o < 16) (hq : q < 2) :
    tot (f_X9_isMet fu (nI c) obj par (nI o) (nI q)) (fun r => (r = 1 ∧ ∃ i, i < c ∧ nd i = 2 * o + q) ∨ (r = 0 ∧ ∀ i, i < c → nd i ≠ 2 * o + q)) := by
  unfold f_X9_isMet
  refine tot_lt (lw1 (fun k v => ∃ i, v = nI i ∧ i + k = c ∧ ∀ j, j < i → nd j ≠ 2 * o + q) ?_ fu c _ (by omega) ⟨0, rfl, by omega, fun j h => absurd h (Nat.not_lt_zero j)⟩)
  rintro r k v ⟨i, rfl, hi, hv⟩ ih
  unfold f_X9_isMet_L2 f_X9_isMet_J32
  by_cases hic : i = c
  · subst hic
    rw [if_pos (nI_le (Nat.le_refl i) (by omega))]
    exact tot_some (Or.inr ⟨rfl, hv⟩)
  · rw [if_neg (nI_ge (a := i) (by omega) (by omega))]
    have h1 := hnd i (by omega)
    have skip : nd i ≠ 2 * o + q → tot (r (nI (i + 1))) (fun r => (r = 1 ∧ ∃ i, i < c ∧ nd i = 2 * o + q) ∨ (r = 0 ∧ ∀ i, i < c → nd i ≠ 2 * o + q)) := fun hne => by
      refine ih (k - 1) _ (by omega) ⟨i + 1, rfl, by omega, fun j hj => ?_⟩
      by_cases hji : j = i
      · subst hji
        exact hne
      · exact hv j (by omega)
    simp (disch := omega) only [ck_nI, nI_clamp, lt, nI_1]
    rw [(h i (by omega)).1, (h i (by omega)).2]
    simp (disch := omega) only [nI_eq]
    by_cases ha : nd i / 2 = o
    · rw [if_neg (fun hh => hh ha)]
      by_cases hb : nd i % 2 = q
      · rw [if_neg (fun hh => hh hb)]
        exact tot_some (Or.inl ⟨rfl, i, by omega, by omega⟩)
      · rw [if_pos hb]
        exact skip (by omega)
    · rw [if_pos ha]
      exact skip (by omega)
theorem nI_nem2 {i : Nat} (hi : i < 2 ^ 31) : ¬ nI i = -2 := nI_ne2 hi
theorem fpR_old {c : Nat} {nd : Nat → Nat} {fp : Nat → Int32} (h : fpR c nd fp) {y : Nat} {j : Nat} (hj : j < c) (hy : nd j / 2 = y / 2) : fpR (c + 1) (put1 nd c y) fp := by
  intro b hb
  have pn : ∀ {i : Nat}, i < c → put1 nd c y i = nd i := fun hi => if_neg (by omega)
  rcases h b hb with ⟨h1, h2⟩ | ⟨i, h1, h2, h3, h4⟩
  · refine Or.inl ⟨h1, fun i hi => ?_⟩
    by_cases hic : i = c
    · rw [hic, show put1 nd c y c = y from if_pos rfl, ← hy]
      exact h2 j hj
    · rw [pn (by omega)]
      exact h2 i (by omega)
  · exact Or.inr ⟨i, by omega, h2, by rw [pn h1]; exact h3, fun j hj => by rw [pn (by omega)]; exact h4 j hj⟩
theorem fpR_new {c : Nat} {nd : Nat → Nat} {fp : Nat → Int32} (h : fpR c nd fp) {y : Nat} (hy : ∀ j, j < c → nd j / 2 ≠ y / 2) : fpR (c + 1) (put1 nd c y) (upd fp (y / 2) (nI c)) := by
  intro b hb
  have pn : ∀ {i : Nat}, i < c → put1 nd c y i = nd i := fun hi => if_neg (by omega)
  have pc : put1 nd c y c = y := if_pos rfl
  rw [upd_e]
  by_cases hby : b = y / 2
  · rw [if_pos hby]
    refine Or.inr ⟨c, by omega, rfl, by rw [pc]; exact hby.symm, fun j hj => ?_⟩
    rw [pn hj, hby]
    exact hy j hj
  · rw [if_neg hby]
    rcases h b hb with ⟨h1, h2⟩ | ⟨i, h1, h2, h3, h4⟩
    · refine Or.inl ⟨h1, fun i hi => ?_⟩
      by_cases hic : i = c
      · rw [hic, pc]
        exact fun h => hby h.symm
      · rw [pn (by omega)]
        exact h2 i (by omega)
    · exact Or.inr ⟨i, by omega, h2, by rw [pn h1]; exact h3, fun j hj => by rw [pn (by omega)]; exact h4 j hj⟩
theorem pl_full {c : Nat} {nd : Nat → Nat} {y : Nat} (hinj : ∀ i j, i < c → j < c → nd i = nd j → i = j) (hnd : ∀ i, i < c → nd i < 32) (hy : y < 32) (hne : ∀ i, i < c → nd i ≠ y) : c < 32 := by
  refine Nat.lt_of_not_le (fun hc => ?_)
  obtain ⟨i, j, h1, h2, h3⟩ := pig (f := fun i => if i < c then nd i else y) (n := 32) (k := c) (fun i _ => by
    by_cases h : i < c
    · simp only [h, ↓reduceIte]
      exact hnd i h
    · simp only [h, ↓reduceIte]
      exact hy) hc
  have hi : i < c := by omega
  simp only [hi, ↓reduceIte] at h3
  by_cases hj : j < c
  · simp only [hj, ↓reduceIte] at h3
    have := hinj i j hi hj h3
    omega
  · simp only [hj, ↓reduceIte] at h3
    exact hne i hi h3
/-- a place is met: it was there, or it is the last now -/
theorem x_meet (fu : Nat) (hfu : 32 < fu) {c : Nat} {nd ln pv ar : Nat → Nat} {pl : Int32} {arr fp len obj par prv : Nat → Int32} (hc : c ≤ 32) (hinj : ∀ i j, i < c → j < c → nd i = nd j → i = j) (hnd : ∀ i, i < c → nd i < 32) (hln : ∀ i, i < c → ln i < 1000) (h : PlR c nd ln pv ar pl arr fp len obj par prv) {o q p s : Nat} (ho : o < 16) (hq : q < 2) (hp : p < c) :
    ∃ pl' arr' fp' len' obj' par' prv', f_X9_meet fu pl arr fp len obj par prv (nI o) (nI q) (nI p) (nI s) = some (vv (0 : Int32) [pl'], vv (fun _ => (0 : Int32)) [arr', fp', len', obj', par', prv']) ∧ (((∃ i, i < c ∧ nd i = 2 * o + q) ∧ PlR c nd ln pv ar pl' arr' fp' len' obj' par' prv') ∨ ((∀ i, i < c → nd i ≠ 2 * o + q) ∧ c < 32 ∧ PlR (c + 1) (put1 nd c (2 * o + q)) (put1 ln c (ln p + 1)) (put1 pv c p) (put1 ar c s) pl' arr' fp' len' obj' par' prv')) := by
  obtain ⟨rfl, h2, h3, h4⟩ := h
  obtain ⟨b, e1, e2⟩ := x_isMet fu hfu hc hnd (fun i hi => ⟨(h2 i hi).1, (h2 i hi).2.1⟩) ho hq
  unfold f_X9_meet
  rw [show (32 : Int32) = nI 32 from rfl]
  by_cases hcm : ∃ i, i < c ∧ nd i = 2 * o + q
  · by_cases hc32 : c = 32
    · rw [hc32, if_pos (nI_le (Nat.le_refl 32) (by decide)), ← hc32]
      exact ⟨_, _, _, _, _, _, _, rfl, Or.inl ⟨hcm, rfl, h2, h3, h4⟩⟩
    · rw [if_neg (nI_ge (a := c) (by omega) (by decide)), e1]
      simp only [Option.bind_some]
      rcases e2 with ⟨rfl, _⟩ | ⟨_, e2⟩
      · rw [if_neg (by decide)]
        exact ⟨_, _, _, _, _, _, _, rfl, Or.inl ⟨hcm, rfl, h2, h3, h4⟩⟩
      · obtain ⟨i, hi, hh⟩ := hcm
        exact absurd hh (e2 i hi)
  · have hne : ∀ i, i < c → nd i ≠ 2 * o + q := fun i hi he => hcm ⟨i, hi, he⟩
    have hc32 : c < 32 := pl_full hinj hnd (by omega) hne
    rw [if_neg (nI_ge (a := c) hc32 (by decide)), e1]
    simp only [Option.bind_some]
    rcases e2 with ⟨_, e2⟩ | ⟨rfl, _⟩
    · exact absurd e2 hcm
    · rw [if_pos rfl]
      have hl := hln p hp
      simp (disch := omega) only [ck_nI, nI_clamp, lt]
      rw [if_pos (nI_ne2 (show p < 2 ^ 31 by omega))]
      unfold f_X9_meet_J65 f_X9_meet_J108
      simp (disch := omega) only [ck_nI, nI_clamp, lt, nI_1]
      rw [(h2 p hp).2.2]
      simp only [nI_1]
      have pn : ∀ {f : Nat → Nat} {v i : Nat}, i < c → put1 f c v i = f i := fun hi => if_neg (by omega)
      have pc : ∀ {f : Nat → Nat} {v : Nat}, put1 f c v c = v := if_pos rfl
      have hA : ∀ i, i < c + 1 → upd obj c (nI o) i = nI (put1 nd c (2 * o + q) i / 2) ∧ upd par c (nI q) i = nI (put1 nd c (2 * o + q) i % 2) ∧ upd len c (nI (ln p + 1)) i = nI (put1 ln c (ln p + 1) i) := by
        intro i hi
        rw [upd_e, upd_e, upd_e]
        by_cases hic : i = c
        · rw [if_pos hic, if_pos hic, if_pos hic, hic, pc, pc]
          exact ⟨by congr 1; omega, by congr 1; omega, rfl⟩
        · rw [if_neg hic, if_neg hic, if_neg hic, pn (by omega), pn (by omega)]
          exact h2 i (by omega)
      have hB : ∀ i, 0 < i → i < c + 1 → upd prv c (nI p) i = nI (put1 pv c p i) ∧ upd arr c (nI s) i = nI (put1 ar c s i) := by
        intro i h0 hi
        rw [upd_e, upd_e]
        by_cases hic : i = c
        · rw [if_pos hic, if_pos hic, hic, pc, pc]
          exact ⟨rfl, rfl⟩
        · rw [if_neg hic, if_neg hic, pn (by omega), pn (by omega)]
          exact h3 i h0 (by omega)
      rcases h4 o ho with ⟨g1, g2⟩ | ⟨i, g1, g2, g3, g4⟩
      · rw [g1, if_neg (fun hh => hh rfl)]
        have hF := fpR_new h4 (y := 2 * o + q) (fun j hj => by rw [show (2 * o + q) / 2 = o by omega]; exact g2 j hj)
        rw [show (2 * o + q) / 2 = o by omega] at hF
        exact ⟨_, _, _, _, _, _, _, rfl, Or.inr ⟨hne, hc32, rfl, hA, hB, hF⟩⟩
      · rw [g2, if_pos (nI_ne2 (show i < 2 ^ 31 by omega))]
        exact ⟨_, _, _, _, _, _, _, rfl, Or.inr ⟨hne, hc32, rfl, hA, hB, fpR_old h4 g1 (by omega)⟩⟩
/-- the first place -/
theorem x_meet0 (fu : Nat) (hfu : 32 < fu) {arr fp len obj par prv : Nat → Int32} (hfp : ∀ b, b < 16 → fp b = -2) {o : Nat} (ho : o < 16) (pv ar : Nat → Nat) :
    ∃ pl' arr' fp' len' obj' par' prv', f_X9_meet fu 0 arr fp len obj par prv (nI o) 0 (-2) (-2) = some (vv (0 : Int32) [pl'], vv (fun _ => (0 : Int32)) [arr', fp', len', obj', par', prv']) ∧ PlR 1 (fun _ => 2 * o) (fun _ => 0) pv ar pl' arr' fp' len' obj' par' prv' := by
  obtain ⟨b, e1, e2⟩ := x_isMet fu hfu (c := 0) (nd := fun _ => 0) (obj := obj) (par := par) (by omega) (fun i hi => absurd hi (Nat.not_lt_zero i)) (fun i hi => absurd hi (Nat.not_lt_zero i)) ho (show 0 < 2 by decide)
  unfold f_X9_meet
  rw [if_neg (show ¬ (32 : Int32) ≤ 0 by decide), show f_X9_isMet fu 0 obj par (nI o) 0 = some b from e1]
  simp only [Option.bind_some]
  rcases e2 with ⟨_, i, hi, _⟩ | ⟨rfl, _⟩
  · exact absurd hi (Nat.not_lt_zero i)
  · rw [if_pos rfl]
    unfold f_X9_meet_J65 f_X9_meet_J108
    rw [show (0 : Int32) = nI 0 from rfl]
    simp (disch := omega) only [ck_nI, nI_clamp, lt, nI_1, eq_self, not_true_eq_false, ↓reduceIte]
    rw [hfp o ho]
    simp only [not_true_eq_false, ↓reduceIte]
    refine ⟨_, _, _, _, _, _, _, rfl, rfl, fun i hi => ?_, fun i h0 hi => by omega, fun b hb => ?_⟩
    · have : i = 0 := by omega
      subst this
      rw [upd_e, upd_e, upd_e, if_pos rfl, if_pos rfl, if_pos rfl]
      exact ⟨by show nI o = nI (2 * o / 2); rw [show 2 * o / 2 = o by omega], by show nI 0 = nI (2 * o % 2); rw [show 2 * o % 2 = 0 by omega], rfl⟩
    · rw [upd_e]
      by_cases hbo : b = o
      · rw [if_pos hbo]
        exact Or.inr ⟨0, by decide, rfl, by show 2 * o / 2 = b; omega, fun j hj => absurd hj (Nat.not_lt_zero j)⟩
      · rw [if_neg hbo]
        exact Or.inl ⟨hfp b hb, fun i hi => by show 2 * o / 2 ≠ b; omega⟩
theorem x_part {bo be : Int32} {w : Nat → Nat → Bool} {own oth lab q : Nat} (hl : lab < 8) (hq : q < 2) (ho : oth < 8) (h1 : bt bo lab = w own lab) (h2 : bt be lab = (w own lab || w oth lab)) :
    f_X9_partAfter bo be (nI oth) (nI q) (nI lab) = some (match pa w own oth lab q with | some b => nI b | none => -1) := by
  unfold f_X9_partAfter f_X9_partAfter_J17 pa
  rw [isIn_e _ (show lab < 32 by omega), isIn_e _ (show lab < 32 by omega), h1, h2]
  simp only [Option.bind_some, bI_if, bI_ifn]
  rw [show (0 : Int32) = nI 0 from rfl]
  simp (disch := omega) only [nI_eq]
  have hq2 : q = 0 ∨ q = 1 := by omega
  by_cases hlo : lab = oth
  · rcases hq2 with rfl | rfl <;> cases w own lab <;> cases w oth lab <;> simp [hlo] <;> rfl
  · rcases hq2 with rfl | rfl <;> cases w own lab <;> cases w oth lab <;> simp [hlo] <;> rfl
