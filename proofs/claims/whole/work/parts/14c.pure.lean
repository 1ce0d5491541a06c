/-! ===== the class: ends of suitable paths ===== -/
def SuN (m : Nat) (S T L : Nat → Nat) (w : Nat → Nat → Bool) (own oth x0 b : Nat) : Prop := Rch (EN m S T L w own oth) x0 (2 * b) ∨ Rch (EN m S T L w own oth) x0 (2 * b + 1)
theorem ld_00 (w : Nat → Nat → Bool) (own oth lab : Nat) : ld w own oth lab 0 0 = w own lab := if_pos ⟨rfl, rfl⟩
theorem ld_01 (w : Nat → Nat → Bool) (own oth lab : Nat) : ld w own oth lab 0 1 = (w own lab || (w oth lab || decide (lab = oth))) := by
  unfold ld
  rw [if_neg (by omega)]
  simp
theorem ld_11 (w : Nat → Nat → Bool) (own oth lab : Nat) : ld w own oth lab 1 1 = (w own lab || w oth lab) := by
  unfold ld
  rw [if_neg (by omega)]
  simp
theorem ld_10 (w : Nat → Nat → Bool) (own oth lab : Nat) : ld w own oth lab 1 0 = false := by
  unfold ld
  rw [if_neg (by omega)]
  simp
theorem EN_cases {m : Nat} {S T L : Nat → Nat} {w : Nat → Nat → Bool} {own oth x y : Nat} (h : EN m S T L w own oth x y) : ∃ s, s < m ∧ ((w own (L s) = true ∧ x = 2 * S s ∧ y = 2 * T s) ∨ ((w own (L s) = true ∨ w oth (L s) = true ∨ L s = oth) ∧ x = 2 * S s ∧ y = 2 * T s + 1) ∨ ((w own (L s) = true ∨ w oth (L s) = true) ∧ x = 2 * S s + 1 ∧ y = 2 * T s + 1)) := by
  obtain ⟨s, hs, j, hj, h1, h2, h3⟩ := h
  refine ⟨s, hs, ?_⟩
  have hj2 : j = 0 ∨ j = 1 ∨ j = 2 ∨ j = 3 := by omega
  rcases hj2 with rfl | rfl | rfl | rfl
  · rw [show 0 / 2 = 0 from rfl, show 0 % 2 = 0 from rfl] at *
    rw [ld_00] at h1
    exact Or.inl ⟨h1, h2, h3⟩
  · rw [show 1 / 2 = 0 from rfl, show 1 % 2 = 1 from rfl] at *
    rw [ld_01, Bool.or_eq_true, Bool.or_eq_true, decide_eq_true_iff] at h1
    exact Or.inr (Or.inl ⟨h1, h2, h3⟩)
  · rw [show 2 / 2 = 1 from rfl, show 2 % 2 = 0 from rfl] at *
    rw [ld_10] at h1
    cases h1
  · rw [show 3 / 2 = 1 from rfl, show 3 % 2 = 1 from rfl] at *
    rw [ld_11, Bool.or_eq_true] at h1
    exact Or.inr (Or.inr ⟨h1, h2, h3⟩)
theorem EN_00 {m : Nat} {S T L : Nat → Nat} {w : Nat → Nat → Bool} {own oth s : Nat} (hs : s < m) (h : w own (L s) = true) : EN m S T L w own oth (2 * S s) (2 * T s) := ⟨s, hs, 0, by decide, by rw [show 0 / 2 = 0 from rfl, show 0 % 2 = 0 from rfl, ld_00]; exact h, rfl, rfl⟩
theorem EN_01 {m : Nat} {S T L : Nat → Nat} {w : Nat → Nat → Bool} {own oth s : Nat} (hs : s < m) (h : w own (L s) = true ∨ w oth (L s) = true ∨ L s = oth) : EN m S T L w own oth (2 * S s) (2 * T s + 1) := ⟨s, hs, 1, by decide, by
  rw [show 1 / 2 = 0 from rfl, show 1 % 2 = 1 from rfl, ld_01, Bool.or_eq_true, Bool.or_eq_true, decide_eq_true_iff]
  exact h, rfl, rfl⟩
theorem EN_11 {m : Nat} {S T L : Nat → Nat} {w : Nat → Nat → Bool} {own oth s : Nat} (hs : s < m) (h : w own (L s) = true ∨ w oth (L s) = true) : EN m S T L w own oth (2 * S s + 1) (2 * T s + 1) := ⟨s, hs, 3, by decide, by
  rw [show 3 / 2 = 1 from rfl, show 3 % 2 = 1 from rfl, ld_11, Bool.or_eq_true]
  exact h, rfl, rfl⟩
theorem Clo_0 {E : Nat → Nat → Prop} {P : Nat → Prop} {a : Nat} (h : P a) : Clo E P a := ⟨0, a, h, rfl⟩
theorem Clo_s {E : Nat → Nat → Prop} {P : Nat → Prop} {a b : Nat} (h : Clo E P a) (h2 : E a b) : Clo E P b := by
  obtain ⟨k, c, h3, h4⟩ := h
  exact ⟨k + 1, c, h3, a, h4, h2⟩
def SuP (m : Nat) (S T L : Nat → Nat) (w : Nat → Nat → Bool) (own oth t0 : Nat) (c : Nat) : Prop := Clo (Ed m S T L (w own)) (fun j => j = t0) c ∨ ∃ a, Clo (Ed m S T L (w own)) (fun j => j = t0) a ∧ Ed m S T L (fun l => decide (l = oth)) a c
theorem Su_eq {m : Nat} {S T L : Nat → Nat} {w : Nat → Nat → Bool} {own oth t0 b : Nat} : Clo (Ed m S T L (fun l => w own l || w oth l)) (SuP m S T L w own oth t0) b ↔ SuN m S T L w own oth (2 * t0) b := by
  constructor
  · rintro ⟨k, c, hc, hw⟩
    have hA : ∀ (k a : Nat), wk (Ed m S T L (w own)) k t0 a → Rch (EN m S T L w own oth) (2 * t0) (2 * a) := by
      intro k
      induction k with
      | zero =>
        intro a ha
        have ha : t0 = a := ha
        subst ha
        exact ⟨0, rfl⟩
      | succ k ih =>
        rintro a ⟨c, h1, s, h2, rfl, rfl, h5⟩
        obtain ⟨q, hq⟩ := ih _ h1
        exact ⟨q + 1, _, hq, EN_00 h2 h5⟩
    have hA2 : ∀ a, Clo (Ed m S T L (w own)) (fun j => j = t0) a → Rch (EN m S T L w own oth) (2 * t0) (2 * a) := by
      rintro a ⟨k, c, rfl, h⟩
      exact hA k a h
    have hc2 : SuN m S T L w own oth (2 * t0) c := by
      rcases hc with h | ⟨a, h1, s, h2, rfl, rfl, h5⟩
      · exact Or.inl (hA2 c h)
      · obtain ⟨q, hq⟩ := hA2 _ h1
        exact Or.inr ⟨q + 1, _, hq, EN_01 h2 (Or.inr (Or.inr (of_decide_eq_true h5)))⟩
    clear hc
    induction k generalizing b with
    | zero =>
      have hw : c = b := hw
      subst hw
      exact hc2
    | succ k ih =>
      obtain ⟨a, h1, s, h2, rfl, rfl, h5⟩ := hw
      rw [Bool.or_eq_true] at h5
      rcases ih h1 with ⟨q, hq⟩ | ⟨q, hq⟩
      · exact Or.inr ⟨q + 1, _, hq, EN_01 h2 (by rcases h5 with h | h; exact Or.inl h; exact Or.inr (Or.inl h))⟩
      · exact Or.inr ⟨q + 1, _, hq, EN_11 h2 h5⟩
  · intro h
    have key : ∀ (k x : Nat), wk (EN m S T L w own oth) k (2 * t0) x → (∀ c, x = 2 * c → Clo (Ed m S T L (w own)) (fun j => j = t0) c) ∧ (∀ c, x = 2 * c + 1 → Clo (Ed m S T L (fun l => w own l || w oth l)) (SuP m S T L w own oth t0) c) := by
      intro k
      induction k with
      | zero =>
        intro x hx
        have hx : 2 * t0 = x := hx
        exact ⟨fun c hc => Clo_0 (show c = t0 by omega), fun c hc => by omega⟩
      | succ k ih =>
        rintro x ⟨y, h1, h2⟩
        have h3 := ih y h1
        obtain ⟨s, hs, h4 | h4 | h4⟩ := EN_cases h2
        · obtain ⟨g1, g2, g3⟩ := h4
          refine ⟨fun c hc => ?_, fun c hc => by omega⟩
          have : c = T s := by omega
          subst this
          exact Clo_s (h3.1 (S s) g2) ⟨s, hs, rfl, rfl, g1⟩
        · obtain ⟨g1, g2, g3⟩ := h4
          refine ⟨fun c hc => by omega, fun c hc => ?_⟩
          have : c = T s := by omega
          subst this
          have h5 := h3.1 (S s) g2
          rcases g1 with g1 | g1 | g1
          · exact Clo_s (Clo_0 (Or.inl h5)) ⟨s, hs, rfl, rfl, by simp [g1]⟩
          · exact Clo_s (Clo_0 (Or.inl h5)) ⟨s, hs, rfl, rfl, by simp [g1]⟩
          · exact Clo_0 (Or.inr ⟨S s, h5, s, hs, rfl, rfl, decide_eq_true g1⟩)
        · obtain ⟨g1, g2, g3⟩ := h4
          refine ⟨fun c hc => by omega, fun c hc => ?_⟩
          have : c = T s := by omega
          subst this
          exact Clo_s (h3.2 (S s) g2) ⟨s, hs, rfl, rfl, by rcases g1 with g1 | g1 <;> simp [g1]⟩
    rcases h with ⟨k, h⟩ | ⟨k, h⟩
    · exact Clo_0 (Or.inl ((key k _ h).1 b rfl))
    · exact (key k _ h).2 b rfl
theorem Ed_cong {n m : Nat} {S T L : Nat → Nat} (hp : SyP n m S T L) {A B : Nat → Bool} (h : ∀ l, l < 8 → A l = B l) : Ed m S T L A = Ed m S T L B := by
  funext a b
  refine propext ⟨?_, ?_⟩
  · rintro ⟨s, h1, h2, h3, h4⟩
    exact ⟨s, h1, h2, h3, by rw [← h _ (hp.2.2 s h1).2.2]; exact h4⟩
  · rintro ⟨s, h1, h2, h3, h4⟩
    exact ⟨s, h1, h2, h3, by rw [h _ (hp.2.2 s h1).2.2]; exact h4⟩
theorem x_suit (fu : Nat) (hfu : 32 < fu) {n m : Nat} {S T L : Nat → Nat} {ox sx : Int32} {lx cx tx : Nat → Int32} (hp : SyP n m S T L) (hx : Sy n m S T L ox sx lx cx tx) {below : Nat → Int32} {w : Nat → Nat → Bool} (hw : Rb below w) {st ot : Nat} (hst : st < m) (hot : ot < m) :
    tot (f_X7_suitableEnds fu ox sx lx cx tx below (nI st) (nI ot)) (fun r => ∀ j, j < 32 → (bt r j = true ↔ SuN m S T L w (L st) (L ot) (2 * T st) j)) := by
  have hm := hp.2.1
  have hn := hp.1
  have hSt := hp.2.2 st hst
  have hOt := hp.2.2 ot hot
  unfold f_X7_suitableEnds
  simp (disch := omega) only [ck_nI, nI_clamp, lt]
  rw [hx.2.2.1 st hst, hx.2.2.1 ot hot, hx.2.2.2.2 st hst]
  simp (disch := omega) only [ck_nI, nI_clamp]
  obtain ⟨r1, e1, e2⟩ := x_clos fu hfu hp hx _ (below (L st)) (b_sing (o := T st) (by omega)) (fun j hj => by omega)
  rw [e1]
  simp only [Option.bind_some]
  rw [Ed_cong hp (fun l hl => hw (L st) hSt.2.2 l (by omega))] at e2
  obtain ⟨r2, e3, e4⟩ := x_succ fu hfu hp hx r1 ((1 : Int32) <<< (nI (L ot) &&& 31))
  have e5 := x_ends e2 (fun s hs => by have := hp.2.2 s hs; omega) e4
  rw [Ed_cong hp (B := fun l => decide (l = L ot)) (fun l hl => b_1shl (by omega) (by omega))] at e5
  rw [e3]
  simp only [Option.bind_some]
  obtain ⟨r3, e6, e7⟩ := x_clos fu hfu hp hx (r1 ||| r2) (below (L st) ||| below (L ot)) (P := SuP m S T L w (L st) (L ot) (T st)) (fun j hj => by
    rw [b_or, Bool.or_eq_true, e2 j hj, e5 j hj]
    exact Iff.rfl) (fun j hj => by
    rcases hj with ⟨k, a, rfl, h⟩ | ⟨a, _, s, h1, _, rfl, _⟩
    · exact wk_in (Ed_in hp) hSt.2.1 h
    · exact (hp.2.2 s h1).2.1)
  rw [e6]
  refine tot_some (fun j hj => ?_)
  rw [e7 j hj, Ed_cong hp (B := fun l => w (L st) l || w (L ot) l) (fun l hl => by rw [b_or, hw (L st) hSt.2.2 l (by omega), hw (L ot) hOt.2.2 l (by omega)])]
  exact Su_eq
def Dec (n m : Nat) (S T L : Nat → Nat) (w : Nat → Nat → Bool) (f g : Nat) : Prop := ∃ b, b < n ∧ SuN m S T L w (L f) (L g) (2 * T f) b ∧ SuN m S T L w (L g) (L f) (2 * T g) b
theorem SuN_in {n m : Nat} {S T L : Nat → Nat} {w : Nat → Nat → Bool} {own oth t0 b : Nat} (hp : SyP n m S T L) (ht : t0 < n) (h : SuN m S T L w own oth (2 * t0) b) : b < n := by
  rcases h with ⟨k, h⟩ | ⟨k, h⟩
  · have := wk_in (EN_in hp) (show 2 * t0 < 2 * n by omega) h
    omega
  · have := wk_in (EN_in hp) (show 2 * t0 < 2 * n by omega) h
    omega
theorem x_decr (fu : Nat) (hfu : 32 < fu) {n m : Nat} {S T L : Nat → Nat} {ox sx : Int32} {lx cx tx : Nat → Int32} (hp : SyP n m S T L) (hx : Sy n m S T L ox sx lx cx tx) {below : Nat → Int32} {w : Nat → Nat → Bool} (hw : Rb below w) {f g : Nat → Int32} (ha : pkA (PK m S) f g) {i : Nat} {p : Nat × Nat} (hi : (PK m S)[i]? = some p) :
    tot (f_X7_decreases fu ox sx lx cx tx below f g (nI i)) (fun r => (r = 1 ∧ Dec n m S T L w p.1 p.2) ∨ (r = 0 ∧ ¬ Dec n m S T L w p.1 p.2)) := by
  have hm := hp.2.1
  have hn := hp.1
  have hlen := PK_len S hm
  have hi2 := (List.getElem?_eq_some_iff.mp hi).1
  have hpk := PK_at hi
  have h1 := hp.2.2 p.1 (by omega)
  have h2 := hp.2.2 p.2 (by omega)
  unfold f_X7_decreases
  simp (disch := omega) only [ck_nI, nI_clamp, lt]
  rw [(ha i p hi).1, (ha i p hi).2]
  simp (disch := omega) only [ck_nI, nI_clamp]
  rw [hx.2.2.2.2 p.1 (by omega), hx.2.2.2.2 p.2 (by omega)]
  simp (disch := omega) only [nI_eq]
  by_cases ht : T p.1 = T p.2
  · rw [if_neg (fun h => h ht)]
    exact tot_some (Or.inl ⟨rfl, T p.1, h1.2.1, Or.inl ⟨0, rfl⟩, Or.inl ⟨0, by rw [ht]; rfl⟩⟩)
  · rw [if_pos ht]
    obtain ⟨r1, e1, e2⟩ := x_suit fu hfu hp hx hw (show p.1 < m by omega) (show p.2 < m by omega)
    obtain ⟨r2, e3, e4⟩ := x_suit fu hfu hp hx hw (show p.2 < m by omega) (show p.1 < m by omega)
    rw [e1]
    simp only [Option.bind_some]
    rw [e3]
    simp only [Option.bind_some]
    by_cases hz : r1 &&& r2 = 0
    · rw [if_pos hz]
      refine tot_some (Or.inr ⟨rfl, ?_⟩)
      rintro ⟨b, g1, g2, g3⟩
      have := (b_zero.mp hz) b (by omega)
      rw [b_and, (e2 b (by omega)).mpr g2, (e4 b (by omega)).mpr g3] at this
      cases this
    · rw [if_neg hz]
      obtain ⟨l, g1, g2, _⟩ := b_least hz
      rw [b_and, Bool.and_eq_true] at g2
      have g3 := (e2 l g1).mp g2.1
      exact tot_some (Or.inl ⟨rfl, l, SuN_in hp h1.2.1 g3, g3, (e4 l g1).mp g2.2⟩)
