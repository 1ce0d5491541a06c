/-! ===== the class: successors and closure of a set ===== -/
def Ed (m : Nat) (S T L : Nat → Nat) (A : Nat → Bool) : Nat → Nat → Prop := fun c b => ∃ s, s < m ∧ S s = c ∧ T s = b ∧ A (L s) = true
theorem Ed_in {n m : Nat} {S T L : Nat → Nat} {A : Nat → Bool} (hp : SyP n m S T L) : ∀ a b, Ed m S T L A a b → a < n ∧ b < n := by
  rintro a b ⟨s, hs, rfl, rfl, _⟩
  exact ⟨(hp.2.2 s hs).1, (hp.2.2 s hs).2.1⟩
theorem b_2shr (x y : Int32) {i j : Nat} (hi : i < 32) (hj : j < 32) : (((x >>> (nI i &&& 31)) &&& (y >>> (nI j &&& 31))) &&& 1) = 0 ↔ (bt x i && bt y j) = false := by
  rw [b_and1, b_and, b_sshr i hi x (by decide), b_sshr j hj y (by decide)]
  simp [hi, hj]
theorem x_succ (fu : Nat) (hfu : 32 < fu) {n m : Nat} {S T L : Nat → Nat} {ox sx : Int32} {lx cx tx : Nat → Int32} (hp : SyP n m S T L) (hx : Sy n m S T L ox sx lx cx tx) (set al : Int32) :
    tot (f_X3_successors fu sx lx cx tx set al) (fun r => ∀ j, j < 32 → (bt r j = true ↔ ∃ s, s < m ∧ bt set (S s) = true ∧ bt al (L s) = true ∧ T s = j)) := by
  have hm := hp.2.1
  have hn := hp.1
  obtain ⟨-, rfl, hl, hc, ht⟩ := hx
  unfold f_X3_successors
  refine tot_lt (tot_lt (lw2 (fun k v w => ∃ i, w = nI i ∧ i + k = m ∧ ∀ j, j < 32 → (bt v j = true ↔ ∃ s, s < i ∧ bt set (S s) = true ∧ bt al (L s) = true ∧ T s = j)) ?_ fu m _ _ (by omega) ⟨0, rfl, by omega, fun j hj => ?_⟩))
  · rintro r k v w ⟨i, rfl, hi, hv⟩ ih
    unfold f_X3_successors_L5 f_X3_successors_J50
    by_cases him : i = m
    · subst him
      rw [if_pos (nI_le (Nat.le_refl i) (by omega))]
      exact tot_some hv
    · rw [if_neg (nI_ge (a := i) (by omega) (by omega))]
      simp (disch := omega) only [ck_nI, nI_clamp, lt, nI_1]
      have hS := hp.2.2 i (by omega)
      rw [hc i (by omega), hl i (by omega), ht i (by omega)]
      by_cases hb : (bt set (S i) && bt al (L i)) = false
      · rw [if_pos ((b_2shr set al (by omega) (by omega)).mpr hb)]
        refine ih (k - 1) _ _ (by omega) ⟨i + 1, rfl, by omega, fun j hj => ?_⟩
        rw [hv j hj]
        constructor
        · rintro ⟨s, h1, h2⟩
          exact ⟨s, by omega, h2⟩
        · rintro ⟨s, h1, h2, h3, h4⟩
          by_cases hs : s = i
          · subst hs
            rw [h2, h3] at hb
            cases hb
          · exact ⟨s, by omega, h2, h3, h4⟩
      · rw [if_neg (fun h => hb ((b_2shr set al (by omega) (by omega)).mp h))]
        refine ih (k - 1) _ _ (by omega) ⟨i + 1, rfl, by omega, fun j hj => ?_⟩
        have hb2 : bt set (S i) = true ∧ bt al (L i) = true := by
          cases h1 : bt set (S i) <;> cases h2 : bt al (L i) <;> simp_all
        rw [b_or, b_1shl (by omega) hj, Bool.or_eq_true, hv j hj, decide_eq_true_iff]
        constructor
        · rintro (⟨s, h1, h2⟩ | h)
          · exact ⟨s, by omega, h2⟩
          · exact ⟨i, by omega, hb2.1, hb2.2, h.symm⟩
        · rintro ⟨s, h1, h2, h3, h4⟩
          by_cases hs : s = i
          · subst hs
            exact Or.inr h4.symm
          · exact Or.inl ⟨s, by omega, h2, h3, h4⟩
  · rw [b_0]
    constructor
    · intro h
      cases h
    · rintro ⟨s, h1, _⟩
      omega
/-- one round of walks from a set -/
theorem x_ends {m : Nat} {S T L : Nat → Nat} {al r : Int32} {P : Nat → Prop} {set : Int32} (hs : ∀ j, j < 32 → (bt set j = true ↔ P j)) (hS : ∀ s, s < m → S s < 32) (hr : ∀ j, j < 32 → (bt r j = true ↔ ∃ s, s < m ∧ bt set (S s) = true ∧ bt al (L s) = true ∧ T s = j)) (j : Nat) (hj : j < 32) : bt r j = true ↔ ∃ c, P c ∧ Ed m S T L (bt al) c j := by
  rw [hr j hj]
  constructor
  · rintro ⟨s, h1, h2, h3, h4⟩
    exact ⟨S s, (hs _ (hS s h1)).mp h2, s, h1, rfl, h4, h3⟩
  · rintro ⟨c, h1, s, h2, rfl, h4, h5⟩
    exact ⟨s, h2, (hs _ (hS s h2)).mpr h1, h5, h4⟩
def Clo (E : Nat → Nat → Prop) (P : Nat → Prop) (j : Nat) : Prop := ∃ k a, P a ∧ wk E k a j
theorem x_clos (fu : Nat) (hfu : 32 < fu) {n m : Nat} {S T L : Nat → Nat} {ox sx : Int32} {lx cx tx : Nat → Int32} (hp : SyP n m S T L) (hx : Sy n m S T L ox sx lx cx tx) (set al : Int32) {P : Nat → Prop} (hset : ∀ j, j < 32 → (bt set j = true ↔ P j)) (hP : ∀ j, P j → j < n) :
    tot (f_X3_closure fu ox sx lx cx tx set al) (fun r => ∀ j, j < 32 → (bt r j = true ↔ Clo (Ed m S T L (bt al)) P j)) := by
  have hm := hp.2.1
  have hn := hp.1
  have hEd := Ed_in (A := bt al) hp
  unfold f_X3_closure
  by_cases h0 : al = 0
  · rw [if_neg (fun h => h h0)]
    refine tot_some (fun j hj => ?_)
    rw [hset j hj]
    constructor
    · intro h
      exact ⟨0, j, h, rfl⟩
    · rintro ⟨k, a, h1, h2⟩
      cases k with
      | zero =>
        have h2 : a = j := h2
        subst h2
        exact h1
      | succ k =>
        obtain ⟨c, _, s, _, _, _, h3⟩ := h2
        rw [h0, b_0] at h3
        cases h3
  · rw [if_pos h0]
    have ho := hx.1
    subst ho
    refine tot_lt (tot_lt (lw2 (fun k v w => ∃ i, w = nI i ∧ i + k = n ∧ ∀ j, j < 32 → (bt v j = true ↔ ∃ k a, k ≤ i ∧ P a ∧ wk (Ed m S T L (bt al)) k a j)) ?_ fu n _ _ (by omega) ⟨0, rfl, by omega, fun j hj => ?_⟩))
    · rintro r k v w ⟨i, rfl, hi, hv⟩ ih
      unfold f_X3_closure_L11
      by_cases him : i = n
      · subst him
        rw [if_pos (nI_le (Nat.le_refl i) (by omega))]
        refine tot_some (fun j hj => ?_)
        rw [hv j hj]
        constructor
        · rintro ⟨k, a, _, h2, h3⟩
          exact ⟨k, a, h2, h3⟩
        · rintro ⟨k, a, h2, h3⟩
          obtain ⟨k', h4, h5, h6⟩ := wk_short hEd (hP a h2) k h3
          exact ⟨k', a, by omega, h2, h6⟩
      · rw [if_neg (nI_ge (a := i) (by omega) (by omega))]
        obtain ⟨sr, e1, e2⟩ := x_succ fu hfu hp hx v al
        have e3 := x_ends hv (fun s hs => by have := hp.2.2 s hs; omega) e2
        rw [e1]
        simp only [Option.bind_some, lt, nI_1]
        by_cases he : v ||| sr = v
        · rw [if_neg (fun h => h he)]
          refine tot_some (fun j hj => ?_)
          constructor
          · intro h
            obtain ⟨k, a, _, h2, h3⟩ := (hv j hj).mp h
            exact ⟨k, a, h2, h3⟩
          · rintro ⟨k, a, h2, h3⟩
            have key : ∀ (k j : Nat), wk (Ed m S T L (bt al)) k a j → bt v j = true := by
              intro k
              induction k with
              | zero =>
                intro j h
                have h : a = j := h
                subst h
                have := hP a h2
                exact (hv a (by omega)).mpr ⟨0, a, Nat.zero_le _, h2, rfl⟩
              | succ k ihk =>
                intro j ⟨c, h4, h5⟩
                have hj2 := (hEd c j h5).2
                have hc2 := (hEd c j h5).1
                have h6 := (hv c (by omega)).mp (ihk c h4)
                have h7 := (e3 j (by omega)).mpr ⟨c, h6, h5⟩
                rw [← he, b_or, h7]
                simp
            exact key k j h3
        · rw [if_pos he]
          refine ih (k - 1) _ _ (by omega) ⟨i + 1, rfl, by omega, fun j hj => ?_⟩
          rw [b_or, Bool.or_eq_true, hv j hj, e3 j hj]
          constructor
          · rintro (⟨k, a, h1, h2, h3⟩ | ⟨c, ⟨k, a, h1, h2, h3⟩, h4⟩)
            · exact ⟨k, a, by omega, h2, h3⟩
            · exact ⟨k + 1, a, by omega, h2, c, h3, h4⟩
          · rintro ⟨k, a, h1, h2, h3⟩
            cases k with
            | zero => exact Or.inl ⟨0, a, Nat.zero_le _, h2, h3⟩
            | succ k =>
              obtain ⟨c, h4, h5⟩ := h3
              exact Or.inr ⟨c, ⟨k, a, by omega, h2, h4⟩, h5⟩
    · rw [hset j hj]
      constructor
      · intro h
        exact ⟨0, j, Nat.le_refl 0, h, rfl⟩
      · rintro ⟨k, a, h1, h2, h3⟩
        have : k = 0 := by omega
        subst this
        have h3 : a = j := h3
        subst h3
        exact h2
/-- all labels: the plain steps -/
def Es (m : Nat) (S T : Nat → Nat) : Nat → Nat → Prop := fun c b => ∃ s, s < m ∧ S s = c ∧ T s = b
theorem Es_in {n m : Nat} {S T L : Nat → Nat} (hp : SyP n m S T L) : ∀ a b, Es m S T a b → a < n ∧ b < n := by
  rintro a b ⟨s, hs, rfl, rfl⟩
  exact ⟨(hp.2.2 s hs).1, (hp.2.2 s hs).2.1⟩
theorem b_255 : ∀ i, i < 8 → bt 255 i = true := by decide +kernel
theorem Ed_255 {n m : Nat} {S T L : Nat → Nat} (hp : SyP n m S T L) : Ed m S T L (bt 255) = Es m S T := by
  funext a b
  refine propext ⟨?_, ?_⟩
  · rintro ⟨s, h1, h2, h3, _⟩
    exact ⟨s, h1, h2, h3⟩
  · rintro ⟨s, h1, h2, h3⟩
    exact ⟨s, h1, h2, h3, b_255 _ (hp.2.2 s h1).2.2⟩
theorem b_sing {o : Nat} (ho : o < 32) : ∀ j, j < 32 → (bt ((1 : Int32) <<< (nI o &&& 31)) j = true ↔ j = o) := by
  intro j hj
  rw [b_1shl ho hj, decide_eq_true_iff]
theorem Clo_sing {E : Nat → Nat → Prop} {o j : Nat} : Clo E (fun j => j = o) j ↔ Rch E o j := by
  constructor
  · rintro ⟨k, a, rfl, h⟩
    exact ⟨k, h⟩
  · rintro ⟨k, h⟩
    exact ⟨k, o, rfl, h⟩
def isRch (n m : Nat) (S T : Nat → Nat) (o : Nat) (x : Int32) : Prop := ∀ j, j < 32 → (bt x j = true ↔ Rch (Es m S T) o j)
theorem isRch_eq {n m : Nat} {S T : Nat → Nat} {o : Nat} {x y : Int32} (hx : isRch n m S T o x) (hy : isRch n m S T o y) : x = y := by
  refine b_ext (fun i hi => ?_)
  have := hx i hi
  have := hy i hi
  cases h1 : bt x i <;> cases h2 : bt y i <;> simp_all
theorem x_reach (fu : Nat) (hfu : 32 < fu) {n m : Nat} {S T L : Nat → Nat} {ox sx : Int32} {lx cx tx : Nat → Int32} (hp : SyP n m S T L) (hx : Sy n m S T L ox sx lx cx tx) {o : Nat} (ho : o < n) :
    tot (f_X3_closure fu ox sx lx cx tx ((1 : Int32) <<< (nI o &&& 31)) 255) (isRch n m S T o) := by
  have hn := hp.1
  refine tot_mono (x_clos fu hfu hp hx _ 255 (b_sing (o := o) (by omega)) (fun j hj => by omega)) ?_
  intro r hr j hj
  rw [hr j hj, Ed_255 hp, Clo_sing]
