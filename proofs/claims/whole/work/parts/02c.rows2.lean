/-! ===== a row of a table, taken out as an item of its own for a call, and put back ===== -/
def gX (g : Nat → Nat × va_E) (n i : Nat) : va_W := ((List.range n).filter (fun j => j != i)).map g
theorem x_rangeP (n i : Nat) (h : i < n) : List.Perm (List.range n) ((List.range n).filter (fun j => j != i) ++ [i]) := by
  have hn : (List.range n).Nodup := List.nodup_range
  refine (List.perm_ext_iff_of_nodup hn ?_).mpr ?_
  · refine List.pairwise_append.mpr ⟨List.Nodup.sublist List.filter_sublist hn, List.pairwise_singleton _ _, ?_⟩
    intro a ha b hb
    rw [List.mem_singleton.mp hb]
    have := (List.mem_filter.mp ha).2
    simpa using this
  · intro a
    rw [List.mem_append, List.mem_filter, List.mem_singleton]
    constructor
    · intro ha
      by_cases e : a = i
      · exact Or.inr e
      · exact Or.inl ⟨ha, by simpa using e⟩
    · intro ha
      rcases ha with ha | ha
      · exact ha.1
      · rw [ha]
        exact List.mem_range.mpr h
theorem x_setP {x it2 : va_W} : ∀ (I : List va_W) (k : Nat) (it : va_W), I[k]? = some it → List.Perm it (it2 ++ x) → List.Perm I.flatten ((I.set k it2).flatten ++ x) := by
  intro I
  induction I with
  | nil => intro k it h; simp at h
  | cons a I ih =>
    intro k it h hp
    cases k with
    | zero =>
      have e : a = it := by simpa using h
      subst e
      show List.Perm (a ++ I.flatten) ((it2 ++ I.flatten) ++ x)
      refine (List.Perm.append_right _ hp).trans ?_
      rw [List.append_assoc, List.append_assoc]
      exact List.Perm.append_left _ List.perm_append_comm
    | succ k =>
      have h' : I[k]? = some it := by simpa using h
      show List.Perm (a ++ I.flatten) ((a ++ (I.set k it2).flatten) ++ x)
      rw [List.append_assoc]
      exact List.Perm.append_left _ (ih k it h' hp)
theorem x_foc {D : va_G} {aa : List (List Nat)} {I : List va_W} {H H0 : Heap} {locs : List Loc} {k n i : Nat} {g : Nat → Nat × va_E} (hk : I[k]? = some ((List.range n).map g)) (hi : i < n) (hP : xW D aa I H) (hN : aa.flatten.Nodup) (hS : va_S (xA aa) H0 H locs) :
    ∃ aa2 : List (List Nat), xW D aa2 (I.set k (gX g n i) ++ [[g i]]) H ∧ aa2.flatten.Nodup ∧ va_S (xA aa2) H0 H locs ∧
      ∀ (I' : List va_W) (e' : va_E) (H1 : Heap) (locs1 : List Loc), I'[k]? = some (gX g n i) → xW D aa2 (I' ++ [[((g i).1, e')]]) H1 → va_S (xA aa2) H0 H1 locs1 → xW D aa (I'.set k ((List.range n).map (fun j => if j = i then ((g i).1, e') else g j))) H1 ∧ va_S (xA aa) H0 H1 locs1 := by
  obtain ⟨hP, rfl⟩ := hP
  have hp : List.Perm ((List.range n).map g) (gX g n i ++ [g i]) := by
    have := (x_rangeP n i hi).map g
    rw [List.map_append] at this
    exact this
  have hfl : List.Perm I.flatten ((I.set k (gX g n i) ++ [[g i]]).flatten) := by
    have := x_setP I k _ hk hp
    rw [List.flatten_append]
    simpa using this
  have hA : ∀ q, xA (xAA I) q ↔ xA (xAA (I.set k (gX g n i) ++ [[g i]])) q := fun q => by
    unfold xA
    rw [x_flat, x_flat]
    exact (hfl.map _).mem_iff
  have hS2 : ∀ {A B : Nat → Prop} {H1 : Heap} {locs1 : List Loc}, (∀ q, A q ↔ B q) → va_S A H0 H1 locs1 → va_S B H0 H1 locs1 := fun h hs => ⟨hs.1, fun q h1 h2 => hs.2.1 q h1 (fun z => h2 ((h q).mp z)), fun l hl => (h _).mp (hs.2.2 l hl)⟩
  refine ⟨xAA (I.set k (gX g n i) ++ [[g i]]), ⟨?_, rfl⟩, ?_, hS2 hA hS, ?_⟩
  · unfold xP at hP ⊢
    rw [x_Pm] at hP ⊢
    intro q hq
    exact hP q (hfl.mem_iff.mpr hq)
  · rw [x_flat] at hN ⊢
    exact ((hfl.map _).nodup_iff).mp hN
  · intro I' e' H1 locs1 hk' hW hS'
    refine ⟨⟨?_, ?_⟩, hS2 (fun q => (hA q).symm) hS'⟩
    · obtain ⟨hW, -⟩ := hW
      unfold xP at hW ⊢
      rw [x_Pm] at hW ⊢
      intro q hq
      apply hW
      obtain ⟨it, h1, h2⟩ := List.mem_flatten.mp hq
      obtain ⟨k2, hk2⟩ := List.getElem?_of_mem h1
      by_cases e : k2 = k
      · subst e
        rw [List.getElem?_set_self (List.getElem?_eq_some_iff.mp hk').1] at hk2
        cases hk2
        obtain ⟨j, hj, rfl⟩ := List.mem_map.mp h2
        by_cases hji : j = i
        · rw [if_pos hji]
          exact List.mem_flatten.mpr ⟨[((g i).1, e')], List.mem_append_right _ List.mem_cons_self, List.mem_cons_self⟩
        · rw [if_neg hji]
          refine List.mem_flatten.mpr ⟨gX g n i, List.mem_append_left _ (List.mem_of_getElem? hk'), ?_⟩
          exact List.mem_map.mpr ⟨j, List.mem_filter.mpr ⟨hj, by simpa using hji⟩, rfl⟩
      · rw [List.getElem?_set_ne (Ne.symm e)] at hk2
        exact List.mem_flatten.mpr ⟨it, List.mem_append_left _ (List.mem_of_getElem? hk2), h2⟩
    · obtain ⟨-, hW⟩ := hW
      unfold xAA at hW ⊢
      rw [List.map_append, List.map_append] at hW
      have hW := List.append_cancel_right (show (I'.map _) ++ _ = (List.map _ (I.set k (gX g n i))) ++ _ from hW)
      rw [List.map_set, hW, List.map_set, List.set_set]
      apply List.ext_getElem?
      intro j
      by_cases e : j = k
      · subst e
        have hl := (List.getElem?_eq_some_iff.mp hk).1
        rw [List.getElem?_set_self (by rw [List.length_map]; exact hl), List.getElem?_map, hk]
        show some _ = some _
        congr 1
        show List.map (fun q : Nat × va_E => q.1) _ = List.map (fun q : Nat × va_E => q.1) (List.map g (List.range n))
        rw [List.map_map, List.map_map]
        apply List.map_congr_left
        intro j2 _
        show (if j2 = i then ((g i).1, e') else g j2).1 = (g j2).1
        by_cases h2 : j2 = i
        · rw [if_pos h2, h2]
        · rw [if_neg h2]
      · rw [List.getElem?_set_ne (Ne.symm e)]
theorem gI_up {cA : ClassId} {r : Nat → Nat} {n k i : Nat} {M : Nat → Nat → Int32} {f : Nat → Int32} : (List.range n).map (fun j => if j = i then (r i, (.inl (cA, k, .inl f) : va_E)) else (r j, .inl (cA, k, .inl (M j)))) = gI cA r n k (va_up M i f) := by
  unfold gI
  apply List.map_congr_left
  intro j _
  by_cases h : j = i
  · subst h
    simp [va_up]
  · simp [va_up, h]
theorem gJ_up {cA : ClassId} {r : Nat → Nat} {n k i : Nat} {M : Nat → Nat → Int64} {f : Nat → Int64} : (List.range n).map (fun j => if j = i then (r i, (.inl (cA, k, .inr (.inl f)) : va_E)) else (r j, .inl (cA, k, .inr (.inl (M j))))) = gJ cA r n k (va_up M i f) := by
  unfold gJ
  apply List.map_congr_left
  intro j _
  by_cases h : j = i
  · subst h
    simp [va_up]
  · simp [va_up, h]
theorem va_up_same {α : Type} (M : Nat → α) (i : Nat) : va_up M i (M i) = M := by
  funext j
  by_cases h : j = i
  · subst h
    simp [va_up]
  · simp [va_up, h]
def gIx (cA : ClassId) (r : Nat → Nat) (n k : Nat) (M : Nat → Nat → Int32) (i : Nat) : va_W := gX (fun i => (r i, .inl (cA, k, .inl (M i)))) n i
def gJx (cA : ClassId) (r : Nat → Nat) (n k : Nat) (M : Nat → Nat → Int64) (i : Nat) : va_W := gX (fun i => (r i, .inl (cA, k, .inr (.inl (M i))))) n i
theorem x_focI {D : va_G} {aa : List (List Nat)} {I : List va_W} {H H0 : Heap} {locs : List Loc} (k : Nat) {cA : ClassId} {r : Nat → Nat} {n w : Nat} {M : Nat → Nat → Int32} {i : Int32} (hP : xW D aa I H) (hN : aa.flatten.Nodup) (hS : va_S (xA aa) H0 H locs) (hk : I[k]? = some (gI cA r n w M)) (hi : vp_in i n) :
    ∃ aa2 : List (List Nat), xW D aa2 (I.set k (gIx cA r n w M i.toNatClampNeg) ++ [[(r i.toNatClampNeg, .inl (cA, w, .inl (M i.toNatClampNeg)))]]) H ∧ aa2.flatten.Nodup ∧ va_S (xA aa2) H0 H locs ∧
      (∀ (I' : List va_W) (f : Nat → Int32) (H1 : Heap) (locs1 : List Loc), I'[k]? = some (gIx cA r n w M i.toNatClampNeg) → xW D aa2 (I' ++ [[(r i.toNatClampNeg, .inl (cA, w, .inl f))]]) H1 → va_S (xA aa2) H0 H1 locs1 → xW D aa (I'.set k (gI cA r n w (va_up M i.toNatClampNeg f))) H1 ∧ va_S (xA aa) H0 H1 locs1) ∧
      (∀ (I' : List va_W) (H1 : Heap) (locs1 : List Loc), I'[k]? = some (gIx cA r n w M i.toNatClampNeg) → xW D aa2 (I' ++ [[(r i.toNatClampNeg, .inl (cA, w, .inl (M i.toNatClampNeg)))]]) H1 → va_S (xA aa2) H0 H1 locs1 → xW D aa (I'.set k (gI cA r n w M)) H1 ∧ va_S (xA aa) H0 H1 locs1) := by
  obtain ⟨aa2, h1, h2, h3, h4⟩ := x_foc (g := fun i => (r i, .inl (cA, w, .inl (M i)))) (i := i.toNatClampNeg) hk (Nat.not_le.mp fun q => hi (Or.inr q)) hP hN hS
  refine ⟨aa2, h1, h2, h3, fun I' f H1 locs1 g1 g2 g3 => ?_, fun I' H1 locs1 g1 g2 g3 => ?_⟩
  · rw [← gI_up]
    exact h4 I' _ H1 locs1 g1 g2 g3
  · have h5 := h4 I' _ H1 locs1 g1 g2 g3
    have h6 := @gI_up cA r n w i.toNatClampNeg M (M i.toNatClampNeg)
    rw [va_up_same] at h6
    rw [← h6]
    exact h5
theorem x_focJ {D : va_G} {aa : List (List Nat)} {I : List va_W} {H H0 : Heap} {locs : List Loc} (k : Nat) {cA : ClassId} {r : Nat → Nat} {n w : Nat} {M : Nat → Nat → Int64} {i : Int32} (hP : xW D aa I H) (hN : aa.flatten.Nodup) (hS : va_S (xA aa) H0 H locs) (hk : I[k]? = some (gJ cA r n w M)) (hi : vp_in i n) :
    ∃ aa2 : List (List Nat), xW D aa2 (I.set k (gJx cA r n w M i.toNatClampNeg) ++ [[(r i.toNatClampNeg, .inl (cA, w, .inr (.inl (M i.toNatClampNeg))))]]) H ∧ aa2.flatten.Nodup ∧ va_S (xA aa2) H0 H locs ∧
      (∀ (I' : List va_W) (f : Nat → Int64) (H1 : Heap) (locs1 : List Loc), I'[k]? = some (gJx cA r n w M i.toNatClampNeg) → xW D aa2 (I' ++ [[(r i.toNatClampNeg, .inl (cA, w, .inr (.inl f)))]]) H1 → va_S (xA aa2) H0 H1 locs1 → xW D aa (I'.set k (gJ cA r n w (va_up M i.toNatClampNeg f))) H1 ∧ va_S (xA aa) H0 H1 locs1) ∧
      (∀ (I' : List va_W) (H1 : Heap) (locs1 : List Loc), I'[k]? = some (gJx cA r n w M i.toNatClampNeg) → xW D aa2 (I' ++ [[(r i.toNatClampNeg, .inl (cA, w, .inr (.inl (M i.toNatClampNeg))))]]) H1 → va_S (xA aa2) H0 H1 locs1 → xW D aa (I'.set k (gJ cA r n w M)) H1 ∧ va_S (xA aa) H0 H1 locs1) := by
  obtain ⟨aa2, h1, h2, h3, h4⟩ := x_foc (g := fun i => (r i, .inl (cA, w, .inr (.inl (M i))))) (i := i.toNatClampNeg) hk (Nat.not_le.mp fun q => hi (Or.inr q)) hP hN hS
  refine ⟨aa2, h1, h2, h3, fun I' f H1 locs1 g1 g2 g3 => ?_, fun I' H1 locs1 g1 g2 g3 => ?_⟩
  · rw [← gJ_up]
    exact h4 I' _ H1 locs1 g1 g2 g3
  · have h5 := h4 I' _ H1 locs1 g1 g2 g3
    have h6 := @gJ_up cA r n w i.toNatClampNeg M (M i.toNatClampNeg)
    rw [va_up_same] at h6
    rw [← h6]
    exact h5
