/-! ===== worlds as lists of items: an item is a cell alone, or the rows of a table; addresses by item never change ===== -/
def xP (D : va_G) (I : List va_W) (H : Heap) : Prop := va_P D vwCl I.flatten H
def xAA (I : List va_W) : List (List Nat) := I.map (fun it => it.map (fun q => q.1))
def xW (D : va_G) (aa : List (List Nat)) (I : List va_W) (H : Heap) : Prop := xP D I H ∧ xAA I = aa
theorem x_flat (I : List va_W) : (xAA I).flatten = I.flatten.map (fun q => q.1) := by
  unfold xAA
  rw [List.map_flatten]
theorem x_Pm {D : va_G} {cl : List vw_C} {ws : va_W} {H : Heap} : va_P D cl ws H ↔ ∀ q ∈ ws, va_at D cl q H := by
  constructor
  · intro h q hq
    obtain ⟨k, hk⟩ := List.getElem?_of_mem hq
    exact h k q hk
  · intro h k q hk
    exact h q (List.mem_of_getElem? hk)
theorem x_item {D : va_G} {I : List va_W} {H : Heap} (h : xP D I H) {k : Nat} {it : va_W} (hk : I[k]? = some it) : va_P D vwCl it H := by
  rw [x_Pm]
  intro q hq
  exact x_Pm.mp h q (List.mem_flatten.mpr ⟨it, List.mem_of_getElem? hk, hq⟩)
theorem x_pos : ∀ (I : List va_W) (k : Nat) (it : va_W) (j : Nat) (c : Nat × va_E), I[k]? = some it → it[j]? = some c → ∃ q0 : Nat, I.flatten[q0]? = some c ∧ ∀ c' : Nat × va_E, I.flatten.set q0 c' = (I.set k (it.set j c')).flatten := by
  intro I
  induction I with
  | nil => intro k it j c h; simp at h
  | cons a I ih =>
    intro k it j c h hj
    have hlt : j < it.length := (List.getElem?_eq_some_iff.mp hj).1
    cases k with
    | zero =>
      have e : a = it := by simpa using h
      subst e
      refine ⟨j, ?_, fun c' => ?_⟩
      · rw [List.flatten_cons, List.getElem?_append_left hlt]
        exact hj
      · rw [List.flatten_cons, List.set_append_left _ _ hlt]
        rfl
    | succ k =>
      have h' : I[k]? = some it := by simpa using h
      obtain ⟨q, h1, h2⟩ := ih k it j c h' hj
      refine ⟨a.length + q, ?_, fun c' => ?_⟩
      · rw [List.flatten_cons, List.getElem?_append_right (Nat.le_add_right _ _), Nat.add_sub_cancel_left]
        exact h1
      · rw [List.flatten_cons, List.set_append_right _ _ (Nat.le_add_right _ _), Nat.add_sub_cancel_left, h2 c']
        rfl
theorem x_D {A : Nat → Prop} {I : List va_W} (hN : (xAA I).flatten.Nodup) (hA : ∀ q ∈ (xAA I).flatten, A q) : va_D A I.flatten := by
  rw [x_flat] at hN hA
  refine ⟨fun i j p q hi hj h => ?_, fun k q hk => hA _ (List.mem_map.mpr ⟨q, List.mem_of_getElem? hk, rfl⟩)⟩
  have hi' : (I.flatten.map (fun q => q.1))[i]? = some p.1 := by rw [List.getElem?_map, hi]; rfl
  have hj' : (I.flatten.map (fun q => q.1))[j]? = some q.1 := by rw [List.getElem?_map, hj]; rfl
  exact (List.getElem?_inj (List.getElem?_eq_some_iff.mp hi').1 hN).mp (by rw [hi', hj', h])
theorem x_setAA {I : List va_W} {k j : Nat} {it : va_W} {a : Nat} {e e' : va_E} (hk : I[k]? = some it) (hj : it[j]? = some (a, e)) : xAA (I.set k (it.set j (a, e'))) = xAA I := by
  unfold xAA
  apply List.ext_getElem?
  intro i
  rw [List.getElem?_map, List.getElem?_map]
  by_cases hi : i = k
  · subst hi
    have hl := (List.getElem?_eq_some_iff.mp hk).1
    rw [List.getElem?_set_self hl, hk]
    show some _ = some _
    congr 1
    apply List.ext_getElem?
    intro i2
    rw [List.getElem?_map, List.getElem?_map]
    by_cases h2 : i2 = j
    · subst h2
      rw [List.getElem?_set_self (List.getElem?_eq_some_iff.mp hj).1, hj]
      rfl
    · rw [List.getElem?_set_ne (Ne.symm h2)]
  · rw [List.getElem?_set_ne (Ne.symm hi)]
theorem x_apart : ∀ (I : List va_W), (xAA I).flatten.Nodup → ∀ (k k2 : Nat) (it it2 : va_W) (c c2 : Nat × va_E), I[k]? = some it → I[k2]? = some it2 → c ∈ it → c2 ∈ it2 → c.1 = c2.1 → k = k2 := by
  intro I
  induction I with
  | nil => intro _ k k2 it it2 c c2 h; simp at h
  | cons a I ih =>
    intro hN k k2 it it2 c c2 h h2 hc hc2 he
    have hN' : (a.map (fun q => q.1) ++ (xAA I).flatten).Nodup := hN
    obtain ⟨n1, n2, n3⟩ := List.pairwise_append.mp hN'
    have hin : ∀ (k : Nat) (it : va_W) (c : Nat × va_E), I[k]? = some it → c ∈ it → c.1 ∈ (xAA I).flatten := fun k it c hk hc => by
      rw [x_flat]
      exact List.mem_map.mpr ⟨c, List.mem_flatten.mpr ⟨it, List.mem_of_getElem? hk, hc⟩, rfl⟩
    cases k with
    | zero =>
      have e : a = it := by simpa using h
      subst e
      cases k2 with
      | zero => rfl
      | succ k2 =>
        have h2' : I[k2]? = some it2 := by simpa using h2
        exact absurd he (n3 c.1 (List.mem_map.mpr ⟨c, hc, rfl⟩) c2.1 (hin k2 it2 c2 h2' hc2))
    | succ k =>
      have h' : I[k]? = some it := by simpa using h
      cases k2 with
      | zero =>
        have e : a = it2 := by simpa using h2
        subst e
        exact absurd he.symm (n3 c2.1 (List.mem_map.mpr ⟨c2, hc2, rfl⟩) c.1 (hin k it c h' hc))
      | succ k2 =>
        have h2' : I[k2]? = some it2 := by simpa using h2
        rw [ih n2 k k2 it it2 c c2 h' h2' hc hc2 he]
theorem x_places {I J : List va_W} {ps : List Nat} (hJ : ps.map (fun k => I[k]?) = J.map some) {it : va_W} (h : it ∈ J) : ∃ k ∈ ps, I[k]? = some it := by
  have h1 : some it ∈ J.map some := List.mem_map.mpr ⟨it, h, rfl⟩
  rw [← hJ] at h1
  obtain ⟨k, hk, e⟩ := List.mem_map.mp h1
  exact ⟨k, hk, e⟩
theorem x_subP {D : va_G} {I J : List va_W} {H : Heap} {ps : List Nat} (h : xP D I H) (hJ : ps.map (fun k => I[k]?) = J.map some) : xP D J H := by
  unfold xP at h ⊢
  rw [x_Pm] at h ⊢
  intro q hq
  obtain ⟨it, h1, h2⟩ := List.mem_flatten.mp hq
  obtain ⟨k, -, hk⟩ := x_places hJ h1
  exact h q (List.mem_flatten.mpr ⟨it, List.mem_of_getElem? hk, h2⟩)
theorem x_subA {I J : List va_W} {ps : List Nat} (hJ : ps.map (fun k => I[k]?) = J.map some) : ∀ q ∈ (xAA J).flatten, q ∈ (xAA I).flatten := by
  intro q hq
  rw [x_flat] at hq ⊢
  obtain ⟨c, h1, rfl⟩ := List.mem_map.mp hq
  obtain ⟨it, h2, h3⟩ := List.mem_flatten.mp h1
  obtain ⟨k, -, hk⟩ := x_places hJ h2
  exact List.mem_map.mpr ⟨c, List.mem_flatten.mpr ⟨it, List.mem_of_getElem? hk, h3⟩, rfl⟩
/-- apart places of an apart world are an apart world -/
theorem x_subN : ∀ (ps : List Nat) (I J : List va_W), ps.Nodup → (xAA I).flatten.Nodup → ps.map (fun k => I[k]?) = J.map some → (xAA J).flatten.Nodup
  | [], I, [], _, _, _ => List.nodup_nil
  | [], I, j :: js, _, _, h => by simp at h
  | p :: ps, I, [], _, _, h => by simp at h
  | p :: ps, I, j :: js, hp, hN, h => by
    have h0 : I[p]? = some j := by
      have := congrArg List.head? h
      simpa using this
    have h1 : ps.map (fun k => I[k]?) = js.map some := by
      have := congrArg List.tail h
      simpa using this
    have hp' := List.nodup_cons.mp hp
    have ih := x_subN ps I js hp'.2 hN h1
    show (j.map (fun q => q.1) ++ (xAA js).flatten).Nodup
    refine List.pairwise_append.mpr ⟨?_, ih, ?_⟩
    · have hs : List.Sublist (j.map (fun q => q.1)) (xAA I).flatten := by
        have hm : j.map (fun q => q.1) ∈ xAA I := List.mem_map.mpr ⟨j, List.mem_of_getElem? h0, rfl⟩
        exact List.sublist_flatten_of_mem hm
      exact List.Nodup.sublist hs hN
    · intro a ha b hb hab
      obtain ⟨c, hc, rfl⟩ := List.mem_map.mp ha
      rw [x_flat] at hb
      obtain ⟨c2, hc2, rfl⟩ := List.mem_map.mp hb
      obtain ⟨it2, h2, h3⟩ := List.mem_flatten.mp hc2
      obtain ⟨k2, hk2, e2⟩ := x_places h1 h2
      have := x_apart I hN p k2 j it2 c c2 h0 e2 hc h3 hab
      subst this
      exact hp'.1 hk2
theorem x_atp {α : Type} {L J : List α} {ps : List Nat} (h : ps.map (fun k => L[k]?) = J.map some) {t k : Nat} (ht : ps[t]? = some k) : ∃ j, J[t]? = some j ∧ L[k]? = some j := by
  have h1 : (ps.map (fun k => L[k]?))[t]? = (J.map some)[t]? := by rw [h]
  rw [List.getElem?_map, List.getElem?_map, ht] at h1
  cases hj : J[t]? with
  | none => rw [hj] at h1; cases h1
  | some j =>
    rw [hj] at h1
    exact ⟨j, rfl, Option.some.inj h1⟩
theorem x_join {D : va_G} {aa : List (List Nat)} {I J J' I' : List va_W} {H H1 : Heap} {ps qs : List Nat} {n : Nat} (hP : xW D aa I H) (hN : aa.flatten.Nodup) (hJ : ps.map (fun k => I[k]?) = J.map some) (hB : xW D (xAA J) J' H1) (hk : ∀ q : Nat, q < H.size → ¬ q ∈ (xAA J).flatten → H1[q]? = H[q]?)
    (hJ' : ps.map (fun k => I'[k]?) = J'.map some) (hQ : qs.map (fun k => I'[k]?) = qs.map (fun k => I[k]?)) (hL : I.length = n) (hL' : I'.length = n) (hcov : ∀ k, k < n → k ∈ ps ∨ k ∈ qs) : xW D aa I' H1 := by
  obtain ⟨hP, rfl⟩ := hP
  obtain ⟨hB, hBA⟩ := hB
  have hq : ∀ k, k ∈ qs → I'[k]? = I[k]? := fun k hk => by
    obtain ⟨t, ht⟩ := List.getElem?_of_mem hk
    have h1 : (qs.map (fun k => I'[k]?))[t]? = (qs.map (fun k => I[k]?))[t]? := by rw [hQ]
    rw [List.getElem?_map, List.getElem?_map, ht] at h1
    exact Option.some.inj h1
  refine ⟨?_, ?_⟩
  · unfold xP at hP hB ⊢
    rw [x_Pm] at hP hB ⊢
    intro q hq1
    obtain ⟨it, h1, h2⟩ := List.mem_flatten.mp hq1
    obtain ⟨k, hk1⟩ := List.getElem?_of_mem h1
    have hkn : k < n := by rw [← hL']; exact (List.getElem?_eq_some_iff.mp hk1).1
    by_cases hkp : k ∈ ps
    · obtain ⟨t, ht⟩ := List.getElem?_of_mem hkp
      obtain ⟨j, e1, e2⟩ := x_atp hJ' ht
      rw [e2] at hk1
      cases hk1
      exact hB q (List.mem_flatten.mpr ⟨it, List.mem_of_getElem? e1, h2⟩)
    · have h4 : I[k]? = some it := by rw [← hq k ((hcov k hkn).resolve_left hkp)]; exact hk1
      have hat := hP q (List.mem_flatten.mpr ⟨it, List.mem_of_getElem? h4, h2⟩)
      refine hat.kept (hk q.1 hat.lt (fun hm => ?_))
      rw [x_flat] at hm
      obtain ⟨c, hc, he⟩ := List.mem_map.mp hm
      obtain ⟨it2, h5, h6⟩ := List.mem_flatten.mp hc
      obtain ⟨k2, hk2, e2⟩ := x_places hJ h5
      have := x_apart I hN k k2 it it2 q c h4 e2 h2 h6 he.symm
      subst this
      exact hkp hk2
  · unfold xAA at hBA ⊢
    apply List.ext_getElem?
    intro k
    rw [List.getElem?_map, List.getElem?_map]
    by_cases hkn : k < n
    · by_cases hkp : k ∈ ps
      · obtain ⟨t, ht⟩ := List.getElem?_of_mem hkp
        obtain ⟨j, e1, e2⟩ := x_atp hJ ht
        obtain ⟨j', e1', e2'⟩ := x_atp hJ' ht
        rw [e2, e2']
        have h1 : (J'.map (fun it => it.map (fun q => q.1)))[t]? = (J.map (fun it => it.map (fun q => q.1)))[t]? := by rw [hBA]
        rw [List.getElem?_map, List.getElem?_map, e1, e1'] at h1
        exact h1
      · rw [hq k ((hcov k hkn).resolve_left hkp)]
    · rw [List.getElem?_eq_none (by omega), List.getElem?_eq_none (by omega)]
/-- a callee that leaves its items as they were -/
theorem x_join0 {D : va_G} {aa : List (List Nat)} {I J : List va_W} {H H1 : Heap} {ps : List Nat} (hP : xW D aa I H) (hJ : ps.map (fun k => I[k]?) = J.map some) (hB : xW D (xAA J) J H1) (hk : ∀ q : Nat, q < H.size → ¬ q ∈ (xAA J).flatten → H1[q]? = H[q]?) (hN : aa.flatten.Nodup) : xW D aa I H1 := by
  obtain ⟨hP, rfl⟩ := hP
  obtain ⟨hB, -⟩ := hB
  refine ⟨?_, rfl⟩
  unfold xP at hP hB ⊢
  rw [x_Pm] at hP hB ⊢
  intro q hq1
  obtain ⟨it, h1, h2⟩ := List.mem_flatten.mp hq1
  obtain ⟨k, hk1⟩ := List.getElem?_of_mem h1
  by_cases hkp : k ∈ ps
  · obtain ⟨t, ht⟩ := List.getElem?_of_mem hkp
    obtain ⟨j, e1, e2⟩ := x_atp hJ ht
    rw [e2] at hk1
    cases hk1
    exact hB q (List.mem_flatten.mpr ⟨it, List.mem_of_getElem? e1, h2⟩)
  · have hat := hP q hq1
    refine hat.kept (hk q.1 hat.lt (fun hm => ?_))
    rw [x_flat] at hm
    obtain ⟨c, hc, he⟩ := List.mem_map.mp hm
    obtain ⟨it2, h5, h6⟩ := List.mem_flatten.mp hc
    obtain ⟨k2, hk2, e2⟩ := x_places hJ h5
    have := x_apart I hN k k2 it it2 q c hk1 e2 h2 h6 he.symm
    subst this
    exact hkp hk2
/-! the rows of a table -/
def gI (cA : ClassId) (r : Nat → Nat) (n k : Nat) (M : Nat → Nat → Int32) : va_W := (List.range n).map (fun i => (r i, .inl (cA, k, .inl (M i))))
def gJ (cA : ClassId) (r : Nat → Nat) (n k : Nat) (M : Nat → Nat → Int64) : va_W := (List.range n).map (fun i => (r i, .inl (cA, k, .inr (.inl (M i)))))
def gO (cA : ClassId) (a : Nat) (r : Nat → Nat) (n : Nat) : Nat × va_E := (a, .inl (cA, n, .inr (.inr (.inr (.inr (fun i => if i < n then some (r i) else none))))))
def up2 {α : Type} (M : Nat → Nat → α) (i j : Nat) (x : α) : Nat → Nat → α := fun a b => if a = i then (if b = j then x else M a b) else M a b
theorem gI_get {cA : ClassId} {r : Nat → Nat} {n k : Nat} {M : Nat → Nat → Int32} {i : Nat} (h : i < n) : (gI cA r n k M)[i]? = some (r i, .inl (cA, k, .inl (M i))) := by
  unfold gI
  rw [List.getElem?_map, List.getElem?_range h]
  rfl
theorem gJ_get {cA : ClassId} {r : Nat → Nat} {n k : Nat} {M : Nat → Nat → Int64} {i : Nat} (h : i < n) : (gJ cA r n k M)[i]? = some (r i, .inl (cA, k, .inr (.inl (M i)))) := by
  unfold gJ
  rw [List.getElem?_map, List.getElem?_range h]
  rfl
theorem gI_set {cA : ClassId} {r : Nat → Nat} {n k : Nat} {M : Nat → Nat → Int32} {i j : Nat} {x : Int32} (h : i < n) : (gI cA r n k M).set i (r i, .inl (cA, k, .inl (upd (M i) j x))) = gI cA r n k (up2 M i j x) := by
  have e1 : upd (M i) j x = up2 M i j x i := by
    funext b
    simp [up2, upd]
  have e2 : ∀ q, q ≠ i → up2 M i j x q = M q := fun q hq => by
    funext b
    simp [up2, hq]
  rw [e1]
  unfold gI
  apply List.ext_getElem?
  intro q
  by_cases hq : q = i
  · subst hq
    rw [List.getElem?_set_self (by simpa using h), List.getElem?_map, List.getElem?_range h]
    rfl
  · rw [List.getElem?_set_ne (Ne.symm hq), List.getElem?_map, List.getElem?_map]
    by_cases hn : q < n
    · rw [List.getElem?_range hn]
      show some (r q, _) = some (r q, _)
      rw [e2 q hq]
    · rw [List.getElem?_eq_none (by simpa using hn)]
      rfl
theorem gJ_set {cA : ClassId} {r : Nat → Nat} {n k : Nat} {M : Nat → Nat → Int64} {i j : Nat} {x : Int64} (h : i < n) : (gJ cA r n k M).set i (r i, .inl (cA, k, .inr (.inl (vp_updL (M i) j x)))) = gJ cA r n k (up2 M i j x) := by
  have e1 : vp_updL (M i) j x = up2 M i j x i := by
    funext b
    simp [up2, vp_updL]
  have e2 : ∀ q, q ≠ i → up2 M i j x q = M q := fun q hq => by
    funext b
    simp [up2, hq]
  rw [e1]
  unfold gJ
  apply List.ext_getElem?
  intro q
  by_cases hq : q = i
  · subst hq
    rw [List.getElem?_set_self (by simpa using h), List.getElem?_map, List.getElem?_range h]
    rfl
  · rw [List.getElem?_set_ne (Ne.symm hq), List.getElem?_map, List.getElem?_map]
    by_cases hn : q < n
    · rw [List.getElem?_range hn]
      show some (r q, _) = some (r q, _)
      rw [e2 q hq]
    · rw [List.getElem?_eq_none (by simpa using hn)]
      rfl
