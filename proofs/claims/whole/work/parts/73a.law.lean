/-! ===== the law: rows over its two worlds ===== -/
theorem x_m1 {α : Type} {I : List α} {k : Nat} {it : α} {ps : List Nat} {J : List α} (h : I[k]? = some it) (t : ps.map (fun k => I[k]?) = J.map some) : (k :: ps).map (fun k => I[k]?) = (it :: J).map some := by
  show I[k]? :: ps.map (fun k => I[k]?) = some it :: J.map some
  rw [h, t]
theorem x_joinF {D : va_G} {aa : List (List Nat)} {I J J' I' : List va_W} {H H1 : Heap} {ps : List Nat} (hP : xW D aa I H) (hN : aa.flatten.Nodup) (hJ : ps.map (fun k => I[k]?) = J.map some) (hB : xW D (xAA J) J' H1) (hk : ∀ q : Nat, q < H.size → ¬ q ∈ (xAA J).flatten → H1[q]? = H[q]?)
    (hJ' : ps.map (fun k => I'[k]?) = J'.map some) (hQ : ∀ k, k ∉ ps → I'[k]? = I[k]?) : xW D aa I' H1 := by
  obtain ⟨hP, rfl⟩ := hP
  obtain ⟨hB, hBA⟩ := hB
  refine ⟨?_, ?_⟩
  · unfold xP at hP hB ⊢
    rw [x_Pm] at hP hB ⊢
    intro q hq1
    obtain ⟨it, h1, h2⟩ := List.mem_flatten.mp hq1
    obtain ⟨k, hk1⟩ := List.getElem?_of_mem h1
    by_cases hkp : k ∈ ps
    · obtain ⟨t, ht⟩ := List.getElem?_of_mem hkp
      obtain ⟨j, e1, e2⟩ := x_atp hJ' ht
      rw [e2] at hk1
      cases hk1
      exact hB q (List.mem_flatten.mpr ⟨it, List.mem_of_getElem? e1, h2⟩)
    · have h4 : I[k]? = some it := by rw [← hQ k hkp]; exact hk1
      have hat := hP q (List.mem_flatten.mpr ⟨it, List.mem_of_getElem? h4, h2⟩)
      refine hat.kept (hk q.1 hat.lt (fun hm => ?_))
      rw [x_flat] at hm
      obtain ⟨c, hc, he⟩ := List.mem_map.mp hm
      obtain ⟨it2, h5, h6⟩ := List.mem_flatten.mp hc
      obtain ⟨k2, hk2, e2⟩ := x_places hJ h5
      have := x_apart I hN k k2 it it2 q c h4 e2 h2 h6 he.symm
      subst this
      exact hkp hk2
  · unfold xAA at hBA ⊢
    apply List.ext_getElem?
    intro k
    rw [List.getElem?_map, List.getElem?_map]
    by_cases hkp : k ∈ ps
    · obtain ⟨t, ht⟩ := List.getElem?_of_mem hkp
      obtain ⟨j, e1, e2⟩ := x_atp hJ ht
      obtain ⟨j', e1', e2'⟩ := x_atp hJ' ht
      rw [e2, e2']
      have h1 : (J'.map (fun it => it.map (fun q => q.1)))[t]? = (J.map (fun it => it.map (fun q => q.1)))[t]? := by rw [hBA]
      rw [List.getElem?_map, List.getElem?_map, e1, e1'] at h1
      exact h1
    · rw [hQ k hkp]
theorem x_keep {D : va_G} {ab : List (List Nat)} {K J : List va_W} {H H1 : Heap} (hK : xW D ab K H) (hk : ∀ q : Nat, q < H.size → ¬ q ∈ (xAA J).flatten → H1[q]? = H[q]?) (hd : ∀ q, q ∈ (xAA J).flatten → ¬ q ∈ ab.flatten) : xW D ab K H1 := by
  obtain ⟨hP, rfl⟩ := hK
  refine ⟨?_, rfl⟩
  unfold xP at hP ⊢
  rw [x_Pm] at hP ⊢
  intro q hq
  have hat := hP q hq
  refine hat.kept (hk q.1 hat.lt (fun hm => hd _ hm ?_))
  rw [x_flat]
  exact List.mem_map.mpr ⟨q, hq, rfl⟩
section LROWS
variable {p : Program} {l : Launch} {e : Env} {R : Room} {s : State} {m : MethodId} {args : Array Value} {below : List Frame} {meth : Method} {c : Code} {H : Heap} {locs : List Loc} {cells slots : Nat} {Q : State → Prop}
variable {pc : Nat} {ls : Array Slot} {rest : List Value} {D : va_G} {aa ab : List (List Nat)} {I J I' J' K : List va_W} {H0 : Heap} {A : Nat → Prop}
theorem l_goi {r : Int32} {st0 : List Value} {av : Array Value} {ps : List Nat} (hr : va_Run p l e R s m args below meth c H locs cells slots 0 0 (F0 m pc ls st0) rest (xQi D J' r (xAA J) av) (xA (xAA J))) (hP : xW D aa I H) (hK : xW D ab K H) (hN : aa.flatten.Nodup) (hd : ∀ q, q ∈ aa.flatten → ¬ q ∈ ab.flatten) (hA : ∀ q, q ∈ aa.flatten → A q) (hS : va_S A H0 H locs) (hJ : ps.map (fun k => I[k]?) = J.map some) (hJ' : ps.map (fun k => I'[k]?) = J'.map some) (hQ : ∀ k, k ∉ ps → I'[k]? = I[k]?)
    (kk : ∀ (H1 : Heap) (locs1 : List Loc), xW D aa I' H1 → xW D ab K H1 → va_S A H0 H1 locs1 → W p l e R s m args below meth c H1 locs1 cells slots Q (F0 m (pc + 3) ls (.int r :: rest))) : W p l e R s m args below meth c H locs cells slots Q (F0 m pc ls st0) := by
  have hsub : ∀ q, xA (xAA J) q → q ∈ aa.flatten := fun q h => by rw [← hP.2]; exact x_subA hJ q h
  refine va_calli hr hS (fun q _ h => hA q (hsub q h)) (fun q h => hA q (hsub q h)) (fun r2 u t H1 locs1 ht hvm hw hB hz hk hS1 => ?_)
  subst hw
  have hB : xW D (xAA J) J' t.heap := hB
  rw [ht] at hB
  exact kk H1 locs1 (x_joinF hP hN hJ hB hk hJ' hQ) (x_keep hK hk (fun q hq => hd q (hsub q hq))) hS1
theorem l_gol {r : Int64} {st0 : List Value} {av : Array Value} {ps : List Nat} (hr : va_Run p l e R s m args below meth c H locs cells slots 0 0 (F0 m pc ls st0) rest (xQl D J' r (xAA J) av) (xA (xAA J))) (hP : xW D aa I H) (hK : xW D ab K H) (hN : aa.flatten.Nodup) (hd : ∀ q, q ∈ aa.flatten → ¬ q ∈ ab.flatten) (hA : ∀ q, q ∈ aa.flatten → A q) (hS : va_S A H0 H locs) (hJ : ps.map (fun k => I[k]?) = J.map some) (hJ' : ps.map (fun k => I'[k]?) = J'.map some) (hQ : ∀ k, k ∉ ps → I'[k]? = I[k]?)
    (kk : ∀ (H1 : Heap) (locs1 : List Loc), xW D aa I' H1 → xW D ab K H1 → va_S A H0 H1 locs1 → W p l e R s m args below meth c H1 locs1 cells slots Q (F0 m (pc + 3) ls (.long r :: rest))) : W p l e R s m args below meth c H locs cells slots Q (F0 m pc ls st0) := by
  have hsub : ∀ q, xA (xAA J) q → q ∈ aa.flatten := fun q h => by rw [← hP.2]; exact x_subA hJ q h
  refine va_calll hr hS (fun q _ h => hA q (hsub q h)) (fun q h => hA q (hsub q h)) (fun r2 u t H1 locs1 ht hvm hw hB hz hk hS1 => ?_)
  subst hw
  have hB : xW D (xAA J) J' t.heap := hB
  rw [ht] at hB
  exact kk H1 locs1 (x_joinF hP hN hJ hB hk hJ' hQ) (x_keep hK hk (fun q hq => hd q (hsub q hq))) hS1
end LROWS
