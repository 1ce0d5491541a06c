theorem x_writePath (fu : Nat) (hfu : 40 < fu) {arr fp len prv : Nat → Int32} {b d : Nat} {pth : Nat → Nat} (hd : d < 32) (hpt : ∀ j, j < d → pth j < 32) (hst : ∀ j, j < d → f_X9_stepTo fu arr fp len prv (nI b) (nI j) = some (nI (pth j))) (hlt : f_X9_lengthTo fp len (nI b) = some (nI d)) {l : List Nat} {tl : Int32} {sg : Nat → Int32} (h : TxX l tl sg) (hl : l.length + 3 * d ≤ 202) :
    ∃ tl' sg', f_X11_writePath fu tl arr fp len prv sg (nI b) = some (tl', sg') ∧ TxX (l ++ ptx pth d) tl' sg' := by
  have : tot (f_X11_writePath fu tl arr fp len prv sg (nI b)) (fun q => TxX (l ++ ptx pth d) q.1 q.2) := by
    unfold f_X11_writePath
    rw [hlt]
    simp only [Option.bind_some, lt]
    refine (lw3 (fun k v tl sg => ∃ j, v = nI j ∧ j + k = d ∧ TxX (l ++ ptx pth j) tl sg) ?_ fu d _ _ _ (by omega) ⟨0, rfl, by omega, by show TxX (l ++ []) tl sg; rw [List.append_nil]; exact h⟩)
    rintro r k v tl sg ⟨j, rfl, hj, hT⟩ ih
    unfold f_X11_writePath_L9
    by_cases hjd : j = d
    · subst hjd
      rw [if_pos (nI_le (Nat.le_refl j) (by omega))]
      exact tot_some hT
    · rw [if_neg (nI_ge (a := j) (by omega) (by omega))]
      have n1 := ptx_len pth j
      have n2 := hpt j (by omega)
      obtain ⟨t1, s1, a1, b1⟩ := x_putSign hT (by rw [List.length_append]; omega) (show 46 < 128 by decide)
      rw [show f_X6_putSign tl sg 46 = some (t1, s1) from a1]
      simp only [Option.bind_some]
      rw [hst j (by omega)]
      simp only [Option.bind_some]
      obtain ⟨t2, s2, a2, b2⟩ := x_putNumber b1 (by simp only [List.length_append, List.length_cons, List.length_nil]; omega) (show pth j < 100 by omega)
      rw [a2]
      simp only [Option.bind_some, lt, nI_1]
      refine ih (k - 1) _ _ _ (by omega) ⟨j + 1, rfl, by omega, ?_⟩
      show TxX (l ++ (ptx pth j ++ ([46] ++ numT (pth j)))) t2 s2
      rw [List.append_assoc, List.append_assoc] at b2
      exact b2
  obtain ⟨⟨t, s⟩, e1, e2⟩ := this
  exact ⟨t, s, e1, e2⟩
