theorem inP_nil : InP [] := ⟨Nat.zero_le _, fun c h => absurd h List.not_mem_nil⟩
set_option maxRecDepth 20000 in
theorem r_restore {v w : Nat → Nat → Int32} {t : Nat → Nat → Nat → Int32} (hRO : RelO (v 3) (v 2) (t 4) (t 2)) (hRS : RelS (v 4 0) (v 4 2) (v 8) (v 6) (v 7) (w 0 2) (w 0 3) (w 7) (w 5) (w 6) (v 5) (w 8) (t 10)) (hRR : RelR (v 9 0) (v 10) (v 11) (w 0 25) (w 26) (t 25)) (hRN : RelN (v 0 6) (w 0 40) (v 15 0) (v 15 2) (v 19) (v 17) (v 18) (v 16) (v 14) (v 13) (v 20 0) (v 21) (v 22) (w 0 41) (w 0 42) (w 41) (w 39) (w 40) (w 38) (t 44) (t 48) (w 0 43) (w 42) (t 46)) :
    ∃ (r : Int32) (V1 : Nat → Int32) (V2 : Nat → Nat → Int32) (W1 : Nat → Int32) (W2 : Nat → Nat → Int32) (W3 : Nat → Nat → Nat → Int32), f_X11_restoreSnapshot (v 0 6) (v 9 0) (v 20 0) (v 15 0) (v 15 2) (v 4 0) (v 4 2) (v 3) (v 2) (v 10) (v 11) (v 14) (v 13) (v 21) (v 22) (v 19) (v 17) (v 18) (v 16) (v 8) (v 6) (v 7) (v 5) = some (r, V1, V2) ∧ f_X12_restoreSnapshot 100000 (w 0 2) (w 0 3) (w 0 25) (w 0 40) (w 0 41) (w 0 42) (w 0 43) (t 4) (w 7) (w 8) (t 10) (t 2) (w 41) (w 38) (t 44) (t 48) (w 42) (t 46) (w 39) (w 40) (w 26) (t 25) (w 5) (w 6) = some (r, W1, W2, W3) ∧ RelO (V2 0) (V2 1) (W3 0) (W3 2) ∧ RelS (V1 1) (V1 2) (V2 4) (V2 5) (V2 6) (W1 0) (W1 2) (W2 0) (W2 3) (W2 4) (V2 7) (W2 1) (W3 1) ∧ RelR (V1 0) (V2 2) (V2 3) (W1 1) (W2 2) (W3 3) := by
  rcases hRN with ⟨e1, e2⟩ | ⟨e1, e2, n, m, S, T, L, p, c, L2, R2, hB⟩
  · refine ⟨-2, vv 0 [v 9 0, v 4 0, v 4 2], vv (fun _ => 0) [v 3, v 2, v 10, v 11, v 8, v 6, v 7, v 5], vv 0 [w 0 2, w 0 25, w 0 3], vv (fun _ => 0) [w 7, w 8, w 26, w 5, w 6], vv (fun _ _ => 0) [t 4, t 10, t 2, t 25], ?_, ?_, hRO, hRS, hRR⟩
    · rw [e1]
      unfold f_X11_restoreSnapshot
      exact if_neg (fun h => h rfl)
    · rw [e2]
      unfold f_X12_restoreSnapshot
      exact if_neg (fun h => h rfl)
  · obtain ⟨r, V1, V2, W1, W2, W3, g1, g2, ⟨b1, b2, b3, b4, b5, b6, b7, b8, b9, b10⟩, hO⟩ := s_restoreSnapshot 100000 (by decide) hB (v 9 0) (v 4 0) (v 4 2) (w 0 2) (w 0 3) (w 0 25) (v 3) (v 2) (v 10) (v 11) (v 8) (v 6) (v 7) (v 5) (w 7) (w 8) (w 26) (w 5) (w 6) (t 10) (t 2) (t 25) (t 4)
    refine ⟨r, V1, V2, W1, W2, W3, ?_, ?_, ⟨p, b5, b6, hO⟩, ⟨n, m, S, T, L, b1, b2, b3, b4⟩, ⟨c, L2, R2, b8, b9, b10⟩⟩
    · rw [e1]
      exact g1
    · rw [e2]
      exact g2
theorem war_f : ∀ k i j, war (fun _ _ => false) k i j = false
  | 0, _, _ => rfl
  | k + 1, i, j => by rw [war_s, war_f k, war_f k, war_f k]; rfl
theorem bt_0 (j : Nat) : bt 0 j = false := by
  show (0#32).getLsbD j = false
  simp
theorem rel_init {o1 o2 s1 : Nat → Int32} (h1 : OrX o1 o2 o_nat) (h2 : ∀ b, b < 3 → s1 b = -1) : Rel (vX0 o1 o2 s1) (fun _ _ => 0) vM0 (fun _ _ _ => 0) (fun _ _ => 0) := by
  refine ⟨⟨fun _ _ => false, ⟨fun _ _ _ => rfl, fun i => war_f 8 i i⟩, ⟨fun i _ j _ => ?_, fun i _ j _ => ?_⟩, ⟨fun i _ j _ => ?_, fun i _ j _ => ?_⟩⟩, ⟨0, 0, fun _ => 0, fun _ => 0, fun _ => 0, ⟨Nat.zero_le _, Nat.zero_le _, fun i h => absurd h (Nat.not_lt_zero i)⟩, ⟨rfl, rfl, fun i h => absurd h (Nat.not_lt_zero i), fun i h => absurd h (Nat.not_lt_zero i), fun i h => absurd h (Nat.not_lt_zero i)⟩, ⟨rfl, rfl, fun i h => absurd h (Nat.not_lt_zero i), fun i h => absurd h (Nat.not_lt_zero i), fun i h => absurd h (Nat.not_lt_zero i)⟩, fun i h => absurd h (Nat.not_lt_zero i)⟩, ⟨0, fun _ => [], fun _ => [], ⟨Nat.zero_le _, fun i h => absurd h (Nat.not_lt_zero i)⟩, ⟨rfl, fun i h => absurd h (Nat.not_lt_zero i)⟩, ⟨rfl, fun i h => absurd h (Nat.not_lt_zero i)⟩⟩, Or.inl ⟨rfl, rfl⟩, ⟨[], Nat.zero_le _, ⟨rfl, fun i c h => by simp at h⟩, ⟨rfl, fun i c h => by simp at h⟩⟩, Or.inl ⟨rfl, rfl⟩, ?_, ⟨[], inP_nil, ⟨rfl, fun i c h => by simp at h⟩, ⟨rfl, fun i c h => by simp at h⟩⟩, ⟨rfl, rfl, rfl⟩, ⟨fun _ => none, fun i hi => ⟨h2 i hi, ?_, fun k h => by cases h⟩⟩⟩
  · rw [war_f]
    exact bt_0 j
  · exact bt_0 j
  · rw [war_f]
    rfl
  · rfl
  · have h3 := h1.1
    rw [o_nat_war] at h3
    exact h3
  · match i, hi with
    | 0, _ => rfl
    | 1, _ => rfl
    | 2, _ => rfl
    | i + 3, hi => exact absurd hi (by omega)
