/-! ===== the law's two worlds ===== -/
/-- v, but the given values at the given places -/
def pt {α : Type} (v : Nat → α) : List Nat → List α → Nat → α
  | k :: ks, w :: ws => fun q => bif Nat.beq q k then w else pt v ks ws q
  | _, _ => v
theorem pt_ne {α : Type} {v : Nat → α} {q : Nat} : ∀ (ks : List Nat) (ws : List α), q ∉ ks → pt v ks ws q = v q
  | [], _, _ => rfl
  | _ :: _, [], _ => rfl
  | k :: ks, w :: ws, h => by
    show (bif Nat.beq q k then w else pt v ks ws q) = v q
    have hb : Nat.beq q k = false := by
      cases hc : Nat.beq q k with
      | false => rfl
      | true => exact absurd (List.mem_cons.mpr (Or.inl (Nat.eq_of_beq_eq_true hc))) h
    rw [hb]
    exact pt_ne ks ws (fun hm => h (List.mem_cons.mpr (Or.inr hm)))
theorem c_nodup {A : Nat → Prop} {ws : va_W} (h : va_D A ws) : (ws.map (fun q => q.1)).Nodup := by
  refine List.pairwise_iff_getElem.mpr (fun i j hi hj hij he => ?_)
  have hi2 : i < ws.length := by rw [← List.length_map (f := fun q : Nat × va_E => q.1)]; exact hi
  have hj2 : j < ws.length := by rw [← List.length_map (f := fun q : Nat × va_E => q.1)]; exact hj
  rw [List.getElem_map, List.getElem_map] at he
  have h1 := h.1 i j ws[i] ws[j] (List.getElem?_eq_getElem hi2) (List.getElem?_eq_getElem hj2) he
  omega
theorem c_mem {A : Nat → Prop} {ws : va_W} (h : va_D A ws) : ∀ q, q ∈ ws.map (fun q => q.1) → A q := by
  intro q hq
  obtain ⟨c, hc, rfl⟩ := List.mem_map.mp hq
  obtain ⟨k, hk⟩ := List.getElem?_of_mem hc
  exact h.2 k c hk
def IX (G : Nat → ClassId) (h : Nat → Nat) (r : Nat → Nat → Nat) (v : Nat → Nat → Int32) (j : Nat → Nat → Int64) : List va_W := [[(h 0, .inr (10, [.ref (h 1), .ref (h 4), .ref (h 9), .ref (h 12), .ref (h 15), .ref (h 20), .int (v 0 6), .ref (h 23), .ref (h 26), .ref (h 33), .ref (h 40), .ref (h 42), .ref (h 55), .ref (h 57), .ref (h 63), .ref (h 67)]))],
  [(h 1, .inr (2, [.ref (h 2), .ref (h 3)]))],
  [(h 2, .inl (G 0, 8, .inl (v 2)))],
  [(h 3, .inl (G 0, 8, .inl (v 3)))],
  [(h 4, .inr (3, [.int (v 4 0), .ref (h 5), .int (v 4 2), .ref (h 6), .ref (h 7), .ref (h 8)]))],
  [(h 5, .inl (G 0, 16, .inl (v 5)))],
  [(h 6, .inl (G 0, 32, .inl (v 6)))],
  [(h 7, .inl (G 0, 32, .inl (v 7)))],
  [(h 8, .inl (G 0, 32, .inl (v 8)))],
  [(h 9, .inr (8, [.int (v 9 0), .ref (h 10), .ref (h 11)]))],
  [(h 10, .inl (G 0, 6, .inl (v 10)))],
  [(h 11, .inl (G 0, 6, .inl (v 11)))],
  [(h 12, .inr (2, [.ref (h 13), .ref (h 14)]))],
  [(h 13, .inl (G 0, 8, .inl (v 13)))],
  [(h 14, .inl (G 0, 8, .inl (v 14)))],
  [(h 15, .inr (3, [.int (v 15 0), .ref (h 16), .int (v 15 2), .ref (h 17), .ref (h 18), .ref (h 19)]))],
  [(h 16, .inl (G 0, 16, .inl (v 16)))],
  [(h 17, .inl (G 0, 32, .inl (v 17)))],
  [(h 18, .inl (G 0, 32, .inl (v 18)))],
  [(h 19, .inl (G 0, 32, .inl (v 19)))],
  [(h 20, .inr (8, [.int (v 20 0), .ref (h 21), .ref (h 22)]))],
  [(h 21, .inl (G 0, 6, .inl (v 21)))],
  [(h 22, .inl (G 0, 6, .inl (v 22)))],
  [(h 23, .inr (7, [.int (v 23 0), .ref (h 24), .ref (h 25)]))],
  [(h 24, .inl (G 0, 496, .inl (v 24)))],
  [(h 25, .inl (G 0, 496, .inl (v 25)))],
  [(h 26, .inr (9, [.int (v 26 0), .int (v 26 1), .int (v 26 2), .int (v 26 3), .ref (h 27), .ref (h 28), .ref (h 29), .ref (h 30), .ref (h 31), .ref (h 32)]))],
  [(h 27, .inl (G 0, 32, .inl (v 27)))],
  [(h 28, .inl (G 0, 32, .inl (v 28)))],
  [(h 29, .inl (G 0, 32, .inl (v 29)))],
  [(h 30, .inl (G 0, 32, .inl (v 30)))],
  [(h 31, .inl (G 0, 32, .inl (v 31)))],
  [(h 32, .inl (G 0, 16, .inl (v 32)))],
  [(h 33, .inr (9, [.int (v 33 0), .int (v 33 1), .int (v 33 2), .int (v 33 3), .ref (h 34), .ref (h 35), .ref (h 36), .ref (h 37), .ref (h 38), .ref (h 39)]))],
  [(h 34, .inl (G 0, 32, .inl (v 34)))],
  [(h 35, .inl (G 0, 32, .inl (v 35)))],
  [(h 36, .inl (G 0, 32, .inl (v 36)))],
  [(h 37, .inl (G 0, 32, .inl (v 37)))],
  [(h 38, .inl (G 0, 32, .inl (v 38)))],
  [(h 39, .inl (G 0, 16, .inl (v 39)))],
  [(h 40, .inr (6, [.int (v 40 0), .ref (h 41)]))],
  [(h 41, .inl (G 3, 202, .inl (v 41)))],
  [(h 42, .inr (4, [.ref (h 43), .ref (h 48), .ref (h 51), .ref (h 54), .int (v 42 4)]))],
  [(h 43, .inr (3, [.int (v 43 0), .ref (h 44), .int (v 43 2), .ref (h 45), .ref (h 46), .ref (h 47)]))],
  [(h 44, .inl (G 0, 16, .inl (v 44)))],
  [(h 45, .inl (G 0, 32, .inl (v 45)))],
  [(h 46, .inl (G 0, 32, .inl (v 46)))],
  [(h 47, .inl (G 0, 32, .inl (v 47)))],
  [(h 48, .inr (2, [.ref (h 49), .ref (h 50)]))],
  [(h 49, .inl (G 0, 8, .inl (v 49)))],
  [(h 50, .inl (G 0, 8, .inl (v 50)))],
  [(h 51, .inr (7, [.int (v 51 0), .ref (h 52), .ref (h 53)]))],
  [(h 52, .inl (G 0, 496, .inl (v 52)))],
  [(h 53, .inl (G 0, 496, .inl (v 53)))],
  [(h 54, .inl (G 0, 8, .inl (v 54)))],
  [(h 55, .inr (1, [.int (v 55 0), .ref (h 56)]))],
  [(h 56, .inl (G 0, 20, .inl (v 56)))],
  [(h 57, .inr (0, [.ref (h 58), .int (v 57 1), .int (v 57 2), .int (v 57 3)]))],
  [(h 58, .inr (3, [.int (v 58 0), .ref (h 59), .int (v 58 2), .ref (h 60), .ref (h 61), .ref (h 62)]))],
  [(h 59, .inl (G 0, 16, .inl (v 59)))],
  [(h 60, .inl (G 0, 32, .inl (v 60)))],
  [(h 61, .inl (G 0, 32, .inl (v 61)))],
  [(h 62, .inl (G 0, 32, .inl (v 62)))],
  [(h 63, .inr (5, [.ref (h 64), .ref (h 65)]))],
  [(h 64, .inl (G 0, 3, .inl (v 64)))],
  [gO (G 5) (h 65) (r 65) 3],
  gJ (G 1) (r 65) 3 16 j,
  [(h 67, .inl (G 0, 16, .inl (v 67)))]]
def IM (G : Nat → ClassId) (h : Nat → Nat) (r : Nat → Nat → Nat) (v : Nat → Nat → Int32) (t : Nat → Nat → Nat → Int32) (j : Nat → Nat → Int64) : List va_W := [[(h 0, .inr (11, [.ref (h 1), .ref (h 3), .int (v 0 2), .int (v 0 3), .ref (h 5), .ref (h 6), .ref (h 7), .ref (h 8), .ref (h 9), .ref (h 11), .ref (h 13), .int (v 0 11), .int (v 0 12), .ref (h 14), .ref (h 16), .ref (h 17), .int (v 0 16), .ref (h 18), .int (v 0 18), .ref (h 19), .int (v 0 20), .ref (h 20), .ref (h 21), .ref (h 23), .int (v 0 24), .int (v 0 25), .ref (h 24), .ref (h 26), .int (v 0 28), .int (v 0 29), .ref (h 27), .ref (h 28), .ref (h 30), .ref (h 31), .ref (h 32), .ref (h 33), .int (v 0 36), .ref (h 34), .ref (h 35), .ref (h 36), .int (v 0 40), .int (v 0 41), .int (v 0 42), .int (v 0 43), .ref (h 38), .ref (h 39), .ref (h 40), .ref (h 41), .ref (h 42), .ref (h 43), .ref (h 45), .ref (h 47)]))],
  [gO (G 6) (h 1) (r 1) 8],
  gI (G 2) (r 1) 8 8 (t 2),
  [gO (G 6) (h 3) (r 3) 8],
  gI (G 2) (r 3) 8 8 (t 4),
  [(h 5, .inl (G 0, 32, .inl (v 5)))],
  [(h 6, .inl (G 0, 32, .inl (v 6)))],
  [(h 7, .inl (G 0, 32, .inl (v 7)))],
  [(h 8, .inl (G 0, 16, .inl (v 8)))],
  [gO (G 4) (h 9) (r 9) 16],
  gI (G 0) (r 9) 16 8 (t 10),
  [gO (G 4) (h 11) (r 11) 16],
  gI (G 0) (r 11) 16 16 (t 12),
  [(h 13, .inl (G 0, 16, .inl (v 13)))],
  [gO (G 4) (h 14) (r 14) 2],
  gI (G 0) (r 14) 2 32 (t 15),
  [(h 16, .inl (G 0, 32, .inl (v 16)))],
  [(h 17, .inl (G 0, 32, .inl (v 17)))],
  [(h 18, .inl (G 0, 400, .inl (v 18)))],
  [(h 19, .inl (G 0, 8, .inl (v 19)))],
  [(h 20, .inl (G 0, 32, .inl (v 20)))],
  [gO (G 6) (h 21) (r 21) 8],
  gI (G 2) (r 21) 8 8 (t 22),
  [(h 23, .inl (G 0, 20, .inl (v 23)))],
  [gO (G 4) (h 24) (r 24) 12],
  gI (G 0) (r 24) 12 4 (t 25),
  [(h 26, .inl (G 0, 12, .inl (v 26)))],
  [(h 27, .inl (G 0, 16, .inl (v 27)))],
  [gO (G 4) (h 28) (r 28) 16],
  gI (G 0) (r 28) 16 8 (t 29),
  [(h 30, .inl (G 0, 32, .inl (v 30)))],
  [(h 31, .inl (G 0, 32, .inl (v 31)))],
  [(h 32, .inl (G 0, 32, .inl (v 32)))],
  [(h 33, .inl (G 0, 16, .inl (v 33)))],
  [(h 34, .inl (G 0, 3, .inl (v 34)))],
  [(h 35, .inl (G 0, 3, .inl (v 35)))],
  [gO (G 5) (h 36) (r 36) 3],
  gJ (G 1) (r 36) 3 16 j,
  [(h 38, .inl (G 0, 16, .inl (v 38)))],
  [(h 39, .inl (G 0, 32, .inl (v 39)))],
  [(h 40, .inl (G 0, 32, .inl (v 40)))],
  [(h 41, .inl (G 0, 32, .inl (v 41)))],
  [(h 42, .inl (G 0, 12, .inl (v 42)))],
  [gO (G 4) (h 43) (r 43) 16],
  gI (G 0) (r 43) 16 8 (t 44),
  [gO (G 4) (h 45) (r 45) 12],
  gI (G 0) (r 45) 12 4 (t 46),
  [gO (G 6) (h 47) (r 47) 8],
  gI (G 2) (r 47) 8 8 (t 48)]
def pX0 (G : Nat → ClassId) (h : Nat) (B : va_W) : Prop := ∃ a : Nat → Nat, B = [(h, .inr (0, [.ref (a 0), .int (-2), .int (-2), .int (-2)])), (a 0, .inr (3, [.int 0, .ref (a 1), .int 0, .ref (a 2), .ref (a 3), .ref (a 4)])), (a 1, .inl (G 0, 16, .inl (fun _ => 0))), (a 2, .inl (G 0, 32, .inl (fun _ => 0))), (a 3, .inl (G 0, 32, .inl (fun _ => 0))), (a 4, .inl (G 0, 32, .inl (fun _ => 0)))]
def pX1 (G : Nat → ClassId) (h : Nat) (B : va_W) : Prop := ∃ a : Nat → Nat, B = [(h, .inr (1, [.int 0, .ref (a 0)])), (a 0, .inl (G 0, 20, .inl (fun _ => 0)))]
def pX2 (G : Nat → ClassId) (h : Nat) (B : va_W) : Prop := ∃ a : Nat → Nat, B = [(h, .inr (2, [.ref (a 0), .ref (a 1)])), (a 0, .inl (G 0, 8, .inl (fun _ => 0))), (a 1, .inl (G 0, 8, .inl (fun _ => 0)))]
def pX3 (G : Nat → ClassId) (h : Nat) (B : va_W) : Prop := ∃ a : Nat → Nat, B = [(h, .inr (3, [.int 0, .ref (a 0), .int 0, .ref (a 1), .ref (a 2), .ref (a 3)])), (a 0, .inl (G 0, 16, .inl (fun _ => 0))), (a 1, .inl (G 0, 32, .inl (fun _ => 0))), (a 2, .inl (G 0, 32, .inl (fun _ => 0))), (a 3, .inl (G 0, 32, .inl (fun _ => 0)))]
def pX4 (G : Nat → ClassId) (h : Nat) (B : va_W) : Prop := ∃ (a : Nat → Nat) (o1 o2 : Nat → Int32), OrX o1 o2 o_nat ∧ B = [(h, .inr (4, [.ref (a 0), .ref (a 5), .ref (a 8), .ref (a 11), .int (-2)])), (a 0, .inr (3, [.int 0, .ref (a 1), .int 0, .ref (a 2), .ref (a 3), .ref (a 4)])), (a 1, .inl (G 0, 16, .inl (fun _ => 0))), (a 2, .inl (G 0, 32, .inl (fun _ => 0))), (a 3, .inl (G 0, 32, .inl (fun _ => 0))), (a 4, .inl (G 0, 32, .inl (fun _ => 0))), (a 5, .inr (2, [.ref (a 6), .ref (a 7)])), (a 6, .inl (G 0, 8, .inl (o2))), (a 7, .inl (G 0, 8, .inl (o1))), (a 8, .inr (7, [.int 0, .ref (a 9), .ref (a 10)])), (a 9, .inl (G 0, 496, .inl (fun _ => 0))), (a 10, .inl (G 0, 496, .inl (fun _ => 0))), (a 11, .inl (G 0, 8, .inl (fun _ => 0)))]
def pX5 (G : Nat → ClassId) (h : Nat) (B : va_W) : Prop := ∃ (a r : Nat → Nat) (o1 : Nat → Int32), (∀ b, b < 3 → o1 b = -1) ∧ B = [(h, .inr (5, [.ref (a 0), .ref (a 1)])), (a 0, .inl (G 0, 3, .inl (o1))), gO (G 5) (a 1) r 3] ++ gJ (G 1) r 3 16 (fun _ _ => 0)
def pX6 (G : Nat → ClassId) (h : Nat) (B : va_W) : Prop := ∃ a : Nat → Nat, B = [(h, .inr (6, [.int 0, .ref (a 0)])), (a 0, .inl (G 3, 202, .inl (fun _ => 0)))]
def pX7 (G : Nat → ClassId) (h : Nat) (B : va_W) : Prop := ∃ a : Nat → Nat, B = [(h, .inr (7, [.int 0, .ref (a 0), .ref (a 1)])), (a 0, .inl (G 0, 496, .inl (fun _ => 0))), (a 1, .inl (G 0, 496, .inl (fun _ => 0)))]
def pX8 (G : Nat → ClassId) (h : Nat) (B : va_W) : Prop := ∃ a : Nat → Nat, B = [(h, .inr (8, [.int 0, .ref (a 0), .ref (a 1)])), (a 0, .inl (G 0, 6, .inl (fun _ => 0))), (a 1, .inl (G 0, 6, .inl (fun _ => 0)))]
def pX9 (G : Nat → ClassId) (h : Nat) (B : va_W) : Prop := ∃ a : Nat → Nat, B = [(h, .inr (9, [.int 0, .int 0, .int 0, .int 0, .ref (a 0), .ref (a 1), .ref (a 2), .ref (a 3), .ref (a 4), .ref (a 5)])), (a 0, .inl (G 0, 32, .inl (fun _ => 0))), (a 1, .inl (G 0, 32, .inl (fun _ => 0))), (a 2, .inl (G 0, 32, .inl (fun _ => 0))), (a 3, .inl (G 0, 32, .inl (fun _ => 0))), (a 4, .inl (G 0, 32, .inl (fun _ => 0))), (a 5, .inl (G 0, 16, .inl (fun _ => 0)))]
/-- the class just made -/
def vX0 (o1 o2 s1 : Nat → Int32) : Nat → Nat → Int32 := pt (fun _ _ => 0) [42, 57, 49, 50, 64] [pt (fun _ => 0) [4] [-2], pt (fun _ => 0) [1, 2, 3] [-2, -2, -2], o2, o1, s1]
def pX11 (G : Nat → ClassId) (h : Nat) (B : va_W) : Prop := ∃ (hx : Nat → Nat) (r : Nat → Nat → Nat) (o1 o2 s1 : Nat → Int32), hx 0 = h ∧ OrX o1 o2 o_nat ∧ (∀ b, b < 3 → s1 b = -1) ∧ B = (IX G hx r (vX0 o1 o2 s1) (fun _ _ => 0)).flatten
/-- the reference just made -/
def vM0 : Nat → Nat → Int32 := pt (fun _ _ => 0) [0, 34, 35] [pt (fun _ => 0) [20] [-1], upd (upd (upd (fun _ => 0) 0 (-2)) 1 (-2)) 2 (-2), upd (upd (upd (fun _ => 0) 0 (-1)) 1 (-1)) 2 (-1)]
def pX12 (G : Nat → ClassId) (h : Nat) (B : va_W) : Prop := ∃ (hm : Nat → Nat) (r : Nat → Nat → Nat), hm 0 = h ∧ B = (IM G hm r vM0 (fun _ _ _ => 0) (fun _ _ => 0)).flatten
