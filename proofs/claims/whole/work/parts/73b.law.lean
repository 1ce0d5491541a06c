theorem q_nil {α : Type} {n : Nat} {ps : List Nat} : ∀ k, n + k ∉ ps → ([] : List α)[k]? = ([] : List α)[k]? := fun _ _ => rfl
theorem q_cons {α : Type} {n : Nat} {ps : List Nat} {a b : α} {A B : List α} (h : n ∉ ps → a = b) (t : ∀ k, (n + 1) + k ∉ ps → A[k]? = B[k]?) : ∀ k, n + k ∉ ps → (a :: A)[k]? = (b :: B)[k]?
  | 0, hk => congrArg some (h hk)
  | k + 1, hk => t k (by rw [Nat.add_assoc, Nat.add_comm 1 k]; exact hk)
set_option maxRecDepth 20000 in
theorem IX_0 {G : Nat → ClassId} {h : Nat → Nat} {r : Nat → Nat → Nat} {v : Nat → Nat → Int32} {j : Nat → Nat → Int64} : (IX G h r v j)[0]? = some [(h 0, .inr (10, [.ref (h 1), .ref (h 4), .ref (h 9), .ref (h 12), .ref (h 15), .ref (h 20), .int (v 0 6), .ref (h 23), .ref (h 26), .ref (h 33), .ref (h 40), .ref (h 42), .ref (h 55), .ref (h 57), .ref (h 63), .ref (h 67)]))] := rfl
set_option maxRecDepth 20000 in
theorem IX_1 {G : Nat → ClassId} {h : Nat → Nat} {r : Nat → Nat → Nat} {v : Nat → Nat → Int32} {j : Nat → Nat → Int64} : (IX G h r v j)[1]? = some [(h 1, .inr (2, [.ref (h 2), .ref (h 3)]))] := rfl
set_option maxRecDepth 20000 in
theorem IX_2 {G : Nat → ClassId} {h : Nat → Nat} {r : Nat → Nat → Nat} {v : Nat → Nat → Int32} {j : Nat → Nat → Int64} : (IX G h r v j)[2]? = some [(h 2, .inl (G 0, 8, .inl (v 2)))] := rfl
set_option maxRecDepth 20000 in
theorem IX_3 {G : Nat → ClassId} {h : Nat → Nat} {r : Nat → Nat → Nat} {v : Nat → Nat → Int32} {j : Nat → Nat → Int64} : (IX G h r v j)[3]? = some [(h 3, .inl (G 0, 8, .inl (v 3)))] := rfl
set_option maxRecDepth 20000 in
theorem IX_4 {G : Nat → ClassId} {h : Nat → Nat} {r : Nat → Nat → Nat} {v : Nat → Nat → Int32} {j : Nat → Nat → Int64} : (IX G h r v j)[4]? = some [(h 4, .inr (3, [.int (v 4 0), .ref (h 5), .int (v 4 2), .ref (h 6), .ref (h 7), .ref (h 8)]))] := rfl
set_option maxRecDepth 20000 in
theorem IX_5 {G : Nat → ClassId} {h : Nat → Nat} {r : Nat → Nat → Nat} {v : Nat → Nat → Int32} {j : Nat → Nat → Int64} : (IX G h r v j)[5]? = some [(h 5, .inl (G 0, 16, .inl (v 5)))] := rfl
set_option maxRecDepth 20000 in
theorem IX_6 {G : Nat → ClassId} {h : Nat → Nat} {r : Nat → Nat → Nat} {v : Nat → Nat → Int32} {j : Nat → Nat → Int64} : (IX G h r v j)[6]? = some [(h 6, .inl (G 0, 32, .inl (v 6)))] := rfl
set_option maxRecDepth 20000 in
theorem IX_7 {G : Nat → ClassId} {h : Nat → Nat} {r : Nat → Nat → Nat} {v : Nat → Nat → Int32} {j : Nat → Nat → Int64} : (IX G h r v j)[7]? = some [(h 7, .inl (G 0, 32, .inl (v 7)))] := rfl
set_option maxRecDepth 20000 in
theorem IX_8 {G : Nat → ClassId} {h : Nat → Nat} {r : Nat → Nat → Nat} {v : Nat → Nat → Int32} {j : Nat → Nat → Int64} : (IX G h r v j)[8]? = some [(h 8, .inl (G 0, 32, .inl (v 8)))] := rfl
set_option maxRecDepth 20000 in
theorem IX_9 {G : Nat → ClassId} {h : Nat → Nat} {r : Nat → Nat → Nat} {v : Nat → Nat → Int32} {j : Nat → Nat → Int64} : (IX G h r v j)[9]? = some [(h 9, .inr (8, [.int (v 9 0), .ref (h 10), .ref (h 11)]))] := rfl
set_option maxRecDepth 20000 in
theorem IX_10 {G : Nat → ClassId} {h : Nat → Nat} {r : Nat → Nat → Nat} {v : Nat → Nat → Int32} {j : Nat → Nat → Int64} : (IX G h r v j)[10]? = some [(h 10, .inl (G 0, 6, .inl (v 10)))] := rfl
set_option maxRecDepth 20000 in
theorem IX_11 {G : Nat → ClassId} {h : Nat → Nat} {r : Nat → Nat → Nat} {v : Nat → Nat → Int32} {j : Nat → Nat → Int64} : (IX G h r v j)[11]? = some [(h 11, .inl (G 0, 6, .inl (v 11)))] := rfl
set_option maxRecDepth 20000 in
theorem IX_12 {G : Nat → ClassId} {h : Nat → Nat} {r : Nat → Nat → Nat} {v : Nat → Nat → Int32} {j : Nat → Nat → Int64} : (IX G h r v j)[12]? = some [(h 12, .inr (2, [.ref (h 13), .ref (h 14)]))] := rfl
set_option maxRecDepth 20000 in
theorem IX_13 {G : Nat → ClassId} {h : Nat → Nat} {r : Nat → Nat → Nat} {v : Nat → Nat → Int32} {j : Nat → Nat → Int64} : (IX G h r v j)[13]? = some [(h 13, .inl (G 0, 8, .inl (v 13)))] := rfl
set_option maxRecDepth 20000 in
theorem IX_14 {G : Nat → ClassId} {h : Nat → Nat} {r : Nat → Nat → Nat} {v : Nat → Nat → Int32} {j : Nat → Nat → Int64} : (IX G h r v j)[14]? = some [(h 14, .inl (G 0, 8, .inl (v 14)))] := rfl
set_option maxRecDepth 20000 in
theorem IX_15 {G : Nat → ClassId} {h : Nat → Nat} {r : Nat → Nat → Nat} {v : Nat → Nat → Int32} {j : Nat → Nat → Int64} : (IX G h r v j)[15]? = some [(h 15, .inr (3, [.int (v 15 0), .ref (h 16), .int (v 15 2), .ref (h 17), .ref (h 18), .ref (h 19)]))] := rfl
set_option maxRecDepth 20000 in
theorem IX_16 {G : Nat → ClassId} {h : Nat → Nat} {r : Nat → Nat → Nat} {v : Nat → Nat → Int32} {j : Nat → Nat → Int64} : (IX G h r v j)[16]? = some [(h 16, .inl (G 0, 16, .inl (v 16)))] := rfl
set_option maxRecDepth 20000 in
theorem IX_17 {G : Nat → ClassId} {h : Nat → Nat} {r : Nat → Nat → Nat} {v : Nat → Nat → Int32} {j : Nat → Nat → Int64} : (IX G h r v j)[17]? = some [(h 17, .inl (G 0, 32, .inl (v 17)))] := rfl
set_option maxRecDepth 20000 in
theorem IX_18 {G : Nat → ClassId} {h : Nat → Nat} {r : Nat → Nat → Nat} {v : Nat → Nat → Int32} {j : Nat → Nat → Int64} : (IX G h r v j)[18]? = some [(h 18, .inl (G 0, 32, .inl (v 18)))] := rfl
set_option maxRecDepth 20000 in
theorem IX_19 {G : Nat → ClassId} {h : Nat → Nat} {r : Nat → Nat → Nat} {v : Nat → Nat → Int32} {j : Nat → Nat → Int64} : (IX G h r v j)[19]? = some [(h 19, .inl (G 0, 32, .inl (v 19)))] := rfl
set_option maxRecDepth 20000 in
theorem IX_20 {G : Nat → ClassId} {h : Nat → Nat} {r : Nat → Nat → Nat} {v : Nat → Nat → Int32} {j : Nat → Nat → Int64} : (IX G h r v j)[20]? = some [(h 20, .inr (8, [.int (v 20 0), .ref (h 21), .ref (h 22)]))] := rfl
set_option maxRecDepth 20000 in
theorem IX_21 {G : Nat → ClassId} {h : Nat → Nat} {r : Nat → Nat → Nat} {v : Nat → Nat → Int32} {j : Nat → Nat → Int64} : (IX G h r v j)[21]? = some [(h 21, .inl (G 0, 6, .inl (v 21)))] := rfl
set_option maxRecDepth 20000 in
theorem IX_22 {G : Nat → ClassId} {h : Nat → Nat} {r : Nat → Nat → Nat} {v : Nat → Nat → Int32} {j : Nat → Nat → Int64} : (IX G h r v j)[22]? = some [(h 22, .inl (G 0, 6, .inl (v 22)))] := rfl
set_option maxRecDepth 20000 in
theorem IX_23 {G : Nat → ClassId} {h : Nat → Nat} {r : Nat → Nat → Nat} {v : Nat → Nat → Int32} {j : Nat → Nat → Int64} : (IX G h r v j)[23]? = some [(h 23, .inr (7, [.int (v 23 0), .ref (h 24), .ref (h 25)]))] := rfl
set_option maxRecDepth 20000 in
theorem IX_24 {G : Nat → ClassId} {h : Nat → Nat} {r : Nat → Nat → Nat} {v : Nat → Nat → Int32} {j : Nat → Nat → Int64} : (IX G h r v j)[24]? = some [(h 24, .inl (G 0, 496, .inl (v 24)))] := rfl
set_option maxRecDepth 20000 in
theorem IX_25 {G : Nat → ClassId} {h : Nat → Nat} {r : Nat → Nat → Nat} {v : Nat → Nat → Int32} {j : Nat → Nat → Int64} : (IX G h r v j)[25]? = some [(h 25, .inl (G 0, 496, .inl (v 25)))] := rfl
set_option maxRecDepth 20000 in
theorem IX_26 {G : Nat → ClassId} {h : Nat → Nat} {r : Nat → Nat → Nat} {v : Nat → Nat → Int32} {j : Nat → Nat → Int64} : (IX G h r v j)[26]? = some [(h 26, .inr (9, [.int (v 26 0), .int (v 26 1), .int (v 26 2), .int (v 26 3), .ref (h 27), .ref (h 28), .ref (h 29), .ref (h 30), .ref (h 31), .ref (h 32)]))] := rfl
set_option maxRecDepth 20000 in
theorem IX_27 {G : Nat → ClassId} {h : Nat → Nat} {r : Nat → Nat → Nat} {v : Nat → Nat → Int32} {j : Nat → Nat → Int64} : (IX G h r v j)[27]? = some [(h 27, .inl (G 0, 32, .inl (v 27)))] := rfl
set_option maxRecDepth 20000 in
theorem IX_28 {G : Nat → ClassId} {h : Nat → Nat} {r : Nat → Nat → Nat} {v : Nat → Nat → Int32} {j : Nat → Nat → Int64} : (IX G h r v j)[28]? = some [(h 28, .inl (G 0, 32, .inl (v 28)))] := rfl
set_option maxRecDepth 20000 in
theorem IX_29 {G : Nat → ClassId} {h : Nat → Nat} {r : Nat → Nat → Nat} {v : Nat → Nat → Int32} {j : Nat → Nat → Int64} : (IX G h r v j)[29]? = some [(h 29, .inl (G 0, 32, .inl (v 29)))] := rfl
set_option maxRecDepth 20000 in
theorem IX_30 {G : Nat → ClassId} {h : Nat → Nat} {r : Nat → Nat → Nat} {v : Nat → Nat → Int32} {j : Nat → Nat → Int64} : (IX G h r v j)[30]? = some [(h 30, .inl (G 0, 32, .inl (v 30)))] := rfl
set_option maxRecDepth 20000 in
theorem IX_31 {G : Nat → ClassId} {h : Nat → Nat} {r : Nat → Nat → Nat} {v : Nat → Nat → Int32} {j : Nat → Nat → Int64} : (IX G h r v j)[31]? = some [(h 31, .inl (G 0, 32, .inl (v 31)))] := rfl
set_option maxRecDepth 20000 in
theorem IX_32 {G : Nat → ClassId} {h : Nat → Nat} {r : Nat → Nat → Nat} {v : Nat → Nat → Int32} {j : Nat → Nat → Int64} : (IX G h r v j)[32]? = some [(h 32, .inl (G 0, 16, .inl (v 32)))] := rfl
set_option maxRecDepth 20000 in
theorem IX_33 {G : Nat → ClassId} {h : Nat → Nat} {r : Nat → Nat → Nat} {v : Nat → Nat → Int32} {j : Nat → Nat → Int64} : (IX G h r v j)[33]? = some [(h 33, .inr (9, [.int (v 33 0), .int (v 33 1), .int (v 33 2), .int (v 33 3), .ref (h 34), .ref (h 35), .ref (h 36), .ref (h 37), .ref (h 38), .ref (h 39)]))] := rfl
set_option maxRecDepth 20000 in
theorem IX_34 {G : Nat → ClassId} {h : Nat → Nat} {r : Nat → Nat → Nat} {v : Nat → Nat → Int32} {j : Nat → Nat → Int64} : (IX G h r v j)[34]? = some [(h 34, .inl (G 0, 32, .inl (v 34)))] := rfl
set_option maxRecDepth 20000 in
theorem IX_35 {G : Nat → ClassId} {h : Nat → Nat} {r : Nat → Nat → Nat} {v : Nat → Nat → Int32} {j : Nat → Nat → Int64} : (IX G h r v j)[35]? = some [(h 35, .inl (G 0, 32, .inl (v 35)))] := rfl
set_option maxRecDepth 20000 in
theorem IX_36 {G : Nat → ClassId} {h : Nat → Nat} {r : Nat → Nat → Nat} {v : Nat → Nat → Int32} {j : Nat → Nat → Int64} : (IX G h r v j)[36]? = some [(h 36, .inl (G 0, 32, .inl (v 36)))] := rfl
set_option maxRecDepth 20000 in
theorem IX_37 {G : Nat → ClassId} {h : Nat → Nat} {r : Nat → Nat → Nat} {v : Nat → Nat → Int32} {j : Nat → Nat → Int64} : (IX G h r v j)[37]? = some [(h 37, .inl (G 0, 32, .inl (v 37)))] := rfl
set_option maxRecDepth 20000 in
theorem IX_38 {G : Nat → ClassId} {h : Nat → Nat} {r : Nat → Nat → Nat} {v : Nat → Nat → Int32} {j : Nat → Nat → Int64} : (IX G h r v j)[38]? = some [(h 38, .inl (G 0, 32, .inl (v 38)))] := rfl
set_option maxRecDepth 20000 in
theorem IX_39 {G : Nat → ClassId} {h : Nat → Nat} {r : Nat → Nat → Nat} {v : Nat → Nat → Int32} {j : Nat → Nat → Int64} : (IX G h r v j)[39]? = some [(h 39, .inl (G 0, 16, .inl (v 39)))] := rfl
set_option maxRecDepth 20000 in
theorem IX_40 {G : Nat → ClassId} {h : Nat → Nat} {r : Nat → Nat → Nat} {v : Nat → Nat → Int32} {j : Nat → Nat → Int64} : (IX G h r v j)[40]? = some [(h 40, .inr (6, [.int (v 40 0), .ref (h 41)]))] := rfl
set_option maxRecDepth 20000 in
theorem IX_41 {G : Nat → ClassId} {h : Nat → Nat} {r : Nat → Nat → Nat} {v : Nat → Nat → Int32} {j : Nat → Nat → Int64} : (IX G h r v j)[41]? = some [(h 41, .inl (G 3, 202, .inl (v 41)))] := rfl
set_option maxRecDepth 20000 in
theorem IX_42 {G : Nat → ClassId} {h : Nat → Nat} {r : Nat → Nat → Nat} {v : Nat → Nat → Int32} {j : Nat → Nat → Int64} : (IX G h r v j)[42]? = some [(h 42, .inr (4, [.ref (h 43), .ref (h 48), .ref (h 51), .ref (h 54), .int (v 42 4)]))] := rfl
set_option maxRecDepth 20000 in
theorem IX_43 {G : Nat → ClassId} {h : Nat → Nat} {r : Nat → Nat → Nat} {v : Nat → Nat → Int32} {j : Nat → Nat → Int64} : (IX G h r v j)[43]? = some [(h 43, .inr (3, [.int (v 43 0), .ref (h 44), .int (v 43 2), .ref (h 45), .ref (h 46), .ref (h 47)]))] := rfl
set_option maxRecDepth 20000 in
theorem IX_44 {G : Nat → ClassId} {h : Nat → Nat} {r : Nat → Nat → Nat} {v : Nat → Nat → Int32} {j : Nat → Nat → Int64} : (IX G h r v j)[44]? = some [(h 44, .inl (G 0, 16, .inl (v 44)))] := rfl
set_option maxRecDepth 20000 in
theorem IX_45 {G : Nat → ClassId} {h : Nat → Nat} {r : Nat → Nat → Nat} {v : Nat → Nat → Int32} {j : Nat → Nat → Int64} : (IX G h r v j)[45]? = some [(h 45, .inl (G 0, 32, .inl (v 45)))] := rfl
set_option maxRecDepth 20000 in
theorem IX_46 {G : Nat → ClassId} {h : Nat → Nat} {r : Nat → Nat → Nat} {v : Nat → Nat → Int32} {j : Nat → Nat → Int64} : (IX G h r v j)[46]? = some [(h 46, .inl (G 0, 32, .inl (v 46)))] := rfl
set_option maxRecDepth 20000 in
theorem IX_47 {G : Nat → ClassId} {h : Nat → Nat} {r : Nat → Nat → Nat} {v : Nat → Nat → Int32} {j : Nat → Nat → Int64} : (IX G h r v j)[47]? = some [(h 47, .inl (G 0, 32, .inl (v 47)))] := rfl
set_option maxRecDepth 20000 in
theorem IX_48 {G : Nat → ClassId} {h : Nat → Nat} {r : Nat → Nat → Nat} {v : Nat → Nat → Int32} {j : Nat → Nat → Int64} : (IX G h r v j)[48]? = some [(h 48, .inr (2, [.ref (h 49), .ref (h 50)]))] := rfl
set_option maxRecDepth 20000 in
theorem IX_49 {G : Nat → ClassId} {h : Nat → Nat} {r : Nat → Nat → Nat} {v : Nat → Nat → Int32} {j : Nat → Nat → Int64} : (IX G h r v j)[49]? = some [(h 49, .inl (G 0, 8, .inl (v 49)))] := rfl
set_option maxRecDepth 20000 in
theorem IX_50 {G : Nat → ClassId} {h : Nat → Nat} {r : Nat → Nat → Nat} {v : Nat → Nat → Int32} {j : Nat → Nat → Int64} : (IX G h r v j)[50]? = some [(h 50, .inl (G 0, 8, .inl (v 50)))] := rfl
set_option maxRecDepth 20000 in
theorem IX_51 {G : Nat → ClassId} {h : Nat → Nat} {r : Nat → Nat → Nat} {v : Nat → Nat → Int32} {j : Nat → Nat → Int64} : (IX G h r v j)[51]? = some [(h 51, .inr (7, [.int (v 51 0), .ref (h 52), .ref (h 53)]))] := rfl
set_option maxRecDepth 20000 in
theorem IX_52 {G : Nat → ClassId} {h : Nat → Nat} {r : Nat → Nat → Nat} {v : Nat → Nat → Int32} {j : Nat → Nat → Int64} : (IX G h r v j)[52]? = some [(h 52, .inl (G 0, 496, .inl (v 52)))] := rfl
set_option maxRecDepth 20000 in
theorem IX_53 {G : Nat → ClassId} {h : Nat → Nat} {r : Nat → Nat → Nat} {v : Nat → Nat → Int32} {j : Nat → Nat → Int64} : (IX G h r v j)[53]? = some [(h 53, .inl (G 0, 496, .inl (v 53)))] := rfl
set_option maxRecDepth 20000 in
theorem IX_54 {G : Nat → ClassId} {h : Nat → Nat} {r : Nat → Nat → Nat} {v : Nat → Nat → Int32} {j : Nat → Nat → Int64} : (IX G h r v j)[54]? = some [(h 54, .inl (G 0, 8, .inl (v 54)))] := rfl
set_option maxRecDepth 20000 in
theorem IX_55 {G : Nat → ClassId} {h : Nat → Nat} {r : Nat → Nat → Nat} {v : Nat → Nat → Int32} {j : Nat → Nat → Int64} : (IX G h r v j)[55]? = some [(h 55, .inr (1, [.int (v 55 0), .ref (h 56)]))] := rfl
set_option maxRecDepth 20000 in
theorem IX_56 {G : Nat → ClassId} {h : Nat → Nat} {r : Nat → Nat → Nat} {v : Nat → Nat → Int32} {j : Nat → Nat → Int64} : (IX G h r v j)[56]? = some [(h 56, .inl (G 0, 20, .inl (v 56)))] := rfl
set_option maxRecDepth 20000 in
theorem IX_57 {G : Nat → ClassId} {h : Nat → Nat} {r : Nat → Nat → Nat} {v : Nat → Nat → Int32} {j : Nat → Nat → Int64} : (IX G h r v j)[57]? = some [(h 57, .inr (0, [.ref (h 58), .int (v 57 1), .int (v 57 2), .int (v 57 3)]))] := rfl
set_option maxRecDepth 20000 in
theorem IX_58 {G : Nat → ClassId} {h : Nat → Nat} {r : Nat → Nat → Nat} {v : Nat → Nat → Int32} {j : Nat → Nat → Int64} : (IX G h r v j)[58]? = some [(h 58, .inr (3, [.int (v 58 0), .ref (h 59), .int (v 58 2), .ref (h 60), .ref (h 61), .ref (h 62)]))] := rfl
set_option maxRecDepth 20000 in
theorem IX_59 {G : Nat → ClassId} {h : Nat → Nat} {r : Nat → Nat → Nat} {v : Nat → Nat → Int32} {j : Nat → Nat → Int64} : (IX G h r v j)[59]? = some [(h 59, .inl (G 0, 16, .inl (v 59)))] := rfl
set_option maxRecDepth 20000 in
theorem IX_60 {G : Nat → ClassId} {h : Nat → Nat} {r : Nat → Nat → Nat} {v : Nat → Nat → Int32} {j : Nat → Nat → Int64} : (IX G h r v j)[60]? = some [(h 60, .inl (G 0, 32, .inl (v 60)))] := rfl
set_option maxRecDepth 20000 in
theorem IX_61 {G : Nat → ClassId} {h : Nat → Nat} {r : Nat → Nat → Nat} {v : Nat → Nat → Int32} {j : Nat → Nat → Int64} : (IX G h r v j)[61]? = some [(h 61, .inl (G 0, 32, .inl (v 61)))] := rfl
set_option maxRecDepth 20000 in
theorem IX_62 {G : Nat → ClassId} {h : Nat → Nat} {r : Nat → Nat → Nat} {v : Nat → Nat → Int32} {j : Nat → Nat → Int64} : (IX G h r v j)[62]? = some [(h 62, .inl (G 0, 32, .inl (v 62)))] := rfl
set_option maxRecDepth 20000 in
theorem IX_63 {G : Nat → ClassId} {h : Nat → Nat} {r : Nat → Nat → Nat} {v : Nat → Nat → Int32} {j : Nat → Nat → Int64} : (IX G h r v j)[63]? = some [(h 63, .inr (5, [.ref (h 64), .ref (h 65)]))] := rfl
set_option maxRecDepth 20000 in
theorem IX_64 {G : Nat → ClassId} {h : Nat → Nat} {r : Nat → Nat → Nat} {v : Nat → Nat → Int32} {j : Nat → Nat → Int64} : (IX G h r v j)[64]? = some [(h 64, .inl (G 0, 3, .inl (v 64)))] := rfl
set_option maxRecDepth 20000 in
theorem IX_65 {G : Nat → ClassId} {h : Nat → Nat} {r : Nat → Nat → Nat} {v : Nat → Nat → Int32} {j : Nat → Nat → Int64} : (IX G h r v j)[65]? = some [gO (G 5) (h 65) (r 65) 3] := rfl
set_option maxRecDepth 20000 in
theorem IX_66 {G : Nat → ClassId} {h : Nat → Nat} {r : Nat → Nat → Nat} {v : Nat → Nat → Int32} {j : Nat → Nat → Int64} : (IX G h r v j)[66]? = some (gJ (G 1) (r 65) 3 16 j) := rfl
set_option maxRecDepth 20000 in
theorem IX_67 {G : Nat → ClassId} {h : Nat → Nat} {r : Nat → Nat → Nat} {v : Nat → Nat → Int32} {j : Nat → Nat → Int64} : (IX G h r v j)[67]? = some [(h 67, .inl (G 0, 16, .inl (v 67)))] := rfl
set_option maxRecDepth 20000 in
theorem IX_c {G : Nat → ClassId} {h : Nat → Nat} {r : Nat → Nat → Nat} {v : Nat → Nat → Int32} {j : Nat → Nat → Int64} {v' : Nat → Nat → Int32} {j' : Nat → Nat → Int64} {ps : List Nat} (hv : ∀ k, k ∉ ps → v' k = v k) (hj : 66 ∉ ps → j' = j) : ∀ k, k ∉ ps → (IX G h r v' j')[k]? = (IX G h r v j)[k]? := by
  have key : ∀ k, 0 + k ∉ ps → (IX G h r v' j')[k]? = (IX G h r v j)[k]? := by
   unfold IX
   exact q_cons (n := 0) (fun h_ => congrArg (fun (z : Nat → Int32) => ([(h 0, .inr (10, [.ref (h 1), .ref (h 4), .ref (h 9), .ref (h 12), .ref (h 15), .ref (h 20), .int (z 6), .ref (h 23), .ref (h 26), .ref (h 33), .ref (h 40), .ref (h 42), .ref (h 55), .ref (h 57), .ref (h 63), .ref (h 67)]))] : va_W)) (hv 0 h_))
    (q_cons (n := 1) (fun _ => rfl)
    (q_cons (n := 2) (fun h_ => congrArg (fun (z : Nat → Int32) => ([(h 2, .inl (G 0, 8, .inl z))] : va_W)) (hv 2 h_))
    (q_cons (n := 3) (fun h_ => congrArg (fun (z : Nat → Int32) => ([(h 3, .inl (G 0, 8, .inl z))] : va_W)) (hv 3 h_))
    (q_cons (n := 4) (fun h_ => congrArg (fun (z : Nat → Int32) => ([(h 4, .inr (3, [.int (z 0), .ref (h 5), .int (z 2), .ref (h 6), .ref (h 7), .ref (h 8)]))] : va_W)) (hv 4 h_))
    (q_cons (n := 5) (fun h_ => congrArg (fun (z : Nat → Int32) => ([(h 5, .inl (G 0, 16, .inl z))] : va_W)) (hv 5 h_))
    (q_cons (n := 6) (fun h_ => congrArg (fun (z : Nat → Int32) => ([(h 6, .inl (G 0, 32, .inl z))] : va_W)) (hv 6 h_))
    (q_cons (n := 7) (fun h_ => congrArg (fun (z : Nat → Int32) => ([(h 7, .inl (G 0, 32, .inl z))] : va_W)) (hv 7 h_))
    (q_cons (n := 8) (fun h_ => congrArg (fun (z : Nat → Int32) => ([(h 8, .inl (G 0, 32, .inl z))] : va_W)) (hv 8 h_))
    (q_cons (n := 9) (fun h_ => congrArg (fun (z : Nat → Int32) => ([(h 9, .inr (8, [.int (z 0), .ref (h 10), .ref (h 11)]))] : va_W)) (hv 9 h_))
    (q_cons (n := 10) (fun h_ => congrArg (fun (z : Nat → Int32) => ([(h 10, .inl (G 0, 6, .inl z))] : va_W)) (hv 10 h_))
    (q_cons (n := 11) (fun h_ => congrArg (fun (z : Nat → Int32) => ([(h 11, .inl (G 0, 6, .inl z))] : va_W)) (hv 11 h_))
    (q_cons (n := 12) (fun _ => rfl)
    (q_cons (n := 13) (fun h_ => congrArg (fun (z : Nat → Int32) => ([(h 13, .inl (G 0, 8, .inl z))] : va_W)) (hv 13 h_))
    (q_cons (n := 14) (fun h_ => congrArg (fun (z : Nat → Int32) => ([(h 14, .inl (G 0, 8, .inl z))] : va_W)) (hv 14 h_))
    (q_cons (n := 15) (fun h_ => congrArg (fun (z : Nat → Int32) => ([(h 15, .inr (3, [.int (z 0), .ref (h 16), .int (z 2), .ref (h 17), .ref (h 18), .ref (h 19)]))] : va_W)) (hv 15 h_))
    (q_cons (n := 16) (fun h_ => congrArg (fun (z : Nat → Int32) => ([(h 16, .inl (G 0, 16, .inl z))] : va_W)) (hv 16 h_))
    (q_cons (n := 17) (fun h_ => congrArg (fun (z : Nat → Int32) => ([(h 17, .inl (G 0, 32, .inl z))] : va_W)) (hv 17 h_))
    (q_cons (n := 18) (fun h_ => congrArg (fun (z : Nat → Int32) => ([(h 18, .inl (G 0, 32, .inl z))] : va_W)) (hv 18 h_))
    (q_cons (n := 19) (fun h_ => congrArg (fun (z : Nat → Int32) => ([(h 19, .inl (G 0, 32, .inl z))] : va_W)) (hv 19 h_))
    (q_cons (n := 20) (fun h_ => congrArg (fun (z : Nat → Int32) => ([(h 20, .inr (8, [.int (z 0), .ref (h 21), .ref (h 22)]))] : va_W)) (hv 20 h_))
    (q_cons (n := 21) (fun h_ => congrArg (fun (z : Nat → Int32) => ([(h 21, .inl (G 0, 6, .inl z))] : va_W)) (hv 21 h_))
    (q_cons (n := 22) (fun h_ => congrArg (fun (z : Nat → Int32) => ([(h 22, .inl (G 0, 6, .inl z))] : va_W)) (hv 22 h_))
    (q_cons (n := 23) (fun h_ => congrArg (fun (z : Nat → Int32) => ([(h 23, .inr (7, [.int (z 0), .ref (h 24), .ref (h 25)]))] : va_W)) (hv 23 h_))
    (q_cons (n := 24) (fun h_ => congrArg (fun (z : Nat → Int32) => ([(h 24, .inl (G 0, 496, .inl z))] : va_W)) (hv 24 h_))
    (q_cons (n := 25) (fun h_ => congrArg (fun (z : Nat → Int32) => ([(h 25, .inl (G 0, 496, .inl z))] : va_W)) (hv 25 h_))
    (q_cons (n := 26) (fun h_ => congrArg (fun (z : Nat → Int32) => ([(h 26, .inr (9, [.int (z 0), .int (z 1), .int (z 2), .int (z 3), .ref (h 27), .ref (h 28), .ref (h 29), .ref (h 30), .ref (h 31), .ref (h 32)]))] : va_W)) (hv 26 h_))
    (q_cons (n := 27) (fun h_ => congrArg (fun (z : Nat → Int32) => ([(h 27, .inl (G 0, 32, .inl z))] : va_W)) (hv 27 h_))
    (q_cons (n := 28) (fun h_ => congrArg (fun (z : Nat → Int32) => ([(h 28, .inl (G 0, 32, .inl z))] : va_W)) (hv 28 h_))
    (q_cons (n := 29) (fun h_ => congrArg (fun (z : Nat → Int32) => ([(h 29, .inl (G 0, 32, .inl z))] : va_W)) (hv 29 h_))
    (q_cons (n := 30) (fun h_ => congrArg (fun (z : Nat → Int32) => ([(h 30, .inl (G 0, 32, .inl z))] : va_W)) (hv 30 h_))
    (q_cons (n := 31) (fun h_ => congrArg (fun (z : Nat → Int32) => ([(h 31, .inl (G 0, 32, .inl z))] : va_W)) (hv 31 h_))
    (q_cons (n := 32) (fun h_ => congrArg (fun (z : Nat → Int32) => ([(h 32, .inl (G 0, 16, .inl z))] : va_W)) (hv 32 h_))
    (q_cons (n := 33) (fun h_ => congrArg (fun (z : Nat → Int32) => ([(h 33, .inr (9, [.int (z 0), .int (z 1), .int (z 2), .int (z 3), .ref (h 34), .ref (h 35), .ref (h 36), .ref (h 37), .ref (h 38), .ref (h 39)]))] : va_W)) (hv 33 h_))
    (q_cons (n := 34) (fun h_ => congrArg (fun (z : Nat → Int32) => ([(h 34, .inl (G 0, 32, .inl z))] : va_W)) (hv 34 h_))
    (q_cons (n := 35) (fun h_ => congrArg (fun (z : Nat → Int32) => ([(h 35, .inl (G 0, 32, .inl z))] : va_W)) (hv 35 h_))
    (q_cons (n := 36) (fun h_ => congrArg (fun (z : Nat → Int32) => ([(h 36, .inl (G 0, 32, .inl z))] : va_W)) (hv 36 h_))
    (q_cons (n := 37) (fun h_ => congrArg (fun (z : Nat → Int32) => ([(h 37, .inl (G 0, 32, .inl z))] : va_W)) (hv 37 h_))
    (q_cons (n := 38) (fun h_ => congrArg (fun (z : Nat → Int32) => ([(h 38, .inl (G 0, 32, .inl z))] : va_W)) (hv 38 h_))
    (q_cons (n := 39) (fun h_ => congrArg (fun (z : Nat → Int32) => ([(h 39, .inl (G 0, 16, .inl z))] : va_W)) (hv 39 h_))
    (q_cons (n := 40) (fun h_ => congrArg (fun (z : Nat → Int32) => ([(h 40, .inr (6, [.int (z 0), .ref (h 41)]))] : va_W)) (hv 40 h_))
    (q_cons (n := 41) (fun h_ => congrArg (fun (z : Nat → Int32) => ([(h 41, .inl (G 3, 202, .inl z))] : va_W)) (hv 41 h_))
    (q_cons (n := 42) (fun h_ => congrArg (fun (z : Nat → Int32) => ([(h 42, .inr (4, [.ref (h 43), .ref (h 48), .ref (h 51), .ref (h 54), .int (z 4)]))] : va_W)) (hv 42 h_))
    (q_cons (n := 43) (fun h_ => congrArg (fun (z : Nat → Int32) => ([(h 43, .inr (3, [.int (z 0), .ref (h 44), .int (z 2), .ref (h 45), .ref (h 46), .ref (h 47)]))] : va_W)) (hv 43 h_))
    (q_cons (n := 44) (fun h_ => congrArg (fun (z : Nat → Int32) => ([(h 44, .inl (G 0, 16, .inl z))] : va_W)) (hv 44 h_))
    (q_cons (n := 45) (fun h_ => congrArg (fun (z : Nat → Int32) => ([(h 45, .inl (G 0, 32, .inl z))] : va_W)) (hv 45 h_))
    (q_cons (n := 46) (fun h_ => congrArg (fun (z : Nat → Int32) => ([(h 46, .inl (G 0, 32, .inl z))] : va_W)) (hv 46 h_))
    (q_cons (n := 47) (fun h_ => congrArg (fun (z : Nat → Int32) => ([(h 47, .inl (G 0, 32, .inl z))] : va_W)) (hv 47 h_))
    (q_cons (n := 48) (fun _ => rfl)
    (q_cons (n := 49) (fun h_ => congrArg (fun (z : Nat → Int32) => ([(h 49, .inl (G 0, 8, .inl z))] : va_W)) (hv 49 h_))
    (q_cons (n := 50) (fun h_ => congrArg (fun (z : Nat → Int32) => ([(h 50, .inl (G 0, 8, .inl z))] : va_W)) (hv 50 h_))
    (q_cons (n := 51) (fun h_ => congrArg (fun (z : Nat → Int32) => ([(h 51, .inr (7, [.int (z 0), .ref (h 52), .ref (h 53)]))] : va_W)) (hv 51 h_))
    (q_cons (n := 52) (fun h_ => congrArg (fun (z : Nat → Int32) => ([(h 52, .inl (G 0, 496, .inl z))] : va_W)) (hv 52 h_))
    (q_cons (n := 53) (fun h_ => congrArg (fun (z : Nat → Int32) => ([(h 53, .inl (G 0, 496, .inl z))] : va_W)) (hv 53 h_))
    (q_cons (n := 54) (fun h_ => congrArg (fun (z : Nat → Int32) => ([(h 54, .inl (G 0, 8, .inl z))] : va_W)) (hv 54 h_))
    (q_cons (n := 55) (fun h_ => congrArg (fun (z : Nat → Int32) => ([(h 55, .inr (1, [.int (z 0), .ref (h 56)]))] : va_W)) (hv 55 h_))
    (q_cons (n := 56) (fun h_ => congrArg (fun (z : Nat → Int32) => ([(h 56, .inl (G 0, 20, .inl z))] : va_W)) (hv 56 h_))
    (q_cons (n := 57) (fun h_ => congrArg (fun (z : Nat → Int32) => ([(h 57, .inr (0, [.ref (h 58), .int (z 1), .int (z 2), .int (z 3)]))] : va_W)) (hv 57 h_))
    (q_cons (n := 58) (fun h_ => congrArg (fun (z : Nat → Int32) => ([(h 58, .inr (3, [.int (z 0), .ref (h 59), .int (z 2), .ref (h 60), .ref (h 61), .ref (h 62)]))] : va_W)) (hv 58 h_))
    (q_cons (n := 59) (fun h_ => congrArg (fun (z : Nat → Int32) => ([(h 59, .inl (G 0, 16, .inl z))] : va_W)) (hv 59 h_))
    (q_cons (n := 60) (fun h_ => congrArg (fun (z : Nat → Int32) => ([(h 60, .inl (G 0, 32, .inl z))] : va_W)) (hv 60 h_))
    (q_cons (n := 61) (fun h_ => congrArg (fun (z : Nat → Int32) => ([(h 61, .inl (G 0, 32, .inl z))] : va_W)) (hv 61 h_))
    (q_cons (n := 62) (fun h_ => congrArg (fun (z : Nat → Int32) => ([(h 62, .inl (G 0, 32, .inl z))] : va_W)) (hv 62 h_))
    (q_cons (n := 63) (fun _ => rfl)
    (q_cons (n := 64) (fun h_ => congrArg (fun (z : Nat → Int32) => ([(h 64, .inl (G 0, 3, .inl z))] : va_W)) (hv 64 h_))
    (q_cons (n := 65) (fun _ => rfl)
    (q_cons (n := 66) (fun h => congrArg (fun (z : Nat → Nat → Int64) => gJ (G 1) (r 65) 3 16 z) (hj h))
    (q_cons (n := 67) (fun h_ => congrArg (fun (z : Nat → Int32) => ([(h 67, .inl (G 0, 16, .inl z))] : va_W)) (hv 67 h_))
    (q_nil))))))))))))))))))))))))))))))))))))))))))))))))))))))))))))))))))))
  exact fun k hk => key k (by rw [Nat.zero_add]; exact hk)
set_option maxRecDepth 20000 in
theorem IM_0 {G : Nat → ClassId} {h : Nat → Nat} {r : Nat → Nat → Nat} {v : Nat → Nat → Int32} {t : Nat → Nat → Nat → Int32} {j : Nat → Nat → Int64} : (IM G h r v t j)[0]? = some [(h 0, .inr (11, [.ref (h 1), .ref (h 3), .int (v 0 2), .int (v 0 3), .ref (h 5), .ref (h 6), .ref (h 7), .ref (h 8), .ref (h 9), .ref (h 11), .ref (h 13), .int (v 0 11), .int (v 0 12), .ref (h 14), .ref (h 16), .ref (h 17), .int (v 0 16), .ref (h 18), .int (v 0 18), .ref (h 19), .int (v 0 20), .ref (h 20), .ref (h 21), .ref (h 23), .int (v 0 24), .int (v 0 25), .ref (h 24), .ref (h 26), .int (v 0 28), .int (v 0 29), .ref (h 27), .ref (h 28), .ref (h 30), .ref (h 31), .ref (h 32), .ref (h 33), .int (v 0 36), .ref (h 34), .ref (h 35), .ref (h 36), .int (v 0 40), .int (v 0 41), .int (v 0 42), .int (v 0 43), .ref (h 38), .ref (h 39), .ref (h 40), .ref (h 41), .ref (h 42), .ref (h 43), .ref (h 45), .ref (h 47)]))] := rfl
set_option maxRecDepth 20000 in
theorem IM_1 {G : Nat → ClassId} {h : Nat → Nat} {r : Nat → Nat → Nat} {v : Nat → Nat → Int32} {t : Nat → Nat → Nat → Int32} {j : Nat → Nat → Int64} : (IM G h r v t j)[1]? = some [gO (G 6) (h 1) (r 1) 8] := rfl
set_option maxRecDepth 20000 in
theorem IM_2 {G : Nat → ClassId} {h : Nat → Nat} {r : Nat → Nat → Nat} {v : Nat → Nat → Int32} {t : Nat → Nat → Nat → Int32} {j : Nat → Nat → Int64} : (IM G h r v t j)[2]? = some (gI (G 2) (r 1) 8 8 (t 2)) := rfl
set_option maxRecDepth 20000 in
theorem IM_3 {G : Nat → ClassId} {h : Nat → Nat} {r : Nat → Nat → Nat} {v : Nat → Nat → Int32} {t : Nat → Nat → Nat → Int32} {j : Nat → Nat → Int64} : (IM G h r v t j)[3]? = some [gO (G 6) (h 3) (r 3) 8] := rfl
set_option maxRecDepth 20000 in
theorem IM_4 {G : Nat → ClassId} {h : Nat → Nat} {r : Nat → Nat → Nat} {v : Nat → Nat → Int32} {t : Nat → Nat → Nat → Int32} {j : Nat → Nat → Int64} : (IM G h r v t j)[4]? = some (gI (G 2) (r 3) 8 8 (t 4)) := rfl
set_option maxRecDepth 20000 in
theorem IM_5 {G : Nat → ClassId} {h : Nat → Nat} {r : Nat → Nat → Nat} {v : Nat → Nat → Int32} {t : Nat → Nat → Nat → Int32} {j : Nat → Nat → Int64} : (IM G h r v t j)[5]? = some [(h 5, .inl (G 0, 32, .inl (v 5)))] := rfl
set_option maxRecDepth 20000 in
theorem IM_6 {G : Nat → ClassId} {h : Nat → Nat} {r : Nat → Nat → Nat} {v : Nat → Nat → Int32} {t : Nat → Nat → Nat → Int32} {j : Nat → Nat → Int64} : (IM G h r v t j)[6]? = some [(h 6, .inl (G 0, 32, .inl (v 6)))] := rfl
set_option maxRecDepth 20000 in
theorem IM_7 {G : Nat → ClassId} {h : Nat → Nat} {r : Nat → Nat → Nat} {v : Nat → Nat → Int32} {t : Nat → Nat → Nat → Int32} {j : Nat → Nat → Int64} : (IM G h r v t j)[7]? = some [(h 7, .inl (G 0, 32, .inl (v 7)))] := rfl
set_option maxRecDepth 20000 in
theorem IM_8 {G : Nat → ClassId} {h : Nat → Nat} {r : Nat → Nat → Nat} {v : Nat → Nat → Int32} {t : Nat → Nat → Nat → Int32} {j : Nat → Nat → Int64} : (IM G h r v t j)[8]? = some [(h 8, .inl (G 0, 16, .inl (v 8)))] := rfl
set_option maxRecDepth 20000 in
theorem IM_9 {G : Nat → ClassId} {h : Nat → Nat} {r : Nat → Nat → Nat} {v : Nat → Nat → Int32} {t : Nat → Nat → Nat → Int32} {j : Nat → Nat → Int64} : (IM G h r v t j)[9]? = some [gO (G 4) (h 9) (r 9) 16] := rfl
set_option maxRecDepth 20000 in
theorem IM_10 {G : Nat → ClassId} {h : Nat → Nat} {r : Nat → Nat → Nat} {v : Nat → Nat → Int32} {t : Nat → Nat → Nat → Int32} {j : Nat → Nat → Int64} : (IM G h r v t j)[10]? = some (gI (G 0) (r 9) 16 8 (t 10)) := rfl
set_option maxRecDepth 20000 in
theorem IM_11 {G : Nat → ClassId} {h : Nat → Nat} {r : Nat → Nat → Nat} {v : Nat → Nat → Int32} {t : Nat → Nat → Nat → Int32} {j : Nat → Nat → Int64} : (IM G h r v t j)[11]? = some [gO (G 4) (h 11) (r 11) 16] := rfl
set_option maxRecDepth 20000 in
theorem IM_12 {G : Nat → ClassId} {h : Nat → Nat} {r : Nat → Nat → Nat} {v : Nat → Nat → Int32} {t : Nat → Nat → Nat → Int32} {j : Nat → Nat → Int64} : (IM G h r v t j)[12]? = some (gI (G 0) (r 11) 16 16 (t 12)) := rfl
set_option maxRecDepth 20000 in
theorem IM_13 {G : Nat → ClassId} {h : Nat → Nat} {r : Nat → Nat → Nat} {v : Nat → Nat → Int32} {t : Nat → Nat → Nat → Int32} {j : Nat → Nat → Int64} : (IM G h r v t j)[13]? = some [(h 13, .inl (G 0, 16, .inl (v 13)))] := rfl
set_option maxRecDepth 20000 in
theorem IM_14 {G : Nat → ClassId} {h : Nat → Nat} {r : Nat → Nat → Nat} {v : Nat → Nat → Int32} {t : Nat → Nat → Nat → Int32} {j : Nat → Nat → Int64} : (IM G h r v t j)[14]? = some [gO (G 4) (h 14) (r 14) 2] := rfl
set_option maxRecDepth 20000 in
theorem IM_15 {G : Nat → ClassId} {h : Nat → Nat} {r : Nat → Nat → Nat} {v : Nat → Nat → Int32} {t : Nat → Nat → Nat → Int32} {j : Nat → Nat → Int64} : (IM G h r v t j)[15]? = some (gI (G 0) (r 14) 2 32 (t 15)) := rfl
set_option maxRecDepth 20000 in
theorem IM_16 {G : Nat → ClassId} {h : Nat → Nat} {r : Nat → Nat → Nat} {v : Nat → Nat → Int32} {t : Nat → Nat → Nat → Int32} {j : Nat → Nat → Int64} : (IM G h r v t j)[16]? = some [(h 16, .inl (G 0, 32, .inl (v 16)))] := rfl
set_option maxRecDepth 20000 in
theorem IM_17 {G : Nat → ClassId} {h : Nat → Nat} {r : Nat → Nat → Nat} {v : Nat → Nat → Int32} {t : Nat → Nat → Nat → Int32} {j : Nat → Nat → Int64} : (IM G h r v t j)[17]? = some [(h 17, .inl (G 0, 32, .inl (v 17)))] := rfl
set_option maxRecDepth 20000 in
theorem IM_18 {G : Nat → ClassId} {h : Nat → Nat} {r : Nat → Nat → Nat} {v : Nat → Nat → Int32} {t : Nat → Nat → Nat → Int32} {j : Nat → Nat → Int64} : (IM G h r v t j)[18]? = some [(h 18, .inl (G 0, 400, .inl (v 18)))] := rfl
set_option maxRecDepth 20000 in
theorem IM_19 {G : Nat → ClassId} {h : Nat → Nat} {r : Nat → Nat → Nat} {v : Nat → Nat → Int32} {t : Nat → Nat → Nat → Int32} {j : Nat → Nat → Int64} : (IM G h r v t j)[19]? = some [(h 19, .inl (G 0, 8, .inl (v 19)))] := rfl
set_option maxRecDepth 20000 in
theorem IM_20 {G : Nat → ClassId} {h : Nat → Nat} {r : Nat → Nat → Nat} {v : Nat → Nat → Int32} {t : Nat → Nat → Nat → Int32} {j : Nat → Nat → Int64} : (IM G h r v t j)[20]? = some [(h 20, .inl (G 0, 32, .inl (v 20)))] := rfl
set_option maxRecDepth 20000 in
theorem IM_21 {G : Nat → ClassId} {h : Nat → Nat} {r : Nat → Nat → Nat} {v : Nat → Nat → Int32} {t : Nat → Nat → Nat → Int32} {j : Nat → Nat → Int64} : (IM G h r v t j)[21]? = some [gO (G 6) (h 21) (r 21) 8] := rfl
set_option maxRecDepth 20000 in
theorem IM_22 {G : Nat → ClassId} {h : Nat → Nat} {r : Nat → Nat → Nat} {v : Nat → Nat → Int32} {t : Nat → Nat → Nat → Int32} {j : Nat → Nat → Int64} : (IM G h r v t j)[22]? = some (gI (G 2) (r 21) 8 8 (t 22)) := rfl
set_option maxRecDepth 20000 in
theorem IM_23 {G : Nat → ClassId} {h : Nat → Nat} {r : Nat → Nat → Nat} {v : Nat → Nat → Int32} {t : Nat → Nat → Nat → Int32} {j : Nat → Nat → Int64} : (IM G h r v t j)[23]? = some [(h 23, .inl (G 0, 20, .inl (v 23)))] := rfl
set_option maxRecDepth 20000 in
theorem IM_24 {G : Nat → ClassId} {h : Nat → Nat} {r : Nat → Nat → Nat} {v : Nat → Nat → Int32} {t : Nat → Nat → Nat → Int32} {j : Nat → Nat → Int64} : (IM G h r v t j)[24]? = some [gO (G 4) (h 24) (r 24) 12] := rfl
set_option maxRecDepth 20000 in
theorem IM_25 {G : Nat → ClassId} {h : Nat → Nat} {r : Nat → Nat → Nat} {v : Nat → Nat → Int32} {t : Nat → Nat → Nat → Int32} {j : Nat → Nat → Int64} : (IM G h r v t j)[25]? = some (gI (G 0) (r 24) 12 4 (t 25)) := rfl
set_option maxRecDepth 20000 in
theorem IM_26 {G : Nat → ClassId} {h : Nat → Nat} {r : Nat → Nat → Nat} {v : Nat → Nat → Int32} {t : Nat → Nat → Nat → Int32} {j : Nat → Nat → Int64} : (IM G h r v t j)[26]? = some [(h 26, .inl (G 0, 12, .inl (v 26)))] := rfl
set_option maxRecDepth 20000 in
theorem IM_27 {G : Nat → ClassId} {h : Nat → Nat} {r : Nat → Nat → Nat} {v : Nat → Nat → Int32} {t : Nat → Nat → Nat → Int32} {j : Nat → Nat → Int64} : (IM G h r v t j)[27]? = some [(h 27, .inl (G 0, 16, .inl (v 27)))] := rfl
set_option maxRecDepth 20000 in
theorem IM_28 {G : Nat → ClassId} {h : Nat → Nat} {r : Nat → Nat → Nat} {v : Nat → Nat → Int32} {t : Nat → Nat → Nat → Int32} {j : Nat → Nat → Int64} : (IM G h r v t j)[28]? = some [gO (G 4) (h 28) (r 28) 16] := rfl
set_option maxRecDepth 20000 in
theorem IM_29 {G : Nat → ClassId} {h : Nat → Nat} {r : Nat → Nat → Nat} {v : Nat → Nat → Int32} {t : Nat → Nat → Nat → Int32} {j : Nat → Nat → Int64} : (IM G h r v t j)[29]? = some (gI (G 0) (r 28) 16 8 (t 29)) := rfl
set_option maxRecDepth 20000 in
theorem IM_30 {G : Nat → ClassId} {h : Nat → Nat} {r : Nat → Nat → Nat} {v : Nat → Nat → Int32} {t : Nat → Nat → Nat → Int32} {j : Nat → Nat → Int64} : (IM G h r v t j)[30]? = some [(h 30, .inl (G 0, 32, .inl (v 30)))] := rfl
set_option maxRecDepth 20000 in
theorem IM_31 {G : Nat → ClassId} {h : Nat → Nat} {r : Nat → Nat → Nat} {v : Nat → Nat → Int32} {t : Nat → Nat → Nat → Int32} {j : Nat → Nat → Int64} : (IM G h r v t j)[31]? = some [(h 31, .inl (G 0, 32, .inl (v 31)))] := rfl
set_option maxRecDepth 20000 in
theorem IM_32 {G : Nat → ClassId} {h : Nat → Nat} {r : Nat → Nat → Nat} {v : Nat → Nat → Int32} {t : Nat → Nat → Nat → Int32} {j : Nat → Nat → Int64} : (IM G h r v t j)[32]? = some [(h 32, .inl (G 0, 32, .inl (v 32)))] := rfl
set_option maxRecDepth 20000 in
theorem IM_33 {G : Nat → ClassId} {h : Nat → Nat} {r : Nat → Nat → Nat} {v : Nat → Nat → Int32} {t : Nat → Nat → Nat → Int32} {j : Nat → Nat → Int64} : (IM G h r v t j)[33]? = some [(h 33, .inl (G 0, 16, .inl (v 33)))] := rfl
set_option maxRecDepth 20000 in
theorem IM_34 {G : Nat → ClassId} {h : Nat → Nat} {r : Nat → Nat → Nat} {v : Nat → Nat → Int32} {t : Nat → Nat → Nat → Int32} {j : Nat → Nat → Int64} : (IM G h r v t j)[34]? = some [(h 34, .inl (G 0, 3, .inl (v 34)))] := rfl
set_option maxRecDepth 20000 in
theorem IM_35 {G : Nat → ClassId} {h : Nat → Nat} {r : Nat → Nat → Nat} {v : Nat → Nat → Int32} {t : Nat → Nat → Nat → Int32} {j : Nat → Nat → Int64} : (IM G h r v t j)[35]? = some [(h 35, .inl (G 0, 3, .inl (v 35)))] := rfl
set_option maxRecDepth 20000 in
theorem IM_36 {G : Nat → ClassId} {h : Nat → Nat} {r : Nat → Nat → Nat} {v : Nat → Nat → Int32} {t : Nat → Nat → Nat → Int32} {j : Nat → Nat → Int64} : (IM G h r v t j)[36]? = some [gO (G 5) (h 36) (r 36) 3] := rfl
set_option maxRecDepth 20000 in
theorem IM_37 {G : Nat → ClassId} {h : Nat → Nat} {r : Nat → Nat → Nat} {v : Nat → Nat → Int32} {t : Nat → Nat → Nat → Int32} {j : Nat → Nat → Int64} : (IM G h r v t j)[37]? = some (gJ (G 1) (r 36) 3 16 j) := rfl
set_option maxRecDepth 20000 in
theorem IM_38 {G : Nat → ClassId} {h : Nat → Nat} {r : Nat → Nat → Nat} {v : Nat → Nat → Int32} {t : Nat → Nat → Nat → Int32} {j : Nat → Nat → Int64} : (IM G h r v t j)[38]? = some [(h 38, .inl (G 0, 16, .inl (v 38)))] := rfl
set_option maxRecDepth 20000 in
theorem IM_39 {G : Nat → ClassId} {h : Nat → Nat} {r : Nat → Nat → Nat} {v : Nat → Nat → Int32} {t : Nat → Nat → Nat → Int32} {j : Nat → Nat → Int64} : (IM G h r v t j)[39]? = some [(h 39, .inl (G 0, 32, .inl (v 39)))] := rfl
set_option maxRecDepth 20000 in
theorem IM_40 {G : Nat → ClassId} {h : Nat → Nat} {r : Nat → Nat → Nat} {v : Nat → Nat → Int32} {t : Nat → Nat → Nat → Int32} {j : Nat → Nat → Int64} : (IM G h r v t j)[40]? = some [(h 40, .inl (G 0, 32, .inl (v 40)))] := rfl
set_option maxRecDepth 20000 in
theorem IM_41 {G : Nat → ClassId} {h : Nat → Nat} {r : Nat → Nat → Nat} {v : Nat → Nat → Int32} {t : Nat → Nat → Nat → Int32} {j : Nat → Nat → Int64} : (IM G h r v t j)[41]? = some [(h 41, .inl (G 0, 32, .inl (v 41)))] := rfl
set_option maxRecDepth 20000 in
theorem IM_42 {G : Nat → ClassId} {h : Nat → Nat} {r : Nat → Nat → Nat} {v : Nat → Nat → Int32} {t : Nat → Nat → Nat → Int32} {j : Nat → Nat → Int64} : (IM G h r v t j)[42]? = some [(h 42, .inl (G 0, 12, .inl (v 42)))] := rfl
set_option maxRecDepth 20000 in
theorem IM_43 {G : Nat → ClassId} {h : Nat → Nat} {r : Nat → Nat → Nat} {v : Nat → Nat → Int32} {t : Nat → Nat → Nat → Int32} {j : Nat → Nat → Int64} : (IM G h r v t j)[43]? = some [gO (G 4) (h 43) (r 43) 16] := rfl
set_option maxRecDepth 20000 in
theorem IM_44 {G : Nat → ClassId} {h : Nat → Nat} {r : Nat → Nat → Nat} {v : Nat → Nat → Int32} {t : Nat → Nat → Nat → Int32} {j : Nat → Nat → Int64} : (IM G h r v t j)[44]? = some (gI (G 0) (r 43) 16 8 (t 44)) := rfl
set_option maxRecDepth 20000 in
theorem IM_45 {G : Nat → ClassId} {h : Nat → Nat} {r : Nat → Nat → Nat} {v : Nat → Nat → Int32} {t : Nat → Nat → Nat → Int32} {j : Nat → Nat → Int64} : (IM G h r v t j)[45]? = some [gO (G 4) (h 45) (r 45) 12] := rfl
set_option maxRecDepth 20000 in
theorem IM_46 {G : Nat → ClassId} {h : Nat → Nat} {r : Nat → Nat → Nat} {v : Nat → Nat → Int32} {t : Nat → Nat → Nat → Int32} {j : Nat → Nat → Int64} : (IM G h r v t j)[46]? = some (gI (G 0) (r 45) 12 4 (t 46)) := rfl
set_option maxRecDepth 20000 in
theorem IM_47 {G : Nat → ClassId} {h : Nat → Nat} {r : Nat → Nat → Nat} {v : Nat → Nat → Int32} {t : Nat → Nat → Nat → Int32} {j : Nat → Nat → Int64} : (IM G h r v t j)[47]? = some [gO (G 6) (h 47) (r 47) 8] := rfl
set_option maxRecDepth 20000 in
theorem IM_48 {G : Nat → ClassId} {h : Nat → Nat} {r : Nat → Nat → Nat} {v : Nat → Nat → Int32} {t : Nat → Nat → Nat → Int32} {j : Nat → Nat → Int64} : (IM G h r v t j)[48]? = some (gI (G 2) (r 47) 8 8 (t 48)) := rfl
set_option maxRecDepth 20000 in
theorem IM_c {G : Nat → ClassId} {h : Nat → Nat} {r : Nat → Nat → Nat} {v : Nat → Nat → Int32} {t : Nat → Nat → Nat → Int32} {j : Nat → Nat → Int64} {v' : Nat → Nat → Int32} {t' : Nat → Nat → Nat → Int32} {j' : Nat → Nat → Int64} {ps : List Nat} (hv : ∀ k, k ∉ ps → v' k = v k) (ht : ∀ k, k ∉ ps → t' k = t k) (hj : 37 ∉ ps → j' = j) : ∀ k, k ∉ ps → (IM G h r v' t' j')[k]? = (IM G h r v t j)[k]? := by
  have key : ∀ k, 0 + k ∉ ps → (IM G h r v' t' j')[k]? = (IM G h r v t j)[k]? := by
   unfold IM
   exact q_cons (n := 0) (fun h_ => congrArg (fun (z : Nat → Int32) => ([(h 0, .inr (11, [.ref (h 1), .ref (h 3), .int (z 2), .int (z 3), .ref (h 5), .ref (h 6), .ref (h 7), .ref (h 8), .ref (h 9), .ref (h 11), .ref (h 13), .int (z 11), .int (z 12), .ref (h 14), .ref (h 16), .ref (h 17), .int (z 16), .ref (h 18), .int (z 18), .ref (h 19), .int (z 20), .ref (h 20), .ref (h 21), .ref (h 23), .int (z 24), .int (z 25), .ref (h 24), .ref (h 26), .int (z 28), .int (z 29), .ref (h 27), .ref (h 28), .ref (h 30), .ref (h 31), .ref (h 32), .ref (h 33), .int (z 36), .ref (h 34), .ref (h 35), .ref (h 36), .int (z 40), .int (z 41), .int (z 42), .int (z 43), .ref (h 38), .ref (h 39), .ref (h 40), .ref (h 41), .ref (h 42), .ref (h 43), .ref (h 45), .ref (h 47)]))] : va_W)) (hv 0 h_))
    (q_cons (n := 1) (fun _ => rfl)
    (q_cons (n := 2) (fun h_ => congrArg (fun (z : Nat → Nat → Int32) => gI (G 2) (r 1) 8 8 z) (ht 2 h_))
    (q_cons (n := 3) (fun _ => rfl)
    (q_cons (n := 4) (fun h_ => congrArg (fun (z : Nat → Nat → Int32) => gI (G 2) (r 3) 8 8 z) (ht 4 h_))
    (q_cons (n := 5) (fun h_ => congrArg (fun (z : Nat → Int32) => ([(h 5, .inl (G 0, 32, .inl z))] : va_W)) (hv 5 h_))
    (q_cons (n := 6) (fun h_ => congrArg (fun (z : Nat → Int32) => ([(h 6, .inl (G 0, 32, .inl z))] : va_W)) (hv 6 h_))
    (q_cons (n := 7) (fun h_ => congrArg (fun (z : Nat → Int32) => ([(h 7, .inl (G 0, 32, .inl z))] : va_W)) (hv 7 h_))
    (q_cons (n := 8) (fun h_ => congrArg (fun (z : Nat → Int32) => ([(h 8, .inl (G 0, 16, .inl z))] : va_W)) (hv 8 h_))
    (q_cons (n := 9) (fun _ => rfl)
    (q_cons (n := 10) (fun h_ => congrArg (fun (z : Nat → Nat → Int32) => gI (G 0) (r 9) 16 8 z) (ht 10 h_))
    (q_cons (n := 11) (fun _ => rfl)
    (q_cons (n := 12) (fun h_ => congrArg (fun (z : Nat → Nat → Int32) => gI (G 0) (r 11) 16 16 z) (ht 12 h_))
    (q_cons (n := 13) (fun h_ => congrArg (fun (z : Nat → Int32) => ([(h 13, .inl (G 0, 16, .inl z))] : va_W)) (hv 13 h_))
    (q_cons (n := 14) (fun _ => rfl)
    (q_cons (n := 15) (fun h_ => congrArg (fun (z : Nat → Nat → Int32) => gI (G 0) (r 14) 2 32 z) (ht 15 h_))
    (q_cons (n := 16) (fun h_ => congrArg (fun (z : Nat → Int32) => ([(h 16, .inl (G 0, 32, .inl z))] : va_W)) (hv 16 h_))
    (q_cons (n := 17) (fun h_ => congrArg (fun (z : Nat → Int32) => ([(h 17, .inl (G 0, 32, .inl z))] : va_W)) (hv 17 h_))
    (q_cons (n := 18) (fun h_ => congrArg (fun (z : Nat → Int32) => ([(h 18, .inl (G 0, 400, .inl z))] : va_W)) (hv 18 h_))
    (q_cons (n := 19) (fun h_ => congrArg (fun (z : Nat → Int32) => ([(h 19, .inl (G 0, 8, .inl z))] : va_W)) (hv 19 h_))
    (q_cons (n := 20) (fun h_ => congrArg (fun (z : Nat → Int32) => ([(h 20, .inl (G 0, 32, .inl z))] : va_W)) (hv 20 h_))
    (q_cons (n := 21) (fun _ => rfl)
    (q_cons (n := 22) (fun h_ => congrArg (fun (z : Nat → Nat → Int32) => gI (G 2) (r 21) 8 8 z) (ht 22 h_))
    (q_cons (n := 23) (fun h_ => congrArg (fun (z : Nat → Int32) => ([(h 23, .inl (G 0, 20, .inl z))] : va_W)) (hv 23 h_))
    (q_cons (n := 24) (fun _ => rfl)
    (q_cons (n := 25) (fun h_ => congrArg (fun (z : Nat → Nat → Int32) => gI (G 0) (r 24) 12 4 z) (ht 25 h_))
    (q_cons (n := 26) (fun h_ => congrArg (fun (z : Nat → Int32) => ([(h 26, .inl (G 0, 12, .inl z))] : va_W)) (hv 26 h_))
    (q_cons (n := 27) (fun h_ => congrArg (fun (z : Nat → Int32) => ([(h 27, .inl (G 0, 16, .inl z))] : va_W)) (hv 27 h_))
    (q_cons (n := 28) (fun _ => rfl)
    (q_cons (n := 29) (fun h_ => congrArg (fun (z : Nat → Nat → Int32) => gI (G 0) (r 28) 16 8 z) (ht 29 h_))
    (q_cons (n := 30) (fun h_ => congrArg (fun (z : Nat → Int32) => ([(h 30, .inl (G 0, 32, .inl z))] : va_W)) (hv 30 h_))
    (q_cons (n := 31) (fun h_ => congrArg (fun (z : Nat → Int32) => ([(h 31, .inl (G 0, 32, .inl z))] : va_W)) (hv 31 h_))
    (q_cons (n := 32) (fun h_ => congrArg (fun (z : Nat → Int32) => ([(h 32, .inl (G 0, 32, .inl z))] : va_W)) (hv 32 h_))
    (q_cons (n := 33) (fun h_ => congrArg (fun (z : Nat → Int32) => ([(h 33, .inl (G 0, 16, .inl z))] : va_W)) (hv 33 h_))
    (q_cons (n := 34) (fun h_ => congrArg (fun (z : Nat → Int32) => ([(h 34, .inl (G 0, 3, .inl z))] : va_W)) (hv 34 h_))
    (q_cons (n := 35) (fun h_ => congrArg (fun (z : Nat → Int32) => ([(h 35, .inl (G 0, 3, .inl z))] : va_W)) (hv 35 h_))
    (q_cons (n := 36) (fun _ => rfl)
    (q_cons (n := 37) (fun h => congrArg (fun (z : Nat → Nat → Int64) => gJ (G 1) (r 36) 3 16 z) (hj h))
    (q_cons (n := 38) (fun h_ => congrArg (fun (z : Nat → Int32) => ([(h 38, .inl (G 0, 16, .inl z))] : va_W)) (hv 38 h_))
    (q_cons (n := 39) (fun h_ => congrArg (fun (z : Nat → Int32) => ([(h 39, .inl (G 0, 32, .inl z))] : va_W)) (hv 39 h_))
    (q_cons (n := 40) (fun h_ => congrArg (fun (z : Nat → Int32) => ([(h 40, .inl (G 0, 32, .inl z))] : va_W)) (hv 40 h_))
    (q_cons (n := 41) (fun h_ => congrArg (fun (z : Nat → Int32) => ([(h 41, .inl (G 0, 32, .inl z))] : va_W)) (hv 41 h_))
    (q_cons (n := 42) (fun h_ => congrArg (fun (z : Nat → Int32) => ([(h 42, .inl (G 0, 12, .inl z))] : va_W)) (hv 42 h_))
    (q_cons (n := 43) (fun _ => rfl)
    (q_cons (n := 44) (fun h_ => congrArg (fun (z : Nat → Nat → Int32) => gI (G 0) (r 43) 16 8 z) (ht 44 h_))
    (q_cons (n := 45) (fun _ => rfl)
    (q_cons (n := 46) (fun h_ => congrArg (fun (z : Nat → Nat → Int32) => gI (G 0) (r 45) 12 4 z) (ht 46 h_))
    (q_cons (n := 47) (fun _ => rfl)
    (q_cons (n := 48) (fun h_ => congrArg (fun (z : Nat → Nat → Int32) => gI (G 2) (r 47) 8 8 z) (ht 48 h_))
    (q_nil)))))))))))))))))))))))))))))))))))))))))))))))))
  exact fun k hk => key k (by rw [Nat.zero_add]; exact hk)
