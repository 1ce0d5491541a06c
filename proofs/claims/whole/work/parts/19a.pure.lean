/-! ===== words as numbers: two bits a letter, 1 to 3 ===== -/
def enc : List Nat → Nat
  | [] => 0
  | c :: w => c + 4 * enc w
def Wd (w : List Nat) : Prop := ∀ c, c ∈ w → 1 ≤ c ∧ c ≤ 3
theorem Wd_nil : Wd [] := fun c h => by cases h
theorem Wd_cons {c : Nat} {w : List Nat} : Wd (c :: w) ↔ (1 ≤ c ∧ c ≤ 3) ∧ Wd w := by
  constructor
  · exact fun h => ⟨h c (List.mem_cons_self), fun d hd => h d (List.mem_cons_of_mem _ hd)⟩
  · rintro ⟨h1, h2⟩ d hd
    rcases List.mem_cons.mp hd with rfl | hd
    · exact h1
    · exact h2 d hd
theorem Wd_app {u v : List Nat} : Wd (u ++ v) ↔ Wd u ∧ Wd v := by
  constructor
  · exact fun h => ⟨fun c hc => h c (List.mem_append_left _ hc), fun c hc => h c (List.mem_append_right _ hc)⟩
  · rintro ⟨h1, h2⟩ c hc
    rcases List.mem_append.mp hc with hc | hc
    · exact h1 c hc
    · exact h2 c hc
theorem Wd_take {w : List Nat} (h : Wd w) (i : Nat) : Wd (w.take i) := fun c hc => h c (List.mem_of_mem_take hc)
theorem Wd_drop {w : List Nat} (h : Wd w) (i : Nat) : Wd (w.drop i) := fun c hc => h c (List.mem_of_mem_drop hc)
theorem enc_lt {w : List Nat} (h : Wd w) : enc w < 4 ^ w.length := by
  induction w with
  | nil => exact Nat.one_pos
  | cons c w ih =>
    obtain ⟨h1, h2⟩ := Wd_cons.mp h
    have := ih h2
    show c + 4 * enc w < 4 ^ (w.length + 1)
    rw [Nat.pow_succ]
    omega
theorem enc_0 {w : List Nat} (h : Wd w) : enc w = 0 ↔ w = [] := by
  cases w with
  | nil => exact ⟨fun _ => rfl, fun _ => rfl⟩
  | cons c w =>
    obtain ⟨h1, _⟩ := Wd_cons.mp h
    refine ⟨fun he => ?_, fun he => by cases he⟩
    have he : c + 4 * enc w = 0 := he
    omega
theorem enc_inj : ∀ {u v : List Nat}, Wd u → Wd v → enc u = enc v → u = v := by
  intro u
  induction u with
  | nil =>
    intro v _ hv he
    exact ((enc_0 hv).mp he.symm).symm
  | cons c u ih =>
    intro v hu hv he
    obtain ⟨h1, h2⟩ := Wd_cons.mp hu
    cases v with
    | nil =>
      have he : c + 4 * enc u = 0 := he
      omega
    | cons d v =>
      obtain ⟨h3, h4⟩ := Wd_cons.mp hv
      have he : c + 4 * enc u = d + 4 * enc v := he
      have e1 : c = d := by omega
      have e2 : enc u = enc v := by omega
      rw [e1, ih h2 h4 e2]
theorem enc_app : ∀ (u v : List Nat), enc (u ++ v) = enc u + 4 ^ u.length * enc v := by
  intro u v
  induction u with
  | nil =>
    show enc v = 0 + 1 * enc v
    omega
  | cons c u ih =>
    show c + 4 * enc (u ++ v) = c + 4 * enc u + 4 ^ (u.length + 1) * enc v
    rw [ih, Nat.pow_succ, Nat.mul_add, Nat.mul_comm (4 ^ u.length) 4, Nat.mul_assoc, Nat.add_assoc]
theorem enc_div {w : List Nat} (h : Wd w) (i : Nat) : enc w / 4 ^ i = enc (w.drop i) := by
  by_cases hi : i ≤ w.length
  · have h1 : enc w = enc (w.take i) + 4 ^ i * enc (w.drop i) := by
      have := enc_app (w.take i) (w.drop i)
      rw [List.take_append_drop, List.length_take, Nat.min_eq_left hi] at this
      exact this
    have h2 : enc (w.take i) < 4 ^ i := by
      have := enc_lt (Wd_take h i)
      rw [List.length_take, Nat.min_eq_left hi] at this
      exact this
    rw [h1, Nat.add_mul_div_left _ _ (Nat.lt_of_le_of_lt (Nat.zero_le _) h2), Nat.div_eq_of_lt h2, Nat.zero_add]
  · have h1 : w.drop i = [] := List.drop_eq_nil_of_le (by omega)
    have h2 : enc w < 4 ^ i := Nat.lt_of_lt_of_le (enc_lt h) (Nat.pow_le_pow_right (by decide) (by omega))
    rw [h1, Nat.div_eq_of_lt h2]
    rfl
theorem enc_mod {w : List Nat} (h : Wd w) (i : Nat) : enc w % 4 ^ i = enc (w.take i) := by
  by_cases hi : i ≤ w.length
  · have h1 : enc w = enc (w.take i) + 4 ^ i * enc (w.drop i) := by
      have := enc_app (w.take i) (w.drop i)
      rw [List.take_append_drop, List.length_take, Nat.min_eq_left hi] at this
      exact this
    have h2 : enc (w.take i) < 4 ^ i := by
      have := enc_lt (Wd_take h i)
      rw [List.length_take, Nat.min_eq_left hi] at this
      exact this
    rw [h1, Nat.add_mul_mod_self_left, Nat.mod_eq_of_lt h2]
  · have h2 : enc w < 4 ^ i := Nat.lt_of_lt_of_le (enc_lt h) (Nat.pow_le_pow_right (by decide) (by omega))
    rw [List.take_of_length_le (by omega), Nat.mod_eq_of_lt h2]
theorem p24 (i : Nat) : 2 ^ (2 * i) = 4 ^ i := by rw [Nat.pow_mul]
theorem enc_31 {w : List Nat} (h : Wd w) (hl : w.length ≤ 15) : enc w < 2 ^ 30 := by
  have h1 := enc_lt h
  have h2 : 4 ^ w.length ≤ 4 ^ 15 := Nat.pow_le_pow_right (by decide) hl
  have h3 : (4 : Nat) ^ 15 = 2 ^ 30 := by decide
  omega
theorem nI_or (a b : Nat) : nI a ||| nI b = nI (a ||| b) := by
  refine b_ext (fun i hi => ?_)
  rw [b_or, b_nI hi, b_nI hi, b_nI hi, Nat.testBit_or]
theorem w_shr {n i : Nat} (hn : n < 2 ^ 31) (hi : i < 16) : nI n >>> ((2 * nI i) &&& 31) = nI (n / 4 ^ i) := by
  rw [k2m, pk_shrN hn (nI (2 * i) &&& 31) (2 * i) (s_l (2 * i) (by omega)), p24]
theorem w_shl {n i : Nat} (hi : i < 16) (hn : n * 4 ^ i < 2 ^ 32) : nI n <<< ((2 * nI i) &&& 31) = nI (n * 4 ^ i) := by
  rw [k2m, pk_shlN (nI (2 * i) &&& 31) (2 * i) (s_l (2 * i) (by omega)) (by rw [p24]; exact hn), p24]
theorem x_lenOf (fu : Nat) (hfu : 32 < fu) {w : List Nat} (h : Wd w) (hl : w.length ≤ 15) : f_X10_lengthOf fu (nI (enc w)) = some (nI w.length) := by
  have he := enc_31 h hl
  have : tot (f_X10_lengthOf fu (nI (enc w))) (fun r => r = nI w.length) := by
    unfold f_X10_lengthOf
    refine tot_lt (lw1 (fun k v => ∃ i, v = nI i ∧ i + k = w.length) ?_ fu w.length _ (by omega) ⟨0, rfl, by omega⟩)
    rintro r k v ⟨i, rfl, hi⟩ ih
    unfold f_X10_lengthOf_L2
    rw [show (15 : Int32) = nI 15 from rfl]
    by_cases h15 : 15 ≤ i
    · rw [if_pos (nI_le h15 (by omega))]
      exact tot_some (by congr 1; omega)
    · rw [if_neg (nI_ge (a := i) (by omega) (by decide)), w_shr (by omega) (by omega), enc_div h]
      have hz : nI (enc (w.drop i)) = 0 ↔ i = w.length := by
        have h1 := enc_31 (Wd_drop h i) (by rw [List.length_drop]; omega)
        rw [show (0 : Int32) = nI 0 from rfl, nI_eq (by omega) (by decide), enc_0 (Wd_drop h i), List.drop_eq_nil_iff]
        omega
      by_cases hil : i = w.length
      · rw [if_pos (hz.mpr hil)]
        exact tot_some (by rw [hil])
      · rw [if_neg (fun hh => hil (hz.mp hh))]
        refine tot_lt ?_
        rw [nI_1]
        exact ih (k - 1) _ (by omega) ⟨i + 1, rfl, by omega⟩
  obtain ⟨r, e1, e2⟩ := this
  rw [e1, e2]
theorem x_headOf {w : List Nat} (h : Wd w) (hl : w.length ≤ 15) {i : Nat} (hi : i ≤ 15) : f_X10_headOf (nI (enc w)) (nI i) = some (nI (enc (w.take i))) := by
  have he := enc_31 h hl
  have h4 : 4 ^ i ≤ 4 ^ 15 := Nat.pow_le_pow_right (by decide) hi
  have h3 : (4 : Nat) ^ 15 = 2 ^ 30 := by decide
  have hp : 0 < 4 ^ i := Nat.pow_pos (by decide)
  unfold f_X10_headOf
  have e1 : (1 : Int32) <<< ((2 * nI i) &&& 31) - 1 = nI (4 ^ i - 1) := by
    rw [show (1 : Int32) <<< ((2 * nI i) &&& 31) = nI (1 * 4 ^ i) from w_shl (n := 1) (by omega) (by omega), Nat.one_mul]
    exact pk_sub (a := 4 ^ i) (b := 1) hp
  rw [e1, pk_andN (show enc w < 2 ^ 32 by omega) (2 * i) (by rw [pk_tn (by omega), p24]), p24, enc_mod h]
theorem x_occurs (fu : Nat) (hfu : 32 < fu) {u w : List Nat} (hu : Wd u) (hul : u.length ≤ 15) (h : Wd w) (hl : w.length ≤ 15) {i : Nat} (hi : i ≤ 15) : f_X10_occurs fu (nI (enc u)) (nI (enc w)) (nI i) = some (bI (decide ((w.drop i).take u.length = u))) := by
  have he := enc_31 h hl
  have hd := Wd_drop h i
  have hdl : (w.drop i).length ≤ 15 := by rw [List.length_drop]; omega
  unfold f_X10_occurs
  rw [x_lenOf fu hfu hu hul]
  simp only [Option.bind_some]
  rw [w_shr (by omega) (by omega), enc_div h, x_headOf hd hdl hul]
  simp only [Option.bind_some]
  have ht := Wd_take hd u.length
  have l1 := enc_31 ht (by rw [List.length_take]; omega)
  have l2 := enc_31 hu hul
  by_cases hc : (w.drop i).take u.length = u
  · rw [if_neg (fun hh => hh (by rw [hc])), decide_eq_true hc]
    rfl
  · rw [if_pos (fun hh => hc (enc_inj ht hu ((nI_eq (by omega) (by omega)).mp hh))), decide_eq_false hc]
    rfl
theorem or_add {a b k : Nat} (h : a < 2 ^ k) : a ||| (b * 2 ^ k) = a + 2 ^ k * b := by
  rw [Nat.mul_comm b, Nat.or_comm, Nat.add_comm]
  exact (Nat.two_pow_add_eq_or_of_lt h b).symm
theorem x_replace (fu : Nat) (hfu : 32 < fu) {w u v : List Nat} (h : Wd w) (hl : w.length ≤ 8) (hu : Wd u) (hul : u.length ≤ 4) (hv : Wd v) (hvl : v.length ≤ 4) {i : Nat} (hi : i + u.length ≤ w.length) : f_X10_replace fu (nI (enc w)) (nI i) (nI (enc u)) (nI (enc v)) = some (nI (enc (w.take i ++ (v ++ w.drop (i + u.length))))) := by
  have he := enc_31 h (by omega)
  have hev := enc_31 hv (by omega)
  have hd := Wd_drop h (i + u.length)
  have hed := enc_31 hd (by rw [List.length_drop]; omega)
  have ht := Wd_take h i
  unfold f_X10_replace
  rw [x_lenOf fu hfu hu (by omega)]
  simp only [Option.bind_some, lt, nI_add]
  rw [w_shr (by omega) (by omega), enc_div h, x_headOf h (by omega) (show i ≤ 15 by omega)]
  simp only [Option.bind_some]
  rw [x_lenOf fu hfu hv (by omega)]
  simp only [Option.bind_some, nI_add]
  have hti : (w.take i).length = i := by rw [List.length_take]; omega
  have hlt1 : enc (w.take i) < 4 ^ i := by
    have := enc_lt ht
    rw [hti] at this
    exact this
  have hvi : enc v < 4 ^ v.length := enc_lt hv
  have hdi : enc (w.drop (i + u.length)) < 4 ^ (w.length - (i + u.length)) := by
    have := enc_lt hd
    rw [List.length_drop] at this
    exact this
  have b1 : enc v * 4 ^ i < 2 ^ 32 := by
    have h1 : enc v * 4 ^ i < 4 ^ v.length * 4 ^ i := Nat.mul_lt_mul_of_pos_right hvi (Nat.pow_pos (by decide))
    rw [← Nat.pow_add] at h1
    have h2 : 4 ^ (v.length + i) ≤ 4 ^ 15 := Nat.pow_le_pow_right (by decide) (by omega)
    have h3 : (4 : Nat) ^ 15 = 2 ^ 30 := by decide
    omega
  have b2 : enc (w.drop (i + u.length)) * 4 ^ (i + v.length) < 2 ^ 32 := by
    have h1 : enc (w.drop (i + u.length)) * 4 ^ (i + v.length) < 4 ^ (w.length - (i + u.length)) * 4 ^ (i + v.length) := Nat.mul_lt_mul_of_pos_right hdi (Nat.pow_pos (by decide))
    rw [← Nat.pow_add] at h1
    have h2 : 4 ^ (w.length - (i + u.length) + (i + v.length)) ≤ 4 ^ 15 := Nat.pow_le_pow_right (by decide) (by omega)
    have h3 : (4 : Nat) ^ 15 = 2 ^ 30 := by decide
    omega
  rw [w_shl (by omega) b1, w_shl (by omega) b2, nI_or, nI_or]
  have c1 : enc (w.take i) ||| enc v * 4 ^ i = enc (w.take i ++ v) := by
    rw [← p24, or_add (by rw [p24]; exact hlt1), enc_app, hti, p24]
  have c2 : enc (w.take i ++ v) ||| enc (w.drop (i + u.length)) * 4 ^ (i + v.length) = enc ((w.take i ++ v) ++ w.drop (i + u.length)) := by
    have hl2 : (w.take i ++ v).length = i + v.length := by rw [List.length_append, hti]
    have h1 := enc_lt (Wd_app.mpr ⟨ht, hv⟩)
    rw [hl2] at h1
    rw [← p24, or_add (by rw [p24]; exact h1), enc_app (w.take i ++ v), hl2, p24]
  rw [c1, c2, List.append_assoc]
