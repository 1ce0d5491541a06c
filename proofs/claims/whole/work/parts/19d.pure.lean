def WoR (n : Nat) (words lens : Nat → Int32) (lets : Nat → Nat → Int32) : Prop := ∀ i, i < n → (words i = -2 ∧ lens i = -1) ∨ ∃ w, Wd w ∧ w.length ≤ 8 ∧ words i = nI (enc w) ∧ wdM w (lens i) (lets i)
theorem s_addObject {n m : Nat} {S T L : Nat → Nat} {ox sx om sm : Int32} {lx cx tx lm cm tm : Nat → Int32} (hp : SyP n m S T L) (hx : Sy n m S T L ox sx lx cx tx) (hm : Sy n m S T L om sm lm cm tm) {words lens : Nat → Int32} {lets : Nat → Nat → Int32} (hw : WoR n words lens lets) :
    ∃ (r ox' om' : Int32) (words' lens' : Nat → Int32) (n' : Nat), f_X11_addObject ox words = some (r, ox', words') ∧ f_X12_addObject om lens = some (r, lens', om') ∧ SyP n' m S T L ∧ Sy n' m S T L ox' sx lx cx tx ∧ Sy n' m S T L om' sm lm cm tm ∧ WoR n' words' lens' lets := by
  have hn := hp.1
  have a1 := hx.1
  have a2 := hm.1
  subst a1 a2
  unfold f_X11_addObject f_X12_addObject f_X3_appendObject
  rw [show (16 : Int32) = nI 16 from rfl]
  simp (disch := omega) only [nI_ltI, nI_eq]
  by_cases hf : n < 16
  · have hne : ¬ n = 16 := by omega
    simp (disch := omega) only [hf, hne, not_false_eq_true, ↓reduceIte, ck_nI, nI_clamp, lt, nI_1, nI_s1, Option.bind_some]
    refine ⟨_, _, _, _, _, n + 1, rfl, rfl, ⟨by omega, hp.2.1, fun i hi => ?_⟩, ⟨rfl, hx.2⟩, ⟨rfl, hm.2⟩, fun i hi => ?_⟩
    · have := hp.2.2 i hi
      omega
    · rw [upd_e, upd_e]
      by_cases hin : i = n
      · rw [if_pos hin, if_pos hin]
        exact Or.inl ⟨rfl, rfl⟩
      · rw [if_neg hin, if_neg hin]
        exact hw i (by omega)
  · have hne : n = 16 := by omega
    rw [if_neg hf, if_neg (fun h => h hne)]
    exact ⟨_, _, _, _, _, n, rfl, rfl, hp, hx, hm, hw⟩
theorem s_clearSystem {n m : Nat} {S T L : Nat → Nat} {ox sx om sm : Int32} {lx cx tx lm cm tm : Nat → Int32} (hx : Sy n m S T L ox sx lx cx tx) (hm : Sy n m S T L om sm lm cm tm) (words lens : Nat → Int32) (lets : Nat → Nat → Int32) :
    ∃ (r ox' sx' om' sm' : Int32), f_X11_clearSystem ox = some (r, ox', sx') ∧ f_X12_clearSystem om = some (r, om', sm') ∧ SyP 0 0 S T L ∧ Sy 0 0 S T L ox' sx' lx cx tx ∧ Sy 0 0 S T L om' sm' lm cm tm ∧ WoR 0 words lens lets := by
  have a1 := hx.1
  have a2 := hm.1
  subst a1 a2
  exact ⟨nI n, nI 0, nI 0, nI 0, nI 0, rfl, rfl, ⟨by decide, by decide, fun i h => absurd h (Nat.not_lt_zero i)⟩, ⟨rfl, rfl, fun i h => absurd h (Nat.not_lt_zero i), fun i h => absurd h (Nat.not_lt_zero i), fun i h => absurd h (Nat.not_lt_zero i)⟩, ⟨rfl, rfl, fun i h => absurd h (Nat.not_lt_zero i), fun i h => absurd h (Nat.not_lt_zero i), fun i h => absurd h (Nat.not_lt_zero i)⟩, fun i h => absurd h (Nat.not_lt_zero i)⟩
theorem s_objectCount {n m : Nat} {S T L : Nat → Nat} {ox sx om sm : Int32} {lx cx tx lm cm tm : Nat → Int32} (hx : Sy n m S T L ox sx lx cx tx) (hm : Sy n m S T L om sm lm cm tm) : ∃ r, f_X11_objectCount ox = some r ∧ f_X12_objectCount om = some r := by
  have a1 := hx.1
  have a2 := hm.1
  subst a1 a2
  exact ⟨_, rfl, rfl⟩
theorem s_stepCount {n m : Nat} {S T L : Nat → Nat} {ox sx om sm : Int32} {lx cx tx lm cm tm : Nat → Int32} (hx : Sy n m S T L ox sx lx cx tx) (hm : Sy n m S T L om sm lm cm tm) : ∃ r, f_X11_stepCount sx = some r ∧ f_X12_stepCount sm = some r := by
  have a1 := hx.2.1
  have a2 := hm.2.1
  subst a1 a2
  exact ⟨_, rfl, rfl⟩
theorem s_clearRules {c : Nat} {RL RR : Nat → List Nat} {cx cm : Int32} {lf rg sl : Nat → Int32} {sd : Nat → Nat → Int32} (hrx : RuX c RL RR cx lf rg) (hrm : RuM c RL RR cm sl sd) : ∃ (r cx' cm' : Int32), f_X11_clearRules cx = some (r, cx') ∧ f_X12_clearRules cm = some (r, cm') ∧ RuP 0 RL RR ∧ RuX 0 RL RR cx' lf rg ∧ RuM 0 RL RR cm' sl sd := by
  have a3 := hrx.1
  have a4 := hrm.1
  subst a3 a4
  exact ⟨nI c, nI 0, nI 0, rfl, rfl, ⟨by decide, fun i h => absurd h (Nat.not_lt_zero i)⟩, ⟨rfl, fun i h => absurd h (Nat.not_lt_zero i)⟩, ⟨rfl, fun i h => absurd h (Nat.not_lt_zero i)⟩⟩
theorem s_wordLength (fu : Nat) (hfu : 32 < fu) {n m : Nat} {S T L : Nat → Nat} {ox sx om sm : Int32} {lx cx tx lm cm tm : Nat → Int32} (hp : SyP n m S T L) (hx : Sy n m S T L ox sx lx cx tx) (hm : Sy n m S T L om sm lm cm tm) {words lens : Nat → Int32} {lets : Nat → Nat → Int32} (hw : WoR n words lens lets) (v1 : Int32) : ∃ r, f_X11_wordLength fu ox words v1 = some r ∧ f_X12_wordLength om lens v1 = some r := by
  have hn := hp.1
  have a1 := hx.1
  have a2 := hm.1
  subst a1 a2
  unfold f_X11_wordLength f_X12_wordLength
  simp (disch := omega) only [obj_x, obj_m, Option.bind_some, bI_ifn]
  cases hv : inN v1 n with
  | false => exact ⟨_, rfl, rfl⟩
  | true =>
    obtain ⟨i, hi, rfl⟩ := inN_of (by omega) hv
    simp (disch := omega) only [↓reduceIte, ck_nI, nI_clamp, lt]
    rcases hw i hi with ⟨g1, g2⟩ | ⟨w, g1, g2, g3, g4⟩
    · rw [g1, g2, if_neg (fun h => h rfl), if_neg (by decide)]
      exact ⟨_, rfl, rfl⟩
    · have he := enc_31 g1 (show w.length ≤ 15 by omega)
      rw [g3, g4.1, if_pos (nI_ne2 (by omega)), if_pos (nI_pos' (by omega)), x_lenOf fu hfu g1 (by omega)]
      exact ⟨_, rfl, rfl⟩
theorem x_letterOf {w : List Nat} (h : Wd w) (hl : w.length ≤ 8) {i c : Nat} (hc : w[i]? = some c) : f_X10_letterOf (nI (enc w)) (nI i) = some (nI (96 + c)) := by
  have hi := (List.getElem?_eq_some_iff.mp hc).1
  have he := enc_31 h (show w.length ≤ 15 by omega)
  have hd := enc_31 (Wd_drop h i) (by rw [List.length_drop]; omega)
  have hc2 := h c (List.mem_of_getElem? hc)
  unfold f_X10_letterOf
  rw [w_shr (by omega) (by omega), enc_div h, pk_andN (show enc (w.drop i) < 2 ^ 32 by omega) 2 (by decide)]
  have e1 : w.drop i = c :: w.drop (i + 1) := by
    rw [List.drop_eq_getElem_cons hi]
    congr 1
    exact (List.getElem?_eq_some_iff.mp hc).2
  rw [e1]
  have e2 : enc (c :: w.drop (i + 1)) % 2 ^ 2 = c := by
    show (c + 4 * enc (w.drop (i + 1))) % 4 = c
    omega
  rw [e2, show (96 : Int32) = nI 96 from rfl, nI_add]
theorem s_letter (fu : Nat) (hfu : 32 < fu) {n m : Nat} {S T L : Nat → Nat} {ox sx om sm : Int32} {lx cx tx lm cm tm : Nat → Int32} (hp : SyP n m S T L) (hx : Sy n m S T L ox sx lx cx tx) (hm : Sy n m S T L om sm lm cm tm) {words lens : Nat → Int32} {lets : Nat → Nat → Int32} (hw : WoR n words lens lets) (v1 v2 : Int32) : ∃ r, f_X11_letter fu ox words v1 v2 = some r ∧ f_X12_letter om lens lets v1 v2 = some r := by
  have hn := hp.1
  have a1 := hx.1
  have a2 := hm.1
  subst a1 a2
  unfold f_X11_letter f_X12_letter
  simp (disch := omega) only [obj_x, obj_m, Option.bind_some, bI_ifn]
  cases hv : inN v1 n with
  | false => exact ⟨_, rfl, rfl⟩
  | true =>
    obtain ⟨i, hi, rfl⟩ := inN_of (by omega) hv
    simp (disch := omega) only [↓reduceIte, ck_nI, nI_clamp, lt]
    rcases hw i hi with ⟨g1, g2⟩ | ⟨w, g1, g2, g3, g4⟩
    · rw [g1, g2, if_pos rfl, show f_X12_isBetween v2 0 (-1 - 1) = some (bI (inO v2 none)) from btw_sz (K := none) (fun k h => by cases h) v2]
      exact ⟨_, rfl, rfl⟩
    · have he := enc_31 g1 (show w.length ≤ 15 by omega)
      rw [g3, g4.1, if_neg (nI_ne2 (by omega)), x_lenOf fu hfu g1 (by omega), btw_e (by omega)]
      simp only [Option.bind_some, bI_if]
      cases hv2 : inN v2 w.length with
      | false =>
        simp only [Bool.false_eq_true, ↓reduceIte]
        by_cases h0 : v2 < 0
        · rw [if_pos h0]
          exact ⟨_, rfl, rfl⟩
        · rw [if_neg h0, if_neg]
          · exact ⟨_, rfl, rfl⟩
          · intro hlt
            exact (of_decide_eq_false hv2) ⟨h0, Int32.not_le.mpr hlt⟩
      | true =>
        obtain ⟨j, hj, rfl⟩ := inN_of (by omega) hv2
        simp only [↓reduceIte]
        have hc : w[j]? = some (w[j]) := List.getElem?_eq_getElem hj
        rw [if_neg (nI_pos (by omega)), if_pos (nI_lt hj (by omega)), x_letterOf g1 g2 hc]
        simp (disch := omega) only [ck_nI, nI_clamp, Option.bind_some]
        rw [g4.2 j _ hc]
        exact ⟨_, rfl, rfl⟩
def FaR (fo fr fl : Int32) (fd : Nat → Int32) : Prop := fo = fd 0 ∧ fr = fd 1 ∧ fl = fd 2
theorem s_failure {fo fr fl : Int32} {fd : Nat → Int32} (h : FaR fo fr fl fd) (v1 : Int32) : ∃ r, f_X11_failure fo fr fl v1 = some r ∧ f_X12_failure fd v1 = some r := by
  obtain ⟨rfl, rfl, rfl⟩ := h
  unfold f_X11_failure f_X12_failure
  rw [show (2 : Int32) = nI 3 - 1 from by decide, btw_e (by decide), show nI 3 - 1 = (2 : Int32) from by decide]
  simp only [Option.bind_some, bI_if]
  cases hv : inN v1 3 with
  | false =>
    have h0 : ¬ v1 = 0 := fun h => by rw [h] at hv; exact absurd hv (by decide)
    have h1 : ¬ v1 = 1 := fun h => by rw [h] at hv; exact absurd hv (by decide)
    have h2 : ¬ v1 = 2 := fun h => by rw [h] at hv; exact absurd hv (by decide)
    rw [if_neg h0, if_neg h1, if_neg h2]
    exact ⟨_, rfl, rfl⟩
  | true =>
    obtain ⟨j, hj, rfl⟩ := inN_of (by decide) hv
    simp (disch := omega) only [↓reduceIte, ck_nI, nI_clamp]
    have : j = 0 ∨ j = 1 ∨ j = 2 := by omega
    rcases this with rfl | rfl | rfl
    · exact ⟨_, rfl, rfl⟩
    · exact ⟨_, rfl, rfl⟩
    · exact ⟨_, rfl, rfl⟩
