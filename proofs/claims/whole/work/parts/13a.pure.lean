/-! ===== local peaks ===== -/
def pkr (S : Nat → Nat) (s : Nat) : Nat → List (Nat × Nat)
  | 0 => []
  | d + 1 => pkr S s d ++ (if S s = S (s + 1 + d) then [(s, s + 1 + d)] else [])
def pko (m : Nat) (S : Nat → Nat) : Nat → List (Nat × Nat)
  | 0 => []
  | s + 1 => pko m S s ++ pkr S s (m - (s + 1))
def pkp (m : Nat) (S : Nat → Nat) (s d : Nat) : List (Nat × Nat) := pko m S s ++ pkr S s d
def PK (m : Nat) (S : Nat → Nat) : List (Nat × Nat) := pko m S m
theorem pkp_0 (m : Nat) (S : Nat → Nat) (s : Nat) : pkp m S s 0 = pko m S s := List.append_nil _
theorem pkp_y {m : Nat} {S : Nat → Nat} {s d : Nat} (h : S s = S (s + 1 + d)) : pkp m S s (d + 1) = pkp m S s d ++ [(s, s + 1 + d)] := by
  unfold pkp
  show pko m S s ++ (pkr S s d ++ (if S s = S (s + 1 + d) then [(s, s + 1 + d)] else [])) = _
  rw [if_pos h, List.append_assoc]
theorem pkp_n {m : Nat} {S : Nat → Nat} {s d : Nat} (h : ¬ S s = S (s + 1 + d)) : pkp m S s (d + 1) = pkp m S s d := by
  unfold pkp
  show pko m S s ++ (pkr S s d ++ (if S s = S (s + 1 + d) then [(s, s + 1 + d)] else [])) = _
  rw [if_neg h, List.append_nil]
theorem pkp_e (m : Nat) (S : Nat → Nat) (s : Nat) : pkp m S s (m - (s + 1)) = pko m S (s + 1) := rfl
theorem pkr_pre (S : Nat → Nat) (s d : Nat) : ∀ e, ∃ r, pkr S s (d + e) = pkr S s d ++ r := by
  intro e
  induction e with
  | zero => exact ⟨[], (List.append_nil _).symm⟩
  | succ e ih =>
    obtain ⟨r, hr⟩ := ih
    exact ⟨r ++ (if S s = S (s + 1 + (d + e)) then [(s, s + 1 + (d + e))] else []), by
      show pkr S s (d + e) ++ _ = _
      rw [hr, List.append_assoc]
      rfl⟩
theorem pko_pre (m : Nat) (S : Nat → Nat) (s : Nat) : ∀ e, ∃ r, pko m S (s + e) = pko m S s ++ r := by
  intro e
  induction e with
  | zero => exact ⟨[], (List.append_nil _).symm⟩
  | succ e ih =>
    obtain ⟨r, hr⟩ := ih
    exact ⟨r ++ pkr S (s + e) (m - (s + e + 1)), by
      show pko m S (s + e) ++ _ = _
      rw [hr, List.append_assoc]
      rfl⟩
theorem pkp_pre {m : Nat} (S : Nat → Nat) {s d : Nat} (hs : s < m) (hd : d ≤ m - (s + 1)) : ∃ r, PK m S = pkp m S s d ++ r := by
  obtain ⟨r1, h1⟩ := pko_pre m S (s + 1) (m - (s + 1))
  rw [show s + 1 + (m - (s + 1)) = m by omega] at h1
  obtain ⟨r2, h2⟩ := pkr_pre S s d (m - (s + 1) - d)
  rw [show d + (m - (s + 1) - d) = m - (s + 1) by omega] at h2
  refine ⟨r2 ++ r1, ?_⟩
  show pko m S m = _
  rw [h1]
  show (pko m S s ++ pkr S s (m - (s + 1))) ++ r1 = pko m S s ++ pkr S s d ++ (r2 ++ r1)
  rw [h2]
  simp [List.append_assoc]
theorem pkr_mem {S : Nat → Nat} {s : Nat} : ∀ {d : Nat} {p : Nat × Nat}, p ∈ pkr S s d → p.1 = s ∧ s < p.2 ∧ p.2 < s + 1 + d ∧ S p.1 = S p.2 := by
  intro d
  induction d with
  | zero => intro p h; cases h
  | succ d ih =>
    intro p h
    have h : p ∈ pkr S s d ++ (if S s = S (s + 1 + d) then [(s, s + 1 + d)] else []) := h
    rw [List.mem_append] at h
    rcases h with h | h
    · obtain ⟨h1, h2, h3, h4⟩ := ih h
      exact ⟨h1, h2, by omega, h4⟩
    · by_cases hc : S s = S (s + 1 + d)
      · rw [if_pos hc, List.mem_singleton] at h
        subst h
        exact ⟨rfl, by show s < s + 1 + d; omega, by show s + 1 + d < s + 1 + (d + 1); omega, hc⟩
      · rw [if_neg hc] at h
        cases h
theorem pko_mem {m : Nat} {S : Nat → Nat} : ∀ {s : Nat} {p : Nat × Nat}, s ≤ m → p ∈ pko m S s → p.1 < p.2 ∧ p.2 < m ∧ S p.1 = S p.2 := by
  intro s
  induction s with
  | zero => intro p _ h; cases h
  | succ s ih =>
    intro p hs h
    have h : p ∈ pko m S s ++ pkr S s (m - (s + 1)) := h
    rw [List.mem_append] at h
    rcases h with h | h
    · exact ih (by omega) h
    · obtain ⟨h1, h2, h3, h4⟩ := pkr_mem h
      exact ⟨by omega, by omega, h4⟩
theorem PK_mem {m : Nat} {S : Nat → Nat} {p : Nat × Nat} (h : p ∈ PK m S) : p.1 < p.2 ∧ p.2 < m ∧ S p.1 = S p.2 := pko_mem (Nat.le_refl m) h
theorem PK_at {m : Nat} {S : Nat → Nat} {i : Nat} {p : Nat × Nat} (h : (PK m S)[i]? = some p) : p.1 < p.2 ∧ p.2 < m ∧ S p.1 = S p.2 := PK_mem (List.mem_of_getElem? h)
def tri (m : Nat) : Nat → Nat
  | 0 => 0
  | s + 1 => tri m s + (m - (s + 1))
theorem pkr_len (S : Nat → Nat) (s : Nat) : ∀ d, (pkr S s d).length ≤ d := by
  intro d
  induction d with
  | zero => exact Nat.le_refl 0
  | succ d ih =>
    show (pkr S s d ++ (if S s = S (s + 1 + d) then [(s, s + 1 + d)] else [])).length ≤ d + 1
    rw [List.length_append]
    split
    · show (pkr S s d).length + 1 ≤ d + 1
      omega
    · show (pkr S s d).length + 0 ≤ d + 1
      omega
theorem pko_len (m : Nat) (S : Nat → Nat) : ∀ s, (pko m S s).length ≤ tri m s := by
  intro s
  induction s with
  | zero => exact Nat.le_refl 0
  | succ s ih =>
    show (pko m S s ++ pkr S s (m - (s + 1))).length ≤ tri m s + (m - (s + 1))
    rw [List.length_append]
    have := pkr_len S s (m - (s + 1))
    omega
theorem tri_496 : ∀ m, m < 33 → tri m m ≤ 496 := by decide +kernel
theorem PK_len {m : Nat} (S : Nat → Nat) (hm : m ≤ 32) : (PK m S).length ≤ 496 := Nat.le_trans (pko_len m S m) (tri_496 m (by omega))
theorem pkp_len {m : Nat} {S : Nat → Nat} {s d : Nat} (hm : m ≤ 32) (hs : s < m) (hd : d < m - (s + 1)) (h : S s = S (s + 1 + d)) : (pkp m S s d).length < 496 := by
  obtain ⟨r, hr⟩ := pkp_pre S hs (show d + 1 ≤ m - (s + 1) by omega)
  have := PK_len S hm
  rw [hr, pkp_y h, List.length_append, List.length_append] at this
  have h1 : [(s, s + 1 + d)].length = 1 := rfl
  omega
def pkA (l : List (Nat × Nat)) (f g : Nat → Int32) : Prop := ∀ (i : Nat) (p : Nat × Nat), l[i]? = some p → f i = nI p.1 ∧ g i = nI p.2
theorem pkA_app {l : List (Nat × Nat)} {f g : Nat → Int32} (h : pkA l f g) (a b : Nat) : pkA (l ++ [(a, b)]) (upd f l.length (nI a)) (upd g l.length (nI b)) := by
  intro i p hi
  rw [upd_e, upd_e]
  by_cases h1 : i = l.length
  · subst h1
    rw [List.getElem?_append_right (Nat.le_refl _), Nat.sub_self] at hi
    have hi : some (a, b) = some p := hi
    cases hi
    rw [if_pos rfl, if_pos rfl]
    exact ⟨rfl, rfl⟩
  · rw [if_neg h1, if_neg h1]
    rcases Nat.lt_or_ge i l.length with h2 | h2
    · rw [List.getElem?_append_left h2] at hi
      exact h i p hi
    · have : (l ++ [(a, b)])[i]? = none := List.getElem?_eq_none (by rw [List.length_append]; show l.length + 1 ≤ i; omega)
      rw [this] at hi
      cases hi
theorem x_collect (fu : Nat) (hfu : 32 < fu) {n m : Nat} {S T L : Nat → Nat} {ox sx : Int32} {lx cx tx : Nat → Int32} (hp : SyP n m S T L) (hx : Sy n m S T L ox sx lx cx tx) (f0 g0 : Nat → Int32) :
    tot (f_X7_collect fu sx cx f0 g0) (fun q => q.1 = nI (PK m S).length ∧ pkA (PK m S) q.2.1 q.2.2) := by
  have hm := hp.2.1
  have hn := hp.1
  obtain ⟨rfl, rfl, _, hc, ht⟩ := hx
  unfold f_X7_collect
  refine tot_lt (tot_lt (lw4 (fun k v c f g => ∃ s, v = nI s ∧ s + k = m ∧ c = nI (pko m S s).length ∧ pkA (pko m S s) f g) ?_ fu m _ _ _ _ (by omega) ⟨0, rfl, by omega, rfl, fun i p h => by cases h⟩))
  rintro r k v c f g ⟨s, rfl, hs, rfl, ha⟩ ih
  unfold f_X7_collect_L7
  by_cases hsm : s = m
  · subst hsm
    rw [if_pos (nI_le (Nat.le_refl s) (by omega))]
    exact tot_some ⟨rfl, ha⟩
  · rw [if_neg (nI_ge (a := s) (by omega) (by omega)), nI_1]
    refine tot_lt (lw4 (fun k v c f g => ∃ d, v = nI (s + 1 + d) ∧ s + 1 + d + k = m ∧ c = nI (pkp m S s d).length ∧ pkA (pkp m S s d) f g) ?_ fu (m - (s + 1)) _ _ _ _ (by omega) ⟨0, rfl, by omega, by rw [pkp_0], by rw [pkp_0]; exact ha⟩)
    clear ha
    rintro r2 k2 v c f g ⟨d, rfl, hd, rfl, ha⟩ ih2
    unfold f_X7_collect_L19 f_X7_collect_J88 f_X7_collect_J82
    by_cases hdm : s + 1 + d = m
    · rw [hdm, if_pos (nI_le (Nat.le_refl m) (by omega))]
      refine tot_lt ?_
      rw [nI_1]
      have e : pkp m S s d = pko m S (s + 1) := by
        rw [show d = m - (s + 1) by omega]
        rfl
      exact ih (k - 1) _ _ _ _ (by omega) ⟨s + 1, rfl, by omega, by rw [e], by rw [← e]; exact ha⟩
    · rw [if_neg (nI_ge (a := s + 1 + d) (by omega) (by omega))]
      have h1 := hp.2.2 s (by omega)
      have h2 := hp.2.2 (s + 1 + d) (by omega)
      simp (disch := omega) only [ck_nI, nI_clamp, lt, nI_1]
      rw [hc s (by omega), hc (s + 1 + d) (by omega)]
      simp (disch := omega) only [nI_eq]
      by_cases he : S s = S (s + 1 + d)
      · have hl := pkp_len hm (by omega) (show d < m - (s + 1) by omega) he
        rw [if_neg (fun h => h he), show (496 : Int32) = nI 496 from rfl, if_neg (nI_ge (a := (pkp m S s d).length) hl (by decide))]
        simp (disch := omega) only [ck_nI, nI_clamp]
        refine ih2 (k2 - 1) _ _ _ _ (by omega) ⟨d + 1, rfl, by omega, ?_, ?_⟩
        · rw [pkp_y he, List.length_append]
          rfl
        · rw [pkp_y he]
          exact pkA_app ha _ _
      · rw [if_pos he]
        exact ih2 (k2 - 1) _ _ _ _ (by omega) ⟨d + 1, rfl, by omega, by rw [pkp_n he], by rw [pkp_n he]; exact ha⟩
theorem m_peak (fu : Nat) (hfu : 32 < fu) {n m : Nat} {S T L : Nat → Nat} {om sm : Int32} {lm cm tm : Nat → Int32} (hp : SyP n m S T L) (hx : Sy n m S T L om sm lm cm tm) (f0 g0 v1 : Int32) :
    tot (f_X12_findPeak fu sm f0 g0 cm v1) (fun q => (q.1 = 1 ∧ inN v1 (PK m S).length = true ∧ ∃ i p, v1 = nI i ∧ (PK m S)[i]? = some p ∧ q.2.1 = nI p.1 ∧ q.2.2 = nI p.2) ∨ (q = (0, f0, g0) ∧ inN v1 (PK m S).length = false)) := by
  have hm := hp.2.1
  have hn := hp.1
  have hlen := PK_len S hm
  obtain ⟨rfl, rfl, _, hc, ht⟩ := hx
  unfold f_X12_findPeak
  refine tot_lt (tot_lt (lw2 (fun k c v => ∃ s, v = nI s ∧ s + k = m ∧ c = nI (pko m S s).length ∧ ∀ i, i < (pko m S s).length → v1 ≠ nI i) ?_ fu m _ _ (by omega) ⟨0, rfl, by omega, rfl, fun i h => absurd h (Nat.not_lt_zero i)⟩))
  rintro r k c v ⟨s, rfl, hs, rfl, ha⟩ ih
  unfold f_X12_findPeak_L4
  by_cases hsm : s = m
  · subst hsm
    rw [if_pos (nI_le (Nat.le_refl s) (by omega))]
    refine tot_some (Or.inr ⟨rfl, ?_⟩)
    cases h : inN v1 (PK s S).length with
    | false => rfl
    | true =>
      obtain ⟨j, hj, rfl⟩ := inN_of (by omega) h
      exact absurd rfl (ha j hj)
  · rw [if_neg (nI_ge (a := s) (by omega) (by omega)), nI_1]
    refine tot_lt (lw2 (fun k c v => ∃ d, v = nI (s + 1 + d) ∧ s + 1 + d + k = m ∧ c = nI (pkp m S s d).length ∧ ∀ i, i < (pkp m S s d).length → v1 ≠ nI i) ?_ fu (m - (s + 1)) _ _ (by omega) ⟨0, rfl, by omega, by rw [pkp_0], by rw [pkp_0]; exact ha⟩)
    clear ha
    rintro r2 k2 c v ⟨d, rfl, hd, rfl, ha⟩ ih2
    unfold f_X12_findPeak_L17 f_X12_findPeak_J69 f_X12_findPeak_J63 f_X12_findPeak_J47
    by_cases hdm : s + 1 + d = m
    · rw [hdm, if_pos (nI_le (Nat.le_refl m) (by omega))]
      refine tot_lt ?_
      rw [nI_1]
      have e : pkp m S s d = pko m S (s + 1) := by
        rw [show d = m - (s + 1) by omega]
        rfl
      exact ih (k - 1) _ _ (by omega) ⟨s + 1, rfl, by omega, by rw [e], by rw [← e]; exact ha⟩
    · rw [if_neg (nI_ge (a := s + 1 + d) (by omega) (by omega))]
      have h1 := hp.2.2 s (by omega)
      have h2 := hp.2.2 (s + 1 + d) (by omega)
      simp (disch := omega) only [ck_nI, nI_clamp, lt, nI_1]
      rw [hc s (by omega), hc (s + 1 + d) (by omega)]
      simp (disch := omega) only [nI_eq]
      by_cases he : S s = S (s + 1 + d)
      · have hl := pkp_len hm (by omega) (show d < m - (s + 1) by omega) he
        rw [if_neg (fun h => h he)]
        by_cases hv : nI (pkp m S s d).length = v1
        · rw [if_neg (fun h => h hv)]
          obtain ⟨rr, hr⟩ := pkp_pre S (show s < m by omega) (show d + 1 ≤ m - (s + 1) by omega)
          have hlt : (pkp m S s d).length < (PK m S).length := by
            rw [hr, pkp_y he, List.length_append, List.length_append]
            have h1 : [(s, s + 1 + d)].length = 1 := rfl
            omega
          refine tot_some (Or.inl ⟨rfl, ?_, (pkp m S s d).length, (s, s + 1 + d), hv.symm, ?_, rfl, rfl⟩)
          · rw [← hv, inN_nI (by omega) (by omega)]
            exact decide_eq_true hlt
          · rw [hr, pkp_y he, List.append_assoc, List.getElem?_append_right (Nat.le_refl _), Nat.sub_self]
            rfl
        · rw [if_pos hv]
          refine ih2 (k2 - 1) _ _ (by omega) ⟨d + 1, rfl, by omega, ?_, ?_⟩
          · rw [pkp_y he, List.length_append]
            rfl
          · intro i hi
            rw [pkp_y he, List.length_append] at hi
            have h1 : [(s, s + 1 + d)].length = 1 := rfl
            by_cases hil : i = (pkp m S s d).length
            · rw [hil]
              exact fun h => hv h.symm
            · exact ha i (by omega)
      · rw [if_pos he]
        exact ih2 (k2 - 1) _ _ (by omega) ⟨d + 1, rfl, by omega, by rw [pkp_n he], by rw [pkp_n he]; exact ha⟩
