/-! ===== the labelled system: n objects, m steps, sources S, targets T, labels L ===== -/
def SyP (n m : Nat) (S T L : Nat → Nat) : Prop := n ≤ 16 ∧ m ≤ 32 ∧ ∀ i, i < m → S i < n ∧ T i < n ∧ L i < 8
def Sy (n m : Nat) (S T L : Nat → Nat) (o s : Int32) (lab src tgt : Nat → Int32) : Prop := o = nI n ∧ s = nI m ∧ (∀ i, i < m → lab i = nI (L i)) ∧ (∀ i, i < m → src i = nI (S i)) ∧ (∀ i, i < m → tgt i = nI (T i))
def put1 {α : Type} (f : Nat → α) (k : Nat) (x : α) : Nat → α := fun i => if i = k then x else f i
def del1 {α : Type} (f : Nat → α) (v : Nat) : Nat → α := fun i => if i < v then f i else f (i + 1)
theorem obj_x (n : Nat) (v : Int32) : f_X3_hasObject (nI n) v = some (bI (inN v n)) := by
  unfold f_X3_hasObject
  rw [inN_if]
  cases inN v n <;> rfl
theorem step_x (n : Nat) (v : Int32) : f_X3_hasStep (nI n) v = some (bI (inN v n)) := obj_x n v
theorem obj_m {n : Nat} (hn : n < 2 ^ 30) (v : Int32) : f_X12_isObject (nI n) v = some (bI (inN v n)) := by
  unfold f_X12_isObject
  rw [btw_e hn]
  exact bI_ckb
theorem step_m {n : Nat} (hn : n < 2 ^ 30) (v : Int32) : f_X12_isStep (nI n) v = some (bI (inN v n)) := obj_m hn v
theorem Sy_put {n m : Nat} {S T L : Nat → Nat} {o s : Int32} {lab src tgt : Nat → Int32} (h : Sy n m S T L o s lab src tgt) (a b c : Nat) : Sy n (m + 1) (put1 S m a) (put1 T m b) (put1 L m c) o (nI (m + 1)) (upd lab m (nI c)) (upd src m (nI a)) (upd tgt m (nI b)) := by
  obtain ⟨h1, h2, h3, h4, h5⟩ := h
  refine ⟨h1, rfl, ?_, ?_, ?_⟩
  all_goals
    intro i hi
    rw [upd_e]
    unfold put1
    by_cases h : i = m
    · rw [if_pos h, if_pos h]
    · rw [if_neg h, if_neg h]
      first | exact h3 i (by omega) | exact h4 i (by omega) | exact h5 i (by omega)
theorem SyP_put {n m : Nat} {S T L : Nat → Nat} (h : SyP n m S T L) (hm : m < 32) {a b c : Nat} (ha : a < n) (hb : b < n) (hc : c < 8) : SyP n (m + 1) (put1 S m a) (put1 T m b) (put1 L m c) := by
  refine ⟨h.1, by omega, fun i hi => ?_⟩
  unfold put1
  by_cases h0 : i = m
  · simp only [h0, ↓reduceIte]
    exact ⟨ha, hb, hc⟩
  · simp only [h0, ↓reduceIte]
    exact h.2.2 i (by omega)
theorem nI_s1 (m : Nat) : nI (m + 1) - 1 = nI m := nI_pred m
theorem s_addStep {n m : Nat} {S T L : Nat → Nat} {ox sx om sm : Int32} {lx cx tx lm cm tm : Nat → Int32} (hp : SyP n m S T L) (hx : Sy n m S T L ox sx lx cx tx) (hm : Sy n m S T L om sm lm cm tm) (v1 v2 v3 : Int32) :
    ∃ (r sx' sm' : Int32) (lx' cx' tx' lm' cm' tm' : Nat → Int32) (m' : Nat) (S' T' L' : Nat → Nat), f_X11_addStep ox sx lx cx tx v1 v2 v3 = some (r, lx', cx', sx', tx') ∧ f_X12_addStep om sm lm cm tm v1 v2 v3 = some (r, lm', cm', sm', tm') ∧ SyP n m' S' T' L' ∧ Sy n m' S' T' L' ox sx' lx' cx' tx' ∧ Sy n m' S' T' L' om sm' lm' cm' tm' := by
  have hn := hp.1
  have hm2 := hp.2.1
  have ex := hx.1
  have es := hx.2.1
  have em := hm.1
  have et := hm.2.1
  subst ex es em et
  unfold f_X11_addStep f_X12_addStep
  simp (disch := omega) only [obj_x, obj_m, lab_x, lab_m, Option.bind_some, bI_if, bI_ifn]
  cases h1 : inN v1 n with
  | false =>
    simp only [↓reduceIte, Bool.false_eq_true]
    exact ⟨_, _, _, _, _, _, _, _, _, m, S, T, L, rfl, rfl, hp, hx, hm⟩
  | true =>
    cases h2 : inN v2 n with
    | false =>
      simp only [↓reduceIte, Bool.false_eq_true]
      exact ⟨_, _, _, _, _, _, _, _, _, m, S, T, L, rfl, rfl, hp, hx, hm⟩
    | true =>
      cases h3 : inN v3 8 with
      | false =>
        simp only [↓reduceIte, Bool.false_eq_true]
        exact ⟨_, _, _, _, _, _, _, _, _, m, S, T, L, rfl, rfl, hp, hx, hm⟩
      | true =>
        obtain ⟨a, ha, rfl⟩ := inN_of (by omega) h1
        obtain ⟨b, hb, rfl⟩ := inN_of (by omega) h2
        obtain ⟨c, hc, rfl⟩ := inN_of (by omega) h3
        simp only [↓reduceIte]
        unfold f_X3_appendStep
        simp only [show (32 : Int32) = nI 32 from rfl]
        simp (disch := omega) only [nI_ltI, nI_eq]
        by_cases hf : m < 32
        · have hne : ¬ m = 32 := by omega
          simp (disch := omega) only [hf, hne, not_false_eq_true, ↓reduceIte, ck_nI, nI_clamp, lt, nI_1, nI_s1, Option.bind_some]
          exact ⟨_, _, _, _, _, _, _, _, _, m + 1, _, _, _, rfl, rfl, SyP_put hp hf ha hb hc, Sy_put hx a b c, Sy_put hm a b c⟩
        · have he : m = 32 := by omega
          simp only [hf, he, not_true_eq_false, ↓reduceIte, Option.bind_some]
          subst he
          exact ⟨_, _, _, _, _, _, _, _, _, 32, S, T, L, rfl, rfl, hp, hx, hm⟩
theorem SyP_del {n m : Nat} {S T L : Nat → Nat} (h : SyP n (m + 1) S T L) (v : Nat) : SyP n m (del1 S v) (del1 T v) (del1 L v) := by
  refine ⟨h.1, by have := h.2.1; omega, fun i hi => ?_⟩
  unfold del1
  by_cases h0 : i < v
  · simp only [h0, ↓reduceIte]
    exact h.2.2 i (by omega)
  · simp only [h0, ↓reduceIte]
    exact h.2.2 (i + 1) (by omega)
def dSh (v j : Nat) (S : Nat → Nat) (m : Nat) (src : Nat → Int32) : Prop := ∀ i, i < m → src i = nI (if v ≤ i ∧ i < j then S (i + 1) else S i)
theorem dSh_s {v j m : Nat} {S : Nat → Nat} {src : Nat → Int32} (h : dSh v j S (m + 1) src) (hv : v ≤ j) (hj : j < m) : dSh v (j + 1) S (m + 1) (upd src j (src (j + 1))) := by
  intro i hi
  rw [upd_e]
  by_cases h1 : i = j
  · subst h1
    rw [if_pos rfl, h (i + 1) (by omega), if_neg (by omega), if_pos (by omega)]
  · rw [if_neg h1, h i hi]
    by_cases h2 : v ≤ i ∧ i < j
    · rw [if_pos h2, if_pos (by omega)]
    · rw [if_neg h2, if_neg (by omega)]
theorem dSh_e {v m : Nat} {S : Nat → Nat} {src : Nat → Int32} (h : dSh v m S (m + 1) src) : ∀ i, i < m → src i = nI (del1 S v i) := by
  intro i hi
  rw [h i (by omega)]
  unfold del1
  by_cases h2 : i < v
  · rw [if_pos h2, if_neg (by omega)]
  · rw [if_neg h2, if_pos (by omega)]
theorem dSh_0 {v m : Nat} {S : Nat → Nat} {src : Nat → Int32} (h : ∀ i, i < m → src i = nI (S i)) : dSh v v S m src := by
  intro i hi
  rw [if_neg (by omega)]
  exact h i hi
theorem x_drop (fu : Nat) (hfu : 32 < fu) {n m v : Nat} {S T L : Nat → Nat} {ox : Int32} {lx cx tx : Nat → Int32} (hp : SyP n (m + 1) S T L) (hx : Sy n (m + 1) S T L ox (nI (m + 1)) lx cx tx) (hv : v < m + 1) :
    tot (f_X3_dropStep fu (nI (m + 1)) lx cx tx (nI v)) (fun o => Sy n m (del1 S v) (del1 T v) (del1 L v) ox o.2.2.1 o.1 o.2.1 o.2.2.2) := by
  have hm32 := hp.2.1
  unfold f_X3_dropStep
  simp only [lt, nI_s1]
  refine lw4 (fun k w a b c => ∃ j, w = nI j ∧ j + k = m ∧ v ≤ j ∧ dSh v j L (m + 1) a ∧ dSh v j S (m + 1) b ∧ dSh v j T (m + 1) c) ?_ fu (m - v) _ _ _ _ (by omega) ⟨v, rfl, by omega, Nat.le_refl v, dSh_0 hx.2.2.1, dSh_0 hx.2.2.2.1, dSh_0 hx.2.2.2.2⟩
  rintro r k w a b c ⟨j, rfl, hj, hvj, ha, hb, hc⟩ ih
  unfold f_X3_dropStep_L12
  by_cases hjm : j = m
  · subst hjm
    rw [if_pos (nI_le (Nat.le_refl j) (by omega))]
    exact tot_some ⟨hx.1, rfl, dSh_e ha, dSh_e hb, dSh_e hc⟩
  · rw [if_neg (nI_ge (a := j) (by omega) (by omega))]
    simp (disch := omega) only [nI_1, ck_nI, nI_clamp, lt]
    exact ih (k - 1) _ _ _ _ (by omega) ⟨j + 1, rfl, by omega, by omega, dSh_s ha hvj (by omega), dSh_s hb hvj (by omega), dSh_s hc hvj (by omega)⟩
theorem m_drop (fu : Nat) (hfu : 32 < fu) {n m v : Nat} {S T L : Nat → Nat} {ox : Int32} {lx cx tx : Nat → Int32} (hp : SyP n (m + 1) S T L) (hx : Sy n (m + 1) S T L ox (nI (m + 1)) lx cx tx) (hv : v < m + 1) :
    tot (f_X12_removeStep fu (nI (m + 1)) lx cx tx (nI v)) (fun o => o.1 = nI m ∧ Sy n m (del1 S v) (del1 T v) (del1 L v) ox o.2.2.2.1 o.2.1 o.2.2.1 o.2.2.2.2) := by
  have hm32 := hp.2.1
  unfold f_X12_removeStep
  simp (disch := omega) only [step_m, Option.bind_some, bI_ifn, inN_nI, hv, decide_true, ↓reduceIte, lt, nI_s1]
  refine lw4 (fun k w a b c => ∃ j, w = nI j ∧ j + k = m ∧ v ≤ j ∧ dSh v j L (m + 1) a ∧ dSh v j S (m + 1) b ∧ dSh v j T (m + 1) c) ?_ fu (m - v) _ _ _ _ (by omega) ⟨v, rfl, by omega, Nat.le_refl v, dSh_0 hx.2.2.1, dSh_0 hx.2.2.2.1, dSh_0 hx.2.2.2.2⟩
  rintro r k w a b c ⟨j, rfl, hj, hvj, ha, hb, hc⟩ ih
  unfold f_X12_removeStep_L22
  by_cases hjm : j = m
  · subst hjm
    rw [if_pos (nI_le (Nat.le_refl j) (by omega))]
    exact tot_some ⟨rfl, hx.1, rfl, dSh_e ha, dSh_e hb, dSh_e hc⟩
  · rw [if_neg (nI_ge (a := j) (by omega) (by omega))]
    simp (disch := omega) only [nI_1, ck_nI, nI_clamp, lt]
    exact ih (k - 1) _ _ _ _ (by omega) ⟨j + 1, rfl, by omega, by omega, dSh_s ha hvj (by omega), dSh_s hb hvj (by omega), dSh_s hc hvj (by omega)⟩
theorem s_removeStep (fu : Nat) (hfu : 32 < fu) {n m : Nat} {S T L : Nat → Nat} {ox sx om sm : Int32} {lx cx tx lm cm tm : Nat → Int32} (hp : SyP n m S T L) (hx : Sy n m S T L ox sx lx cx tx) (hm : Sy n m S T L om sm lm cm tm) (v1 : Int32) :
    ∃ (r sx' sm' : Int32) (lx' cx' tx' lm' cm' tm' : Nat → Int32) (m' : Nat) (S' T' L' : Nat → Nat), f_X11_removeStep fu sx lx cx tx v1 = some (r, lx', cx', sx', tx') ∧ f_X12_removeStep fu sm lm cm tm v1 = some (r, lm', cm', sm', tm') ∧ SyP n m' S' T' L' ∧ Sy n m' S' T' L' ox sx' lx' cx' tx' ∧ Sy n m' S' T' L' om sm' lm' cm' tm' := by
  have hn := hp.1
  have hm2 := hp.2.1
  have es := hx.2.1
  have et := hm.2.1
  subst es et
  cases h1 : inN v1 m with
  | false =>
    unfold f_X11_removeStep f_X12_removeStep
    simp (disch := omega) only [step_x, step_m, Option.bind_some, bI_ifn, h1, ↓reduceIte, Bool.false_eq_true]
    exact ⟨_, _, _, _, _, _, _, _, _, m, S, T, L, rfl, rfl, hp, hx, hm⟩
  | true =>
    obtain ⟨v, hv, rfl⟩ := inN_of (by omega) h1
    obtain ⟨m, rfl⟩ : ∃ q, m = q + 1 := ⟨m - 1, by omega⟩
    obtain ⟨⟨l1, c1, s1, t1⟩, e1, e2⟩ := x_drop fu hfu hp hx hv
    obtain ⟨⟨r2, l2, c2, s2, t2⟩, e3, e4, e5⟩ := m_drop fu hfu hp hm hv
    have e6 : s1 = nI m := e2.2.1
    have e4 : r2 = nI m := e4
    subst e6 e4
    refine ⟨_, _, _, _, _, _, _, _, _, m, _, _, _, ?_, e3, SyP_del hp v, e2, e5⟩
    unfold f_X11_removeStep
    simp (disch := omega) only [step_x, Option.bind_some, bI_ifn, h1, ↓reduceIte, e1]
theorem Sy_lab {n m : Nat} {S T L : Nat → Nat} {o s : Int32} {lab src tgt : Nat → Int32} (h : Sy n m S T L o s lab src tgt) (k c : Nat) : Sy n m S T (put1 L k c) o s (upd lab k (nI c)) src tgt := by
  obtain ⟨h1, h2, h3, h4, h5⟩ := h
  refine ⟨h1, h2, ?_, h4, h5⟩
  intro i hi
  rw [upd_e]
  unfold put1
  by_cases h : i = k
  · rw [if_pos h, if_pos h]
  · rw [if_neg h, if_neg h]
    exact h3 i hi
theorem SyP_lab {n m : Nat} {S T L : Nat → Nat} (h : SyP n m S T L) (k : Nat) {c : Nat} (hc : c < 8) : SyP n m S T (put1 L k c) := by
  refine ⟨h.1, h.2.1, fun i hi => ⟨(h.2.2 i hi).1, (h.2.2 i hi).2.1, ?_⟩⟩
  unfold put1
  by_cases h0 : i = k
  · rw [if_pos h0]
    exact hc
  · rw [if_neg h0]
    exact (h.2.2 i hi).2.2
theorem s_setLabel {n m : Nat} {S T L : Nat → Nat} {ox sx om sm : Int32} {lx cx tx lm cm tm : Nat → Int32} (hp : SyP n m S T L) (hx : Sy n m S T L ox sx lx cx tx) (hm : Sy n m S T L om sm lm cm tm) (v1 v2 : Int32) :
    ∃ (r : Int32) (lx' lm' : Nat → Int32) (L' : Nat → Nat), f_X11_setLabel sx lx v1 v2 = some (r, lx') ∧ f_X12_setLabel sm lm v1 v2 = some (r, lm') ∧ SyP n m S T L' ∧ Sy n m S T L' ox sx lx' cx tx ∧ Sy n m S T L' om sm lm' cm tm := by
  have hm2 := hp.2.1
  have es := hx.2.1
  have et := hm.2.1
  subst es et
  unfold f_X11_setLabel f_X12_setLabel
  simp (disch := omega) only [step_x, step_m, lab_x, lab_m, Option.bind_some, bI_if, bI_ifn]
  cases h1 : inN v1 m with
  | false =>
    simp only [↓reduceIte, Bool.false_eq_true]
    exact ⟨_, _, _, L, rfl, rfl, hp, hx, hm⟩
  | true =>
    cases h2 : inN v2 8 with
    | false =>
      simp only [↓reduceIte, Bool.false_eq_true]
      exact ⟨_, _, _, L, rfl, rfl, hp, hx, hm⟩
    | true =>
      obtain ⟨k, hk, rfl⟩ := inN_of (by omega) h1
      obtain ⟨c, hc, rfl⟩ := inN_of (by omega) h2
      simp (disch := omega) only [↓reduceIte, ck_nI, nI_clamp, lt]
      rw [hx.2.2.1 k hk, hm.2.2.1 k hk]
      exact ⟨_, _, _, _, rfl, rfl, SyP_lab hp k hc, Sy_lab hx k c, Sy_lab hm k c⟩
theorem s_source {n m : Nat} {S T L : Nat → Nat} {ox sx om sm : Int32} {lx cx tx lm cm tm : Nat → Int32} (hp : SyP n m S T L) (hx : Sy n m S T L ox sx lx cx tx) (hm : Sy n m S T L om sm lm cm tm) (v1 : Int32) :
    ∃ r, f_X11_source sx cx v1 = some r ∧ f_X12_source sm cm v1 = some r := by
  have hm2 := hp.2.1
  have es := hx.2.1
  have et := hm.2.1
  subst es et
  unfold f_X11_source f_X12_source
  simp (disch := omega) only [step_x, step_m, Option.bind_some, bI_if]
  cases h1 : inN v1 m with
  | false => exact ⟨_, rfl, rfl⟩
  | true =>
    obtain ⟨k, hk, rfl⟩ := inN_of (by omega) h1
    simp (disch := omega) only [↓reduceIte, ck_nI, nI_clamp]
    rw [hx.2.2.2.1 k hk, hm.2.2.2.1 k hk]
    exact ⟨_, rfl, rfl⟩
theorem s_target {n m : Nat} {S T L : Nat → Nat} {ox sx om sm : Int32} {lx cx tx lm cm tm : Nat → Int32} (hp : SyP n m S T L) (hx : Sy n m S T L ox sx lx cx tx) (hm : Sy n m S T L om sm lm cm tm) (v1 : Int32) :
    ∃ r, f_X11_target sx tx v1 = some r ∧ f_X12_target sm tm v1 = some r := by
  have hm2 := hp.2.1
  have es := hx.2.1
  have et := hm.2.1
  subst es et
  unfold f_X11_target f_X12_target
  simp (disch := omega) only [step_x, step_m, Option.bind_some, bI_if]
  cases h1 : inN v1 m with
  | false => exact ⟨_, rfl, rfl⟩
  | true =>
    obtain ⟨k, hk, rfl⟩ := inN_of (by omega) h1
    simp (disch := omega) only [↓reduceIte, ck_nI, nI_clamp]
    rw [hx.2.2.2.2 k hk, hm.2.2.2.2 k hk]
    exact ⟨_, rfl, rfl⟩
theorem s_label {n m : Nat} {S T L : Nat → Nat} {ox sx om sm : Int32} {lx cx tx lm cm tm : Nat → Int32} (hp : SyP n m S T L) (hx : Sy n m S T L ox sx lx cx tx) (hm : Sy n m S T L om sm lm cm tm) (v1 : Int32) :
    ∃ r, f_X11_label sx lx v1 = some r ∧ f_X12_label sm lm v1 = some r := by
  have hm2 := hp.2.1
  have es := hx.2.1
  have et := hm.2.1
  subst es et
  unfold f_X11_label f_X12_label
  simp (disch := omega) only [step_x, step_m, Option.bind_some, bI_if]
  cases h1 : inN v1 m with
  | false => exact ⟨_, rfl, rfl⟩
  | true =>
    obtain ⟨k, hk, rfl⟩ := inN_of (by omega) h1
    simp (disch := omega) only [↓reduceIte, ck_nI, nI_clamp]
    rw [hx.2.2.1 k hk, hm.2.2.1 k hk]
    exact ⟨_, rfl, rfl⟩
