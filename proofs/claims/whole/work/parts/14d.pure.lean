/-! ===== the valley of a peak in the reference ===== -/
def LnP (E : Nat → Nat → Prop) (x0 b d : Nat) : Prop := d ≤ 1000 ∧ (d < 1000 → wk E d x0 (2 * b) ∨ wk E d x0 (2 * b + 1)) ∧ ∀ k, (wk E k x0 (2 * b) ∨ wk E k x0 (2 * b + 1)) → d ≤ k
def dl (row : Nat → Int32) (b : Nat) : Nat := if (row (2 * b + 1)).toNatClampNeg ≤ (row (2 * b)).toNatClampNeg then (row (2 * b + 1)).toNatClampNeg else (row (2 * b)).toNatClampNeg
theorem dl_P {E : Nat → Nat → Prop} {x0 : Nat} {row : Nat → Int32} (h : BfP E (fun z => z = x0) row) {b : Nat} (hb : b < 16) : LnP E x0 b (dl row b) := by
  obtain ⟨d1, a1, a2, a3, a4⟩ := h (2 * b) (by omega)
  obtain ⟨d2, b1, b2, b3, b4⟩ := h (2 * b + 1) (by omega)
  unfold dl
  rw [a1, b1, nI_clamp (by omega), nI_clamp (by omega)]
  have h1 : d1 < 1000 → wk E d1 x0 (2 * b) := fun hd => by
    obtain ⟨z, rfl, hz⟩ := a3 hd
    exact hz
  have h2 : d2 < 1000 → wk E d2 x0 (2 * b + 1) := fun hd => by
    obtain ⟨z, rfl, hz⟩ := b3 hd
    exact hz
  by_cases hle : d2 ≤ d1
  · rw [if_pos hle]
    refine ⟨b2, fun hd => Or.inr (h2 hd), fun k hk => ?_⟩
    rcases hk with hk | hk
    · have := a4 x0 k rfl hk
      omega
    · exact b4 x0 k rfl hk
  · rw [if_neg hle]
    refine ⟨a2, fun hd => Or.inl (h1 hd), fun k hk => ?_⟩
    rcases hk with hk | hk
    · exact a4 x0 k rfl hk
    · have := b4 x0 k rfl hk
      omega
theorem LnP_eq {E : Nat → Nat → Prop} {x0 b d d2 : Nat} (h1 : LnP E x0 b d) (h2 : LnP E x0 b d2) : d = d2 := by
  have a := h1.1
  have b := h2.1
  by_cases hd : d < 1000
  · have := h2.2.2 d (h1.2.1 hd)
    have := h1.2.2 d2 (h2.2.1 (by omega))
    omega
  · by_cases hd2 : d2 < 1000
    · have := h1.2.2 d2 (h2.2.1 hd2)
      omega
    · omega
theorem LnP_lt {E : Nat → Nat → Prop} {N x0 b d : Nat} (hE : ∀ x y, E x y → x < N ∧ y < N) (hx : x0 < N) (h : LnP E x0 b d) (hd : d < 1000) : d < N := by
  rcases h.2.1 hd with hk | hk
  · obtain ⟨j, h1, _, h2⟩ := wk_short hE hx d hk
    have := h.2.2 j (Or.inl h2)
    omega
  · obtain ⟨j, h1, _, h2⟩ := wk_short hE hx d hk
    have := h.2.2 j (Or.inr h2)
    omega
theorem LnP_Su {n m : Nat} {S T L : Nat → Nat} {w : Nat → Nat → Bool} {own oth t0 b d : Nat} (hp : SyP n m S T L) (ht : t0 < n) (h : LnP (EN m S T L w own oth) (2 * t0) b d) : d < 1000 ↔ SuN m S T L w own oth (2 * t0) b := by
  have hn := hp.1
  constructor
  · intro hd
    rcases h.2.1 hd with hk | hk
    · exact Or.inl ⟨d, hk⟩
    · exact Or.inr ⟨d, hk⟩
  · rintro (⟨k, hk⟩ | ⟨k, hk⟩)
    · obtain ⟨j, h1, _, h2⟩ := wk_short (EN_in hp) (show 2 * t0 < 2 * n by omega) k hk
      have := h.2.2 j (Or.inl h2)
      omega
    · obtain ⟨j, h1, _, h2⟩ := wk_short (EN_in hp) (show 2 * t0 < 2 * n by omega) k hk
      have := h.2.2 j (Or.inr h2)
      omega
theorem m_lengthTo {E : Nat → Nat → Prop} {x0 sd : Nat} {M : Nat → Nat → Int32} (hsd : sd < 2) (h : BfP E (fun z => z = x0) (M sd)) {b : Nat} (hb : b < 16) : f_X12_lengthTo M (nI sd) (nI b) = some (nI (dl (M sd) b)) := by
  obtain ⟨d1, a1, a2, a3, a4⟩ := h (2 * b) (by omega)
  obtain ⟨d2, b1, b2, b3, b4⟩ := h (2 * b + 1) (by omega)
  unfold f_X12_lengthTo dl
  rw [a1, b1]
  simp (disch := omega) only [k2m, nI_1, ck_nI, nI_clamp, lt, a1, b1, nI_leI]
  by_cases hle : d2 ≤ d1
  · rw [if_pos hle, if_pos hle]
  · rw [if_neg hle, if_neg hle]
def valS (n : Nat) (d0 d1 : Nat → Nat) (r : Int32) : Prop := (r = -2 ∧ ∀ b, b < n → 1000 ≤ d0 b + d1 b) ∨ ∃ b, b < n ∧ r = nI b ∧ d0 b + d1 b < 1000 ∧ (∀ c, c < n → d0 b + d1 b ≤ d0 c + d1 c) ∧ ∀ c, c < b → d0 b + d1 b < d0 c + d1 c
theorem m_valley (fu : Nat) (hfu : 40000 < fu) {n m : Nat} {S T L : Nat → Nat} {om sm : Int32} {lm cm tm : Nat → Int32} (hp : SyP n m S T L) (hx : Sy n m S T L om sm lm cm tm) {above : Nat → Nat → Int32} {w : Nat → Nat → Bool} (hw : Rt above w) {f g : Nat} (hf : f < m) (hg : g < m) (M0 : Nat → Nat → Int32) :
    tot (f_X12_valleyOfPeak fu om sm (nI f) (nI g) above lm M0 cm tm) (fun q => BfP (EN m S T L w (L f) (L g)) (fun z => z = 2 * T f) (q.2 0) ∧ BfP (EN m S T L w (L g) (L f)) (fun z => z = 2 * T g) (q.2 1) ∧ valS n (dl (q.2 0)) (dl (q.2 1)) q.1) := by
  have hn := hp.1
  have h1 := hp.2.2 f hf
  have h2 := hp.2.2 g hg
  unfold f_X12_valleyOfPeak
  obtain ⟨M1, e1, e2, _⟩ := m_side fu hfu hp hx hw (sd := 0) (st := f) (ot := g) (f := f) (g := g) (Or.inl ⟨rfl, rfl, rfl⟩) hf hg M0
  obtain ⟨M2, e3, e4, e5⟩ := m_side fu hfu hp hx hw (sd := 1) (st := g) (ot := f) (f := f) (g := g) (Or.inr ⟨rfl, rfl, rfl⟩) hg hf M1
  have e6 : M2 0 = M1 0 := funext (fun x => e5 0 x (by decide))
  rw [← e6] at e2
  rw [show f_X12_findSide fu sm (nI f) (nI g) above lm M0 cm tm 0 = some M1 from e1]
  simp only [Option.bind_some]
  rw [show f_X12_findSide fu sm (nI f) (nI g) above lm M1 cm tm 1 = some M2 from e3]
  simp only [Option.bind_some, lt]
  have h0 := hx.1
  subst h0
  refine lw3 (fun k v1 v2 v3 => ∃ i, v3 = nI i ∧ i + k = n ∧ ((v1 = -2 ∧ v2 = nI 1000 ∧ ∀ c, c < i → 1000 ≤ dl (M2 0) c + dl (M2 1) c) ∨ ∃ b, b < i ∧ v1 = nI b ∧ v2 = nI (dl (M2 0) b + dl (M2 1) b) ∧ dl (M2 0) b + dl (M2 1) b < 1000 ∧ (∀ c, c < i → dl (M2 0) b + dl (M2 1) b ≤ dl (M2 0) c + dl (M2 1) c) ∧ ∀ c, c < b → dl (M2 0) b + dl (M2 1) b < dl (M2 0) c + dl (M2 1) c)) ?_ fu n _ _ _ (by omega) ⟨0, rfl, by omega, Or.inl ⟨rfl, rfl, fun c hc => absurd hc (Nat.not_lt_zero c)⟩⟩
  rintro r k v1 v2 v3 ⟨i, rfl, hi, hv⟩ ih
  unfold f_X12_valleyOfPeak_L19 f_X12_valleyOfPeak_J53
  by_cases hin : i = n
  · subst hin
    rw [if_pos (nI_le (Nat.le_refl i) (by omega))]
    refine tot_some ⟨e2, e4, ?_⟩
    rcases hv with ⟨g1, _, g3⟩ | ⟨b, g1, g2, _, g4, g5, g6⟩
    · exact Or.inl ⟨g1, g3⟩
    · exact Or.inr ⟨b, g1, g2, g4, g5, g6⟩
  · rw [if_neg (nI_ge (a := i) (by omega) (by omega))]
    rw [show f_X12_lengthTo M2 0 (nI i) = _ from m_lengthTo (sd := 0) (by decide) e2 (show i < 16 by omega)]
    simp only [Option.bind_some]
    rw [show f_X12_lengthTo M2 1 (nI i) = _ from m_lengthTo (sd := 1) (by decide) e4 (show i < 16 by omega)]
    simp only [Option.bind_some, lt, nI_add, nI_1]
    have l1 := (dl_P e2 (show i < 16 by omega)).1
    have l2 := (dl_P e4 (show i < 16 by omega)).1
    rcases hv with ⟨rfl, rfl, g3⟩ | ⟨b, g1, rfl, rfl, g4, g5, g6⟩
    · simp (disch := omega) only [nI_leI]
      by_cases hle : 1000 ≤ dl (M2 0) i + dl (M2 1) i
      · rw [if_pos hle]
        refine ih (k - 1) _ _ _ (by omega) ⟨i + 1, rfl, by omega, Or.inl ⟨rfl, rfl, fun c hc => ?_⟩⟩
        by_cases hci : c = i
        · subst hci
          exact hle
        · exact g3 c (by omega)
      · rw [if_neg hle]
        refine ih (k - 1) _ _ _ (by omega) ⟨i + 1, rfl, by omega, Or.inr ⟨i, by omega, rfl, rfl, by omega, fun c hc => ?_, fun c hc => ?_⟩⟩
        · by_cases hci : c = i
          · subst hci
            exact Nat.le_refl _
          · have := g3 c (by omega)
            omega
        · have := g3 c hc
          omega
    · simp (disch := omega) only [nI_leI]
      by_cases hle : dl (M2 0) b + dl (M2 1) b ≤ dl (M2 0) i + dl (M2 1) i
      · rw [if_pos hle]
        refine ih (k - 1) _ _ _ (by omega) ⟨i + 1, rfl, by omega, Or.inr ⟨b, by omega, rfl, rfl, g4, fun c hc => ?_, g6⟩⟩
        by_cases hci : c = i
        · subst hci
          exact hle
        · exact g5 c (by omega)
      · rw [if_neg hle]
        refine ih (k - 1) _ _ _ (by omega) ⟨i + 1, rfl, by omega, Or.inr ⟨i, by omega, rfl, rfl, by omega, fun c hc => ?_, fun c hc => ?_⟩⟩
        · by_cases hci : c = i
          · subst hci
            exact Nat.le_refl _
          · have := g5 c (by omega)
            omega
        · have := g5 c (by omega)
          omega
theorem valS_Dec {n m : Nat} {S T L : Nat → Nat} {w : Nat → Nat → Bool} (hp : SyP n m S T L) {f g : Nat} (hf : f < m) (hg : g < m) {d0 d1 : Nat → Nat} (h0 : ∀ b, b < n → LnP (EN m S T L w (L f) (L g)) (2 * T f) b (d0 b)) (h1 : ∀ b, b < n → LnP (EN m S T L w (L g) (L f)) (2 * T g) b (d1 b)) {r : Int32} (h : valS n d0 d1 r) : r = -2 ↔ ¬ Dec n m S T L w f g := by
  have hn := hp.1
  have g1 := hp.2.2 f hf
  have g2 := hp.2.2 g hg
  rcases h with ⟨rfl, h⟩ | ⟨b, hb, rfl, h2, _⟩
  · refine ⟨fun _ => ?_, fun _ => rfl⟩
    rintro ⟨b, hb, h3, h4⟩
    have a1 := (LnP_Su hp g1.2.1 (h0 b hb)).mpr h3
    have a2 := (LnP_Su hp g2.2.1 (h1 b hb)).mpr h4
    have a3 := LnP_lt (EN_in hp) (show 2 * T f < 2 * n by omega) (h0 b hb) a1
    have a4 := LnP_lt (EN_in hp) (show 2 * T g < 2 * n by omega) (h1 b hb) a2
    have := h b hb
    omega
  · refine ⟨fun h => absurd h (nI_ne2 (by omega)), fun h => absurd ?_ h⟩
    exact ⟨b, hb, (LnP_Su hp g1.2.1 (h0 b hb)).mp (by omega), (LnP_Su hp g2.2.1 (h1 b hb)).mp (by omega)⟩
theorem m_val2 (fu : Nat) (hfu : 40000 < fu) {n m : Nat} {S T L : Nat → Nat} {om sm : Int32} {lm cm tm : Nat → Int32} (hp : SyP n m S T L) (hx : Sy n m S T L om sm lm cm tm) {above : Nat → Nat → Int32} {w : Nat → Nat → Bool} (hw : Rt above w) {f g : Nat} (hf : f < m) (hg : g < m) (M0 : Nat → Nat → Int32) :
    ∃ r M, f_X12_valleyOfPeak fu om sm (nI f) (nI g) above lm M0 cm tm = some (r, M) ∧ BfP (EN m S T L w (L f) (L g)) (fun z => z = 2 * T f) (M 0) ∧ BfP (EN m S T L w (L g) (L f)) (fun z => z = 2 * T g) (M 1) ∧ valS n (dl (M 0)) (dl (M 1)) r ∧ (r = -2 ↔ ¬ Dec n m S T L w f g) := by
  obtain ⟨⟨r, M⟩, e1, e2, e3, e4⟩ := m_valley fu hfu hp hx hw hf hg M0
  have hn := hp.1
  exact ⟨r, M, e1, e2, e3, e4, valS_Dec hp hf hg (fun b hb => dl_P e2 (by omega)) (fun b hb => dl_P e3 (by omega)) e4⟩
theorem m_pkd (fu : Nat) (hfu : 40000 < fu) {n m : Nat} {S T L : Nat → Nat} {om sm : Int32} {lm cm tm : Nat → Int32} (hp : SyP n m S T L) (hx : Sy n m S T L om sm lm cm tm) {above : Nat → Nat → Int32} {w : Nat → Nat → Bool} (hw : Rt above w) {f g : Nat} (hf : f < m) (hg : g < m) (M0 : Nat → Nat → Int32) :
    ∃ r M, f_X12_isPeakDecreasing fu om sm above lm M0 cm tm (nI f) (nI g) = some (r, nI f, M, nI g) ∧ ((r = 1 ∧ Dec n m S T L w f g) ∨ (r = 0 ∧ ¬ Dec n m S T L w f g)) := by
  obtain ⟨r, M, e1, _, _, _, e5⟩ := m_val2 fu hfu hp hx hw hf hg M0
  unfold f_X12_isPeakDecreasing
  simp only [lt]
  rw [e1]
  simp only [Option.bind_some]
  by_cases h : r = -2
  · rw [if_pos h]
    exact ⟨_, _, rfl, Or.inr ⟨rfl, e5.mp h⟩⟩
  · rw [if_neg h]
    exact ⟨_, _, rfl, Or.inl ⟨rfl, Classical.byContradiction (fun hc => h (e5.mpr hc))⟩⟩
theorem s_isDecreasing (fu : Nat) (hfu : 40000 < fu) {n m : Nat} {S T L : Nat → Nat} {ox sx om sm : Int32} {lx cx tx lm cm tm : Nat → Int32} (hp : SyP n m S T L) (hx : Sy n m S T L ox sx lx cx tx) (hm : Sy n m S T L om sm lm cm tm) {below : Nat → Int32} {above : Nat → Nat → Int32} {w : Nat → Nat → Bool} (hb : Rb below w) (ha : Rt above w) (f0 g0 : Nat → Int32) (a0 b0 : Int32) (M0 : Nat → Nat → Int32) (v1 : Int32) :
    ∃ (r pc : Int32) (f g : Nat → Int32) (a b : Int32) (M : Nat → Nat → Int32), f_X11_isDecreasing fu ox sx below f0 g0 lx cx tx v1 = some (r, pc, f, g) ∧ f_X12_isDecreasing fu om sm a0 b0 above lm M0 cm tm v1 = some (r, a, M, b) := by
  have hlen := PK_len S hp.2.1
  obtain ⟨f, g, e1, e3⟩ := x_coll fu (by omega) hp hx f0 g0
  obtain ⟨⟨t, a, b⟩, e4, e5⟩ := m_peak fu (by omega) hp hm a0 b0 v1
  unfold f_X11_isDecreasing f_X12_isDecreasing
  rw [e1, e4]
  simp only [Option.bind_some, has_x, bI_ifn]
  rcases e5 with ⟨h1, h2, i, p, h3, h4, h5, h6⟩ | ⟨h1, h2⟩
  · have h1 : t = 1 := h1
    have h5 : a = nI p.1 := h5
    have h6 : b = nI p.2 := h6
    subst h1 h3 h5 h6
    have hpk := PK_at h4
    rw [h2]
    simp only [↓reduceIte]
    rw [if_pos (show ¬ (1 : Int32) = 0 by decide)]
    obtain ⟨q, e6, e7⟩ := x_decr fu (by omega) hp hx hb e3 h4
    obtain ⟨r, M, e8, _, _, _, e9⟩ := m_val2 fu hfu hp hm ha (show p.1 < m by omega) (show p.2 < m by omega) M0
    rw [e6, e8]
    simp only [Option.bind_some]
    rcases e7 with ⟨rfl, h⟩ | ⟨rfl, h⟩
    · rw [if_neg (by decide), if_pos (fun hc => e9.mp hc h)]
      exact ⟨_, _, _, _, _, _, _, rfl, rfl⟩
    · rw [if_pos rfl, if_neg (fun hc => hc (e9.mpr h))]
      exact ⟨_, _, _, _, _, _, _, rfl, rfl⟩
  · cases h1
    rw [h2]
    exact ⟨_, _, _, _, _, _, _, rfl, rfl⟩
