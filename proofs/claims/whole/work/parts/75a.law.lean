section LCASES
variable {p : Program} {l : Launch} {e : Env} {s : State} {m : MethodId} {below : List Frame} {meth : Method} {c : Code} {b L : Nat} {xs : Nat → Int32} {D : va_G} {G : Nat → ClassId} {aX aM : List (List Nat)} {hX : Nat → Nat} {rX : Nat → Nat → Nat} {hM : Nat → Nat} {rM : Nat → Nat → Nat} {v : Nat → Nat → Int32} {j : Nat → Nat → Int64} {w : Nat → Nat → Int32} {t : Nat → Nat → Nat → Int32} {q : Nat → Nat → Int64} {H : Heap} {locs : List Loc} {ls : Array Slot} {x3 : Int32}
def lwT : List Nat := [252, 285, 318, 351, 364, 377, 420, 443, 476, 489, 502, 515, 538, 561, 584, 617, 640, 663, 686, 699, 722, 735, 748, 761, 774, 807, 830, 853, 886, 929, 942, 955, 978, 1001, 1024, 1047, 1070, 1083, 1106, 1119, 1132, 1145, 1168, 1191, 1224, 1257, 1330, 1364, 1387, 1410, 1423]
def lwO : Array Int := #[220, 253, 286, 319, 332, 345, 388, 411, 444, 457, 470, 483, 506, 529, 552, 585, 608, 631, 654, 667, 690, 703, 716, 729, 742, 775, 798, 821, 854, 897, 910, 923, 946, 969, 992, 1015, 1038, 1051, 1074, 1087, 1100, 1113, 1136, 1159, 1192, 1225, 1298, 1332, 1355, 1378, 1391]
theorem law_sw (SS : LwS p s m meth c b L xs D G aX aM) (hR : Rel v j w t q) (hPX : xW D aX (IX G hX rX v j) H) (hPM : xW D aM (IM G hM rM w t q) H) (hS : va_S (fun q : Nat => s.heap.size ≤ q) s.heap H locs) (hl : lv_has ls 4 [(0, .ref b), (1, .ref (hX 0)), (2, .ref (hM 0)), (3, .int x3)]) (hi : LIn x3 L) (kk : LK p l e s m below meth c b D G aX aM hX rX hM rM 1436 ls) : ∀ k, k < 51 → W p l e room_1 s m #[Value.ref b] below meth c H locs 600000 7302249 (lw_Z below #[Value.ref b] s) (F0 m (lwT.getD k 0) ls [])
  | 0, _ => lk_addGreater SS hR hPX hPM hS hl hi kk
  | 1, _ => lk_removeGreater SS hR hPX hPM hS hl hi kk
  | 2, _ => lk_isGreater SS hR hPX hPM hS hl hi kk
  | 3, _ => lk_useNaturalOrder SS hR hPX hPM hS hl hi kk
  | 4, _ => lk_addObject SS hR hPX hPM hS hl hi kk
  | 5, _ => lk_addStep SS hR hPX hPM hS hl hi kk
  | 6, _ => lk_removeStep SS hR hPX hPM hS hl hi kk
  | 7, _ => lk_setLabel SS hR hPX hPM hS hl hi kk
  | 8, _ => lk_clearSystem SS hR hPX hPM hS hl hi kk
  | 9, _ => lk_objectCount SS hR hPX hPM hS hl hi kk
  | 10, _ => lk_stepCount SS hR hPX hPM hS hl hi kk
  | 11, _ => lk_source SS hR hPX hPM hS hl hi kk
  | 12, _ => lk_target SS hR hPX hPM hS hl hi kk
  | 13, _ => lk_label SS hR hPX hPM hS hl hi kk
  | 14, _ => lk_distance SS hR hPX hPM hS hl hi kk
  | 15, _ => lk_reachable SS hR hPX hPM hS hl hi kk
  | 16, _ => lk_normalForm SS hR hPX hPM hS hl hi kk
  | 17, _ => lk_component SS hR hPX hPM hS hl hi kk
  | 18, _ => lk_isTerminating SS hR hPX hPM hS hl hi kk
  | 19, _ => lk_longestPath SS hR hPX hPM hS hl hi kk
  | 20, _ => lk_isConfluent SS hR hPX hPM hS hl hi kk
  | 21, _ => lk_counterexample SS hR hPX hPM hS hl hi kk
  | 22, _ => lk_isLocallyConfluent SS hR hPX hPM hS hl hi kk
  | 23, _ => lk_peakCount SS hR hPX hPM hS hl hi kk
  | 24, _ => lk_peakStep SS hR hPX hPM hS hl hi kk
  | 25, _ => lk_isDecreasing SS hR hPX hPM hS hl hi kk
  | 26, _ => lk_valley SS hR hPX hPM hS hl hi kk
  | 27, _ => lk_joinLength SS hR hPX hPM hS hl hi kk
  | 28, _ => lk_joinStep SS hR hPX hPM hS hl hi kk
  | 29, _ => lk_decreasingCount SS hR hPX hPM hS hl hi kk
  | 30, _ => lk_firstFailure SS hR hPX hPM hS hl hi kk
  | 31, _ => lk_draw SS hR hPX hPM hS hl hi kk
  | 32, _ => lk_output SS hR hPX hPM hS hl hi kk
  | 33, _ => lk_findLabelling SS hR hPX hPM hS hl hi kk
  | 34, _ => lk_labellingCount SS hR hPX hPM hS hl hi kk
  | 35, _ => lk_foundLabel SS hR hPX hPM hS hl hi kk
  | 36, _ => lk_applyLabelling SS hR hPX hPM hS hl hi kk
  | 37, _ => lk_feed SS hR hPX hPM hS hl hi kk
  | 38, _ => lk_addRule SS hR hPX hPM hS hl hi kk
  | 39, _ => lk_clearRules SS hR hPX hPM hS hl hi kk
  | 40, _ => lk_explore SS hR hPX hPM hS hl hi kk
  | 41, _ => lk_failure SS hR hPX hPM hS hl hi kk
  | 42, _ => lk_wordLength SS hR hPX hPM hS hl hi kk
  | 43, _ => lk_letter SS hR hPX hPM hS hl hi kk
  | 44, _ => lk_newArray SS hR hPX hPM hS hl hi kk
  | 45, _ => lk_setElement SS hR hPX hPM hS hl hi kk
  | 46, _ => lk_element SS hR hPX hPM hS hl hi kk
  | 47, _ => lk_saveReachable SS hR hPX hPM hS hl hi kk
  | 48, _ => lk_compareReachable SS hR hPX hPM hS hl hi kk
  | 49, _ => lk_saveSnapshot SS hR hPX hPM hS hl hi kk
  | 50, _ => lk_restoreSnapshot SS hR hPX hPM hS hl hi kk
  | k + 51, h => absurd h (by omega)
theorem lw_tb : ∀ k, k < 51 → lwO[k]? = some (lwO.toList.getD k 0) ∧ (32 : Int) + lwO.toList.getD k 0 = ((lwT.getD k 0 : Nat) : Int) := by decide +kernel
theorem lw_c1 : ∀ L, L < 5 → ∀ i, i < 5 → Int32.ofNat L - 5 < nI i := by decide +kernel
theorem lw_cond {i L : Nat} (hi : i ≤ L) (hL : L ≤ 2560) (h : ¬ Int32.ofNat L - 5 < nI i) : i + 5 ≤ L := by
  rcases Nat.lt_or_ge L 5 with h5 | h5
  · exact absurd (lw_c1 L h5 i (by omega)) h
  · obtain ⟨k, rfl⟩ : ∃ k, L = k + 5 := ⟨L - 5, by omega⟩
    have e : Int32.ofNat (k + 5) - 5 = nI k := by
      show nI (k + 5) - 5 = nI k
      rw [← nI_add k 5]
      exact Int32.add_sub_cancel _ _
    rw [e] at h
    rcases Nat.lt_or_ge k i with q | q
    · exact absurd (nI_lt q (by omega)) h
    · omega
end LCASES
set_option maxHeartbeats 4000000 in
set_option maxRecDepth 20000 in
theorem law_loop {p : Program} {l : Launch} {e : Env} {s : State} {m : MethodId} {below : List Frame} {meth : Method} {c : Code} {b L : Nat} {xs : Nat → Int32} {D : va_G} {G : Nat → ClassId} {aX aM : List (List Nat)} {hX : Nat → Nat} {rX : Nat → Nat → Nat} {hM : Nat → Nat} {rM : Nat → Nat → Nat} (hL : L ≤ 2560) (SS : LwS p s m meth c b L xs D G aX aM) :
    ∀ (n i : Nat) (x3 : Int32), i ≤ L → L + 1 ≤ i + n → x3 = nI i → ∀ (v : Nat → Nat → Int32) (j : Nat → Nat → Int64) (w : Nat → Nat → Int32) (t : Nat → Nat → Nat → Int32) (q : Nat → Nat → Int64) (H : Heap) (locs : List Loc), Rel v j w t q → xW D aX (IX G hX rX v j) H → xW D aM (IM G hM rM w t q) H → va_S (fun q : Nat => s.heap.size ≤ q) s.heap H locs → ∀ (ls : Array Slot), lv_has ls 4 [(0, .ref b), (1, .ref (hX 0)), (2, .ref (hM 0)), (3, .int x3)] → W p l e room_1 s m #[Value.ref b] below meth c H locs 600000 7302249 (lw_Z below #[Value.ref b] s) (F0 m 18 ls []) := by
  obtain ⟨⟨hx, hb, hr, hml, hown, hts, hXb, hbl, hlocks, hgv⟩, hE, hNX, hNM, hd, hAX, hAM⟩ := id SS
  have hbA : ¬ (fun q : Nat => s.heap.size ≤ q) b := Nat.not_le.mpr hbl
  intro n
  induction n with
  | zero =>
    intro i x3 h1 h2
    exact absurd h2 (by omega)
  | succ n ih =>
    intro i x3 hi hin ex3 v j w t q H locs hR hPX hPM hS ls hl
    refine lv_iload_n hx hb dL_law_18 rfl (lv_at hl 3 rfl) ?_
    refine lv_aload_n hx hb dL_law_19 rfl (lv_at hl 0 rfl) ?_
    refine va_slen hx hb hXb hbl hbA hS dL_law_20 ?_
    refine lv_iconst (v := 5) hx hb dL_law_21 (by decide) ?_
    refine lv_isub hx hb dL_law_22 ?_
    refine lv_icmp_gt (tgt := 1442) hx hb dL_law_23 (by decide) (fun c_ => ?_) (fun c_ => ?_)
    · refine lv_iconst (v := 1) hx hb dL_law_1442 (by decide) ?_
      refine va_forget (fun q hq => hS.2.2 q hq) ?_
      exact lw_ret hx hb hr hlocks dL_law_1443
    · rw [ex3] at c_
      have h5 : i + 5 ≤ L := lw_cond hi hL c_
      have hv : ∀ k, k < 5 → vp_in (nI (i + k)) L := fun k hk => vp_in_nI (by omega) (by omega)
      have h0 : vp_in x3 L := by rw [ex3]; exact hv 0 (by omega)
      have hI : LIn x3 L := by
        rw [ex3]
        refine ⟨?_, ?_, ?_, ?_⟩
        · rw [show nI i + 1 = nI (i + 1) from nI_add i 1]; exact hv 1 (by omega)
        · rw [show nI i + 2 = nI (i + 2) from nI_add i 2]; exact hv 2 (by omega)
        · rw [show nI i + 3 = nI (i + 3) from nI_add i 3]; exact hv 3 (by omega)
        · rw [show nI i + 4 = nI (i + 4) from nI_add i 4]; exact hv 4 (by omega)
      refine lv_aload_n hx hb dL_law_26 rfl (lv_at hl 0 rfl) ?_
      refine lv_iload_n hx hb dL_law_27 rfl (lv_at hl 3 rfl) ?_
      refine va_sld hx hb hXb hbl hbA hS h0 dL_law_28 ?_
      refine lv_bipush (v := 63) hx hb dL_law_29 (by decide) ?_
      refine lv_iand hx hb dL_law_31 ?_
      generalize xs x3.toNatClampNeg &&& 63 = y
      have hk : LK p l e s m below meth c b D G aX aM hX rX hM rM 1436 ls := by
        intro v j w t q H locs hR hPX hPM hS
        obtain ⟨x3', ex3'⟩ : ∃ y : Int32, y = x3 + 5 := ⟨_, rfl⟩
        refine lv_iinc (v := x3') (lv' := [(3, .int x3'), (0, .ref b), (1, .ref (hX 0)), (2, .ref (hM 0))]) hx hb dL_law_1436 hl (k := 3) rfl (by rw [ex3']; rfl) (by decide) rfl (fun ls hl => ?_)
        refine lv_goto (tgt := 18) hx hb dL_law_1439 (by decide) ?_
        exact ih (i + 5) x3' h5 (by omega) (by rw [ex3', ex3]; exact nI_add i 5) v j w t q H locs hR hPX hPM hS ls (lv_sub hl [1, 2, 3, 0] rfl)
      by_cases g0 : y.toInt < 0
      · exact lv_tableOut (tgt := 1436) hx hb dL_law_32 (Or.inl g0) (by decide) (hk v j w t q H locs hR hPX hPM hS)
      by_cases g1 : 50 < y.toInt
      · exact lv_tableOut (tgt := 1436) hx hb dL_law_32 (Or.inr g1) (by decide) (hk v j w t q H locs hR hPX hPM hS)
      obtain ⟨k, hk1⟩ : ∃ k : Nat, y.toInt = (k : Int) := ⟨y.toInt.toNat, by omega⟩
      have hk2 : k < 51 := by omega
      obtain ⟨t1, t2⟩ := lw_tb k hk2
      exact lv_tableIn (off := lwO.toList.getD k 0) (tgt := lwT.getD k 0) hx hb dL_law_32 g0 g1 (by rw [hk1, Int.sub_zero, Int.toNat_natCast]; exact t1) t2 (law_sw SS hR hPX hPM hS hl hI hk k hk2)
