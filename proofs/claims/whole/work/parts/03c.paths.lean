set_option maxRecDepth 20000 in
theorem u_X0_connect_X0 : ∀ w ∈ wsX00, w ∈ wsX0_connect := xx_pl _ [24, 25, 26, 27] (by decide +kernel)
def f_X0_connect_J38 (v1 : Int32) (v3 : Int32) (v4 : Int32) (draft_labels : (Nat → Int32)) (draft_objects : Int32) (draft_sources : (Nat → Int32)) (draft_steps : Int32) (draft_targets : (Nat → Int32)) (draft_words : (Nat → Int32)) : Option (Int32 × (Nat → Int32) × Int32 × (Nat → Int32) × Int32 × (Nat → Int32) × (Nat → Int32)) :=
  if ¬ v4 = (-3) then ((f_X3_isJoined draft_steps draft_labels draft_sources draft_targets v1 v4 v3).bind (fun r_55 => if r_55 = 0 then ((f_X3_appendStep draft_steps draft_labels draft_sources draft_targets v1 v4 v3).bind (fun r_72 => if ¬ r_72.1 = (-3) then (some ((-2), r_72.2.1, draft_objects, r_72.2.2.1, r_72.2.2.2.1, r_72.2.2.2.2, draft_words)) else (some (2, r_72.2.1, draft_objects, r_72.2.2.1, r_72.2.2.2.1, r_72.2.2.2.2, draft_words)))) else (some ((-2), draft_labels, draft_objects, draft_sources, draft_steps, draft_targets, draft_words)))) else (some (1, draft_labels, draft_objects, draft_sources, draft_steps, draft_targets, draft_words))
def f_X0_connect (draft_objects : Int32) (draft_steps : Int32) (draft_labels : (Nat → Int32)) (draft_sources : (Nat → Int32)) (draft_targets : (Nat → Int32)) (draft_words : (Nat → Int32)) (v1 : Int32) (v2 : Int32) (v3 : Int32) : Option (Int32 × (Nat → Int32) × Int32 × (Nat → Int32) × Int32 × (Nat → Int32) × (Nat → Int32)) :=
  (f_X10_lengthOf v2).bind (fun r_1 => if r_1 ≤ 8 then ((f_X3_objectOf draft_objects draft_words v2).bind (fun r_16 => lt r_16 (fun v4_19 => if ¬ v4_19 = (-2) then (f_X0_connect_J38 v1 v3 v4_19 draft_labels draft_objects draft_sources draft_steps draft_targets draft_words) else ((f_X3_appendObject draft_objects draft_words v2).bind (fun r_33 => lt r_33.1 (fun v4_36 => f_X0_connect_J38 v1 v3 v4_36 draft_labels r_33.2.1 draft_sources draft_steps draft_targets r_33.2.2)))))) else (some (0, draft_labels, draft_objects, draft_sources, draft_steps, draft_targets, draft_words)))
set_option maxHeartbeats 4000000 in
set_option maxRecDepth 100000 in
theorem k_X0_connect (l : Launch) (D : va_G) (G : Nat → ClassId) (h : Nat) (h_draft : Nat) (a_draft_words : Nat) (a_draft_sources : Nat) (a_draft_targets : Nat) (a_draft_labels : Nat) (failedObject : Int32) (failedRule : Int32) (failedLimit : Int32) (draft_objects : Int32) (draft_steps : Int32) (draft_labels : (Nat → Int32)) (draft_sources : (Nat → Int32)) (draft_targets : (Nat → Int32)) (draft_words : (Nat → Int32))  (v1 : Int32) (v2 : Int32) (v3 : Int32) (out : Int32 × (Nat → Int32) × Int32 × (Nat → Int32) × Int32 × (Nat → Int32) × (Nat → Int32)) (hf : f_X0_connect draft_objects draft_steps draft_labels draft_sources draft_targets draft_words v1 v2 v3 = some out) : xMet l yX0_connect wsX0_connect (rM 1 24) D G [.ref h, .int v1, .int v2, .int v3] [[(h, .inr (0, [.ref h_draft, .int failedObject, .int failedRule, .int failedLimit]))], [(h_draft, .inr (3, [.int draft_objects, .ref a_draft_words, .int draft_steps, .ref a_draft_sources, .ref a_draft_targets, .ref a_draft_labels]))], [(a_draft_labels, .inl (G 0, 32, .inl draft_labels))], [(a_draft_sources, .inl (G 0, 32, .inl draft_sources))], [(a_draft_targets, .inl (G 0, 32, .inl draft_targets))], [(a_draft_words, .inl (G 0, 16, .inl draft_words))]] (xQi D [[(h, .inr (0, [.ref h_draft, .int failedObject, .int failedRule, .int failedLimit]))], [(h_draft, .inr (3, [.int out.2.2.1, .ref a_draft_words, .int out.2.2.2.2.1, .ref a_draft_sources, .ref a_draft_targets, .ref a_draft_labels]))], [(a_draft_labels, .inl (G 0, 32, .inl out.2.1))], [(a_draft_sources, .inl (G 0, 32, .inl out.2.2.2.1))], [(a_draft_targets, .inl (G 0, 32, .inl out.2.2.2.2.2.1))], [(a_draft_words, .inl (G 0, 16, .inl out.2.2.2.2.2.2))]] out.1) := by
  refine x_ent (cc := cX0_connect) (maxL := 5) (by decide) rfl (Nat.le_of_ble_eq_true rfl) ?_
  intro p e s m below meth c aa ls args Q hQ hx hb hr hml hown hts hlocks hE hN hP hl hS
  have hown : s.vm.findClass RX0 = some m.cls := hown
  have hl : lv_has ls 5 [(0, .ref h), (1, .int v1), (2, .int v2), (3, .int v3)] := hl
  have J38 : ∀ (v4 : Int32) (draft_labels : (Nat → Int32)) (draft_objects : Int32) (draft_sources : (Nat → Int32)) (draft_steps : Int32) (draft_targets : (Nat → Int32)) (draft_words : (Nat → Int32)) (H : Heap) (locs : List Loc) (ls : Array Slot), xW D aa [[(h, .inr (0, [.ref h_draft, .int failedObject, .int failedRule, .int failedLimit]))], [(h_draft, .inr (3, [.int draft_objects, .ref a_draft_words, .int draft_steps, .ref a_draft_sources, .ref a_draft_targets, .ref a_draft_labels]))], [(a_draft_labels, .inl (G 0, 32, .inl draft_labels))], [(a_draft_sources, .inl (G 0, 32, .inl draft_sources))], [(a_draft_targets, .inl (G 0, 32, .inl draft_targets))], [(a_draft_words, .inl (G 0, 16, .inl draft_words))]] H → va_S (xA aa) s.heap H locs → lv_has ls 5 [(0, .ref h), (1, .int v1), (3, .int v3), (4, .int v4)] → f_X0_connect_J38 v1 v3 v4 draft_labels draft_objects draft_sources draft_steps draft_targets draft_words = some out → W p l e (rM 1 24) s m args below meth c H locs 0 0 Q (F0 m 38 ls []) := by
    intro v4 draft_labels draft_objects draft_sources draft_steps draft_targets draft_words  H locs ls  hP hS hl hf
    rw [f_X0_connect_J38] at hf
    refine lv_iload hx hb dX0_connect_38 (lv_at hl 3 rfl) ?_
    refine lv_bipush (v := -3) hx hb dX0_connect_40 (by decide) ?_
    refine lv_icmp_ne (tgt := 47) hx hb dX0_connect_42 (by decide) (fun c_42 => ?_) (fun c_42 => ?_)
    · have hf := it_pos c_42 hf
      refine lv_aload_n hx hb dX0_connect_47 rfl (lv_at hl 0 rfl) ?_
      refine x_get hx hb hts u_X0_connect_X0 hown hE hP 0 rfl rfl 0 (by decide) (hts (.fieldLink RX0 12 "DecreasingDiagrams$Explorer" "draft" "LDecreasingDiagrams$LabelledSystem;") (List.mem_of_getElem? (i := 1) rfl)) rfl dX0_connect_48 ?_
      refine lv_iload_n hx hb dX0_connect_51 rfl (lv_at hl 1 rfl) ?_
      refine lv_iload hx hb dX0_connect_52 (lv_at hl 3 rfl) ?_
      refine lv_iload_n hx hb dX0_connect_54 rfl (lv_at hl 2 rfl) ?_
      obtain ⟨r_55, hr_55, hf⟩ := bd_some hf
      refine x_goi (ps := [1, 2, 3, 4]) (I' := [[(h, .inr (0, [.ref h_draft, .int failedObject, .int failedRule, .int failedLimit]))], [(h_draft, .inr (3, [.int draft_objects, .ref a_draft_words, .int draft_steps, .ref a_draft_sources, .ref a_draft_targets, .ref a_draft_labels]))], [(a_draft_labels, .inl (G 0, 32, .inl draft_labels))], [(a_draft_sources, .inl (G 0, 32, .inl draft_sources))], [(a_draft_targets, .inl (G 0, 32, .inl draft_targets))], [(a_draft_words, .inl (G 0, 16, .inl draft_words))]]) (x_runVN (As := [.int v1, .int v4, .int v3]) (rest := []) (ps := [1, 2, 3, 4]) ⟨hx, hb, hml, hown, hts⟩ (k_X3_isJoined l D G h_draft a_draft_words a_draft_sources a_draft_targets a_draft_labels draft_objects draft_steps draft_labels draft_sources draft_targets v1 v4 v3 r_55 hr_55) ⟨va_cnB 3 hts gX0_connect_X3_isJoined_n76 rfl rfl rfl (hE.2 (.methodLinkNest RX0 76 yX3_isJoined RX11) (List.mem_of_getElem? (i := 106) rfl)) (hts (.initialized RX3) (List.mem_of_getElem? (i := 6) rfl)) (by decide +kernel) ⟨Nat.le_of_ble_eq_true rfl, Nat.le_of_ble_eq_true rfl⟩, (hts (.instanceMethod yX3_isJoined) (List.mem_of_getElem? (i := 14) rfl)), (hts (.selects RX3 yX3_isJoined yX3_isJoined) (List.mem_of_getElem? (i := 15) rfl))⟩ hE hP hN rfl (by decide) 1 rfl rfl rfl hl.1 (Nat.le_of_ble_eq_true rfl) dX0_connect_55 ⟨Nat.zero_le _, Nat.zero_le _⟩) hP hN hS rfl rfl (fun H locs hP hS => ?_)
      refine lv_if_eq (tgt := 64) hx hb dX0_connect_58 (by decide) (fun c_58 => ?_) (fun c_58 => ?_)
      · have hf := it_pos c_58 hf
        refine lv_aload_n hx hb dX0_connect_64 rfl (lv_at hl 0 rfl) ?_
        refine x_get hx hb hts u_X0_connect_X0 hown hE hP 0 rfl rfl 0 (by decide) (hts (.fieldLink RX0 12 "DecreasingDiagrams$Explorer" "draft" "LDecreasingDiagrams$LabelledSystem;") (List.mem_of_getElem? (i := 1) rfl)) rfl dX0_connect_65 ?_
        refine lv_iload_n hx hb dX0_connect_68 rfl (lv_at hl 1 rfl) ?_
        refine lv_iload hx hb dX0_connect_69 (lv_at hl 3 rfl) ?_
        refine lv_iload_n hx hb dX0_connect_71 rfl (lv_at hl 2 rfl) ?_
        obtain ⟨r_72, hr_72, hf⟩ := bd_some hf
        refine x_goi (ps := [1, 2, 3, 4]) (I' := [[(h, .inr (0, [.ref h_draft, .int failedObject, .int failedRule, .int failedLimit]))], [(h_draft, .inr (3, [.int draft_objects, .ref a_draft_words, .int r_72.2.2.2.1, .ref a_draft_sources, .ref a_draft_targets, .ref a_draft_labels]))], [(a_draft_labels, .inl (G 0, 32, .inl r_72.2.1))], [(a_draft_sources, .inl (G 0, 32, .inl r_72.2.2.1))], [(a_draft_targets, .inl (G 0, 32, .inl r_72.2.2.2.2))], [(a_draft_words, .inl (G 0, 16, .inl draft_words))]]) (x_runVN (As := [.int v1, .int v4, .int v3]) (rest := []) (ps := [1, 2, 3, 4]) ⟨hx, hb, hml, hown, hts⟩ (k_X3_appendStep l D G h_draft a_draft_words a_draft_sources a_draft_targets a_draft_labels draft_objects draft_steps draft_labels draft_sources draft_targets v1 v4 v3 r_72 hr_72) ⟨va_cnB 3 hts gX0_connect_X3_appendStep_n79 rfl rfl rfl (hE.2 (.methodLinkNest RX0 79 yX3_appendStep RX11) (List.mem_of_getElem? (i := 107) rfl)) (hts (.initialized RX3) (List.mem_of_getElem? (i := 6) rfl)) (by decide +kernel) ⟨Nat.le_of_ble_eq_true rfl, Nat.le_of_ble_eq_true rfl⟩, (hts (.instanceMethod yX3_appendStep) (List.mem_of_getElem? (i := 21) rfl)), (hts (.selects RX3 yX3_appendStep yX3_appendStep) (List.mem_of_getElem? (i := 22) rfl))⟩ hE hP hN rfl (by decide) 1 rfl rfl rfl hl.1 (Nat.le_of_ble_eq_true rfl) dX0_connect_72 ⟨Nat.zero_le _, Nat.zero_le _⟩) hP hN hS rfl rfl (fun H locs hP hS => ?_)
        refine lv_bipush (v := -3) hx hb dX0_connect_75 (by decide) ?_
        refine lv_icmp_ne (tgt := 84) hx hb dX0_connect_77 (by decide) (fun c_77 => ?_) (fun c_77 => ?_)
        · have hf := it_pos c_77 hf
          refine lv_bipush (v := -2) hx hb dX0_connect_84 (by decide) ?_
          have hf := Option.some.inj hf
          subst hf
          subst hQ
          exact x_iret hx hb hr hlocks hP hS dX0_connect_86
        · have hf := it_neg (fun h => h c_77) hf
          refine lv_iconst (v := 2) hx hb dX0_connect_80 (by decide) ?_
          refine lv_goto (tgt := 86) hx hb dX0_connect_81 (by decide) ?_
          have hf := Option.some.inj hf
          subst hf
          subst hQ
          exact x_iret hx hb hr hlocks hP hS dX0_connect_86
      · have hf := it_neg c_58 hf
        refine lv_bipush (v := -2) hx hb dX0_connect_61 (by decide) ?_
        have hf := Option.some.inj hf
        subst hf
        subst hQ
        exact x_iret hx hb hr hlocks hP hS dX0_connect_63
    · have hf := it_neg (fun h => h c_42) hf
      refine lv_iconst (v := 1) hx hb dX0_connect_45 (by decide) ?_
      have hf := Option.some.inj hf
      subst hf
      subst hQ
      exact x_iret hx hb hr hlocks hP hS dX0_connect_46
  rw [f_X0_connect] at hf
  obtain ⟨H, hH⟩ : ∃ H : Heap, H = s.heap := ⟨_, rfl⟩
  obtain ⟨locs, hlocs⟩ : ∃ locs : List Loc, locs = [] := ⟨_, rfl⟩
  have hP : xW D aa [[(h, .inr (0, [.ref h_draft, .int failedObject, .int failedRule, .int failedLimit]))], [(h_draft, .inr (3, [.int draft_objects, .ref a_draft_words, .int draft_steps, .ref a_draft_sources, .ref a_draft_targets, .ref a_draft_labels]))], [(a_draft_labels, .inl (G 0, 32, .inl draft_labels))], [(a_draft_sources, .inl (G 0, 32, .inl draft_sources))], [(a_draft_targets, .inl (G 0, 32, .inl draft_targets))], [(a_draft_words, .inl (G 0, 16, .inl draft_words))]] H := by rw [hH]; exact hP
  have hS : va_S (xA aa) s.heap H locs := by rw [hH, hlocs]; exact hS
  suffices GO : W p l e (rM 1 24) s m args below meth c H locs 0 0 Q (F0 m 0 ls []) by
    rw [hH, hlocs] at GO
    exact GO
  clear hH hlocs
  refine lv_iload_n hx hb dX0_connect_0 rfl (lv_at hl 2 rfl) ?_
  obtain ⟨r_1, hr_1, hf⟩ := bd_some hf
  refine x_goi (ps := []) (I' := [[(h, .inr (0, [.ref h_draft, .int failedObject, .int failedRule, .int failedLimit]))], [(h_draft, .inr (3, [.int draft_objects, .ref a_draft_words, .int draft_steps, .ref a_draft_sources, .ref a_draft_targets, .ref a_draft_labels]))], [(a_draft_labels, .inl (G 0, 32, .inl draft_labels))], [(a_draft_sources, .inl (G 0, 32, .inl draft_sources))], [(a_draft_targets, .inl (G 0, 32, .inl draft_targets))], [(a_draft_words, .inl (G 0, 16, .inl draft_words))]]) (x_runSN (As := [.int v2]) (rest := []) (ps := []) ⟨hx, hb, hml, hown, hts⟩ (k_X10_lengthOf l D G v2 r_1 hr_1) ⟨va_cnB 1 hts gX0_connect_X10_lengthOf_n57 rfl rfl rfl (hE.2 (.methodLinkNest RX0 57 yX10_lengthOf RX11) (List.mem_of_getElem? (i := 102) rfl)) (hts (.initialized RX10) (List.mem_of_getElem? (i := 3) rfl)) (by decide +kernel) ⟨Nat.le_of_ble_eq_true rfl, Nat.le_of_ble_eq_true rfl⟩, (hts (.static yX10_lengthOf) (List.mem_of_getElem? (i := 2) rfl)), trivial⟩ hE hP hN rfl (by decide) rfl hl.1 (Nat.le_of_ble_eq_true rfl) dX0_connect_1 ⟨Nat.zero_le _, Nat.zero_le _⟩) hP hN hS rfl rfl (fun H locs hP hS => ?_)
  refine lv_bipush (v := 8) hx hb dX0_connect_4 (by decide) ?_
  refine lv_icmp_le (tgt := 11) hx hb dX0_connect_6 (by decide) (fun c_6 => ?_) (fun c_6 => ?_)
  · have hf := it_pos c_6 hf
    refine lv_aload_n hx hb dX0_connect_11 rfl (lv_at hl 0 rfl) ?_
    refine x_get hx hb hts u_X0_connect_X0 hown hE hP 0 rfl rfl 0 (by decide) (hts (.fieldLink RX0 12 "DecreasingDiagrams$Explorer" "draft" "LDecreasingDiagrams$LabelledSystem;") (List.mem_of_getElem? (i := 1) rfl)) rfl dX0_connect_12 ?_
    refine lv_iload_n hx hb dX0_connect_15 rfl (lv_at hl 2 rfl) ?_
    obtain ⟨r_16, hr_16, hf⟩ := bd_some hf
    refine x_goi (ps := [1, 5]) (I' := [[(h, .inr (0, [.ref h_draft, .int failedObject, .int failedRule, .int failedLimit]))], [(h_draft, .inr (3, [.int draft_objects, .ref a_draft_words, .int draft_steps, .ref a_draft_sources, .ref a_draft_targets, .ref a_draft_labels]))], [(a_draft_labels, .inl (G 0, 32, .inl draft_labels))], [(a_draft_sources, .inl (G 0, 32, .inl draft_sources))], [(a_draft_targets, .inl (G 0, 32, .inl draft_targets))], [(a_draft_words, .inl (G 0, 16, .inl draft_words))]]) (x_runVN (As := [.int v2]) (rest := []) (ps := [1, 5]) ⟨hx, hb, hml, hown, hts⟩ (k_X3_objectOf l D G h_draft a_draft_words a_draft_sources a_draft_targets a_draft_labels draft_objects draft_steps draft_words v2 r_16 hr_16) ⟨va_cnB 1 hts gX0_connect_X3_objectOf_n73 rfl rfl rfl (hE.2 (.methodLinkNest RX0 73 yX3_objectOf RX11) (List.mem_of_getElem? (i := 105) rfl)) (hts (.initialized RX3) (List.mem_of_getElem? (i := 6) rfl)) (by decide +kernel) ⟨Nat.le_of_ble_eq_true rfl, Nat.le_of_ble_eq_true rfl⟩, (hts (.instanceMethod yX3_objectOf) (List.mem_of_getElem? (i := 5) rfl)), (hts (.selects RX3 yX3_objectOf yX3_objectOf) (List.mem_of_getElem? (i := 7) rfl))⟩ hE hP hN rfl (by decide) 1 rfl rfl rfl hl.1 (Nat.le_of_ble_eq_true rfl) dX0_connect_16 ⟨Nat.zero_le _, Nat.zero_le _⟩) hP hN hS rfl rfl (fun H locs hP hS => ?_)
    obtain ⟨v4_19, e_v4_19, hf⟩ := lt_some hf
    refine x_istore (v := v4_19) (lv' := [(4, .int v4_19), (0, .ref h), (1, .int v1), (2, .int v2), (3, .int v3)]) hx hb dX0_connect_19 e_v4_19 hl (by decide) rfl (fun ls hl => ?_)
    refine lv_iload hx hb dX0_connect_21 (lv_at hl 0 rfl) ?_
    refine lv_bipush (v := -2) hx hb dX0_connect_23 (by decide) ?_
    refine lv_icmp_ne (tgt := 38) hx hb dX0_connect_25 (by decide) (fun c_25 => ?_) (fun c_25 => ?_)
    · have hf := it_pos c_25 hf
      exact J38 v4_19 draft_labels draft_objects draft_sources draft_steps draft_targets draft_words  H locs ls  hP hS (lv_sub hl [1, 2, 4, 0] rfl) hf
    · have hf := it_neg (fun h => h c_25) hf
      refine lv_aload_n hx hb dX0_connect_28 rfl (lv_at hl 1 rfl) ?_
      refine x_get hx hb hts u_X0_connect_X0 hown hE hP 0 rfl rfl 0 (by decide) (hts (.fieldLink RX0 12 "DecreasingDiagrams$Explorer" "draft" "LDecreasingDiagrams$LabelledSystem;") (List.mem_of_getElem? (i := 1) rfl)) rfl dX0_connect_29 ?_
      refine lv_iload_n hx hb dX0_connect_32 rfl (lv_at hl 3 rfl) ?_
      obtain ⟨r_33, hr_33, hf⟩ := bd_some hf
      refine x_goi (ps := [1, 5]) (I' := [[(h, .inr (0, [.ref h_draft, .int failedObject, .int failedRule, .int failedLimit]))], [(h_draft, .inr (3, [.int r_33.2.1, .ref a_draft_words, .int draft_steps, .ref a_draft_sources, .ref a_draft_targets, .ref a_draft_labels]))], [(a_draft_labels, .inl (G 0, 32, .inl draft_labels))], [(a_draft_sources, .inl (G 0, 32, .inl draft_sources))], [(a_draft_targets, .inl (G 0, 32, .inl draft_targets))], [(a_draft_words, .inl (G 0, 16, .inl r_33.2.2))]]) (x_runVN (As := [.int v2]) (rest := []) (ps := [1, 5]) ⟨hx, hb, hml, hown, hts⟩ (k_X3_appendObject l D G h_draft a_draft_words a_draft_sources a_draft_targets a_draft_labels draft_objects draft_steps draft_words v2 r_33 hr_33) ⟨va_cnB 1 hts gX0_connect_X3_appendObject_n31 rfl rfl rfl (hE.2 (.methodLinkNest RX0 31 yX3_appendObject RX11) (List.mem_of_getElem? (i := 101) rfl)) (hts (.initialized RX3) (List.mem_of_getElem? (i := 6) rfl)) (by decide +kernel) ⟨Nat.le_of_ble_eq_true rfl, Nat.le_of_ble_eq_true rfl⟩, (hts (.instanceMethod yX3_appendObject) (List.mem_of_getElem? (i := 11) rfl)), (hts (.selects RX3 yX3_appendObject yX3_appendObject) (List.mem_of_getElem? (i := 12) rfl))⟩ hE hP hN rfl (by decide) 1 rfl rfl rfl hl.1 (Nat.le_of_ble_eq_true rfl) dX0_connect_33 ⟨Nat.zero_le _, Nat.zero_le _⟩) hP hN hS rfl rfl (fun H locs hP hS => ?_)
      obtain ⟨v4_36, e_v4_36, hf⟩ := lt_some hf
      refine x_istore (v := v4_36) (lv' := [(4, .int v4_36), (0, .ref h), (1, .int v1), (2, .int v2), (3, .int v3)]) hx hb dX0_connect_36 e_v4_36 hl (by decide) rfl (fun ls hl => ?_)
      exact J38 v4_36 draft_labels r_33.2.1 draft_sources draft_steps draft_targets r_33.2.2  H locs ls  hP hS (lv_sub hl [1, 2, 4, 0] rfl) hf
  · have hf := it_neg c_6 hf
    refine lv_iconst (v := 0) hx hb dX0_connect_9 (by decide) ?_
    have hf := Option.some.inj hf
    subst hf
    subst hQ
    exact x_iret hx hb hr hlocks hP hS dX0_connect_10

set_option maxRecDepth 20000 in
theorem u_X0_applyEverywhere_X0 : ∀ w ∈ wsX00, w ∈ wsX0_applyEverywhere := xx_pl _ [37, 38, 39, 40] (by decide +kernel)
set_option maxRecDepth 20000 in
theorem u_X0_applyEverywhere_X3 : ∀ w ∈ wsX30, w ∈ wsX0_applyEverywhere := xx_pl _ [41, 42, 43, 44, 45, 46] (by decide +kernel)
def f_X0_applyEverywhere_J72 (rec_26 : (Int32 → (Nat → Int32) → Int32 → (Nat → Int32) → Int32 → (Nat → Int32) → (Nat → Int32) → Option (Int32 × (Nat → Int32) × Int32 × (Nat → Int32) × Int32 × (Nat → Int32) × (Nat → Int32)))) (v7 : Int32) (draft_labels : (Nat → Int32)) (draft_objects : Int32) (draft_sources : (Nat → Int32)) (draft_steps : Int32) (draft_targets : (Nat → Int32)) (draft_words : (Nat → Int32)) : Option (Int32 × (Nat → Int32) × Int32 × (Nat → Int32) × Int32 × (Nat → Int32) × (Nat → Int32)) :=
  lt (v7 + 1) (fun v7_72 => rec_26 v7_72 draft_labels draft_objects draft_sources draft_steps draft_targets draft_words)
def f_X0_applyEverywhere_L26 (v1 : Int32) (v2 : Int32) (v3 : Int32) (v4 : Int32) (v5 : Int32) (v6 : Int32) (rec_26 : Int32 → (Nat → Int32) → Int32 → (Nat → Int32) → Int32 → (Nat → Int32) → (Nat → Int32) → Option (Int32 × (Nat → Int32) × Int32 × (Nat → Int32) × Int32 × (Nat → Int32) × (Nat → Int32))) (v7 : Int32) (draft_labels : (Nat → Int32)) (draft_objects : Int32) (draft_sources : (Nat → Int32)) (draft_steps : Int32) (draft_targets : (Nat → Int32)) (draft_words : (Nat → Int32)) : Option (Int32 × (Nat → Int32) × Int32 × (Nat → Int32) × Int32 × (Nat → Int32) × (Nat → Int32)) :=
  if v6 < v7 then (some ((-2), draft_labels, draft_objects, draft_sources, draft_steps, draft_targets, draft_words)) else ((f_X10_occurs v3 v5 v7).bind (fun r_38 => if r_38 = 0 then (f_X0_applyEverywhere_J72 rec_26 v7 draft_labels draft_objects draft_sources draft_steps draft_targets draft_words) else ((f_X10_replace v5 v7 v3 v4).bind (fun r_53 => (f_X0_connect draft_objects draft_steps draft_labels draft_sources draft_targets draft_words v1 r_53 v2).bind (fun r_57 => lt r_57.1 (fun v8_60 => if v8_60 = (-2) then (f_X0_applyEverywhere_J72 rec_26 v7 r_57.2.1 r_57.2.2.1 r_57.2.2.2.1 r_57.2.2.2.2.1 r_57.2.2.2.2.2.1 r_57.2.2.2.2.2.2) else (some (v8_60, r_57.2.1, r_57.2.2.1, r_57.2.2.2.1, r_57.2.2.2.2.1, r_57.2.2.2.2.2.1, r_57.2.2.2.2.2.2))))))))
def f_X0_applyEverywhere (draft_objects : Int32) (draft_steps : Int32) (draft_labels : (Nat → Int32)) (draft_sources : (Nat → Int32)) (draft_targets : (Nat → Int32)) (draft_words : (Nat → Int32)) (v1 : Int32) (v2 : Int32) (v3 : Int32) (v4 : Int32) : Option (Int32 × (Nat → Int32) × Int32 × (Nat → Int32) × Int32 × (Nat → Int32) × (Nat → Int32)) :=
  ck v1 16 (lt (draft_words v1.toNatClampNeg) (fun v5_9 => (f_X10_lengthOf v5_9).bind (fun r_13 => (f_X10_lengthOf v3).bind (fun r_17 => lt (r_13 - r_17) (fun v6_21 => lt 0 (fun v7_24 => lp (τ := Int32 → (Nat → Int32) → Int32 → (Nat → Int32) → Int32 → (Nat → Int32) → (Nat → Int32) → Option (Int32 × (Nat → Int32) × Int32 × (Nat → Int32) × Int32 × (Nat → Int32) × (Nat → Int32))) (fun _ _ _ _ _ _ _ => none) (f_X0_applyEverywhere_L26 v1 v2 v3 v4 v5_9 v6_21) fuel v7_24 draft_labels draft_objects draft_sources draft_steps draft_targets draft_words))))))
set_option maxHeartbeats 4000000 in
set_option maxRecDepth 100000 in
theorem k_X0_applyEverywhere (l : Launch) (D : va_G) (G : Nat → ClassId) (h : Nat) (h_draft : Nat) (a_draft_words : Nat) (a_draft_sources : Nat) (a_draft_targets : Nat) (a_draft_labels : Nat) (failedObject : Int32) (failedRule : Int32) (failedLimit : Int32) (draft_objects : Int32) (draft_steps : Int32) (draft_labels : (Nat → Int32)) (draft_sources : (Nat → Int32)) (draft_targets : (Nat → Int32)) (draft_words : (Nat → Int32))  (v1 : Int32) (v2 : Int32) (v3 : Int32) (v4 : Int32) (out : Int32 × (Nat → Int32) × Int32 × (Nat → Int32) × Int32 × (Nat → Int32) × (Nat → Int32)) (hf : f_X0_applyEverywhere draft_objects draft_steps draft_labels draft_sources draft_targets draft_words v1 v2 v3 v4 = some out) : xMet l yX0_applyEverywhere wsX0_applyEverywhere (rM 2 48) D G [.ref h, .int v1, .int v2, .int v3, .int v4] [[(h, .inr (0, [.ref h_draft, .int failedObject, .int failedRule, .int failedLimit]))], [(h_draft, .inr (3, [.int draft_objects, .ref a_draft_words, .int draft_steps, .ref a_draft_sources, .ref a_draft_targets, .ref a_draft_labels]))], [(a_draft_labels, .inl (G 0, 32, .inl draft_labels))], [(a_draft_sources, .inl (G 0, 32, .inl draft_sources))], [(a_draft_targets, .inl (G 0, 32, .inl draft_targets))], [(a_draft_words, .inl (G 0, 16, .inl draft_words))]] (xQi D [[(h, .inr (0, [.ref h_draft, .int failedObject, .int failedRule, .int failedLimit]))], [(h_draft, .inr (3, [.int out.2.2.1, .ref a_draft_words, .int out.2.2.2.2.1, .ref a_draft_sources, .ref a_draft_targets, .ref a_draft_labels]))], [(a_draft_labels, .inl (G 0, 32, .inl out.2.1))], [(a_draft_sources, .inl (G 0, 32, .inl out.2.2.2.1))], [(a_draft_targets, .inl (G 0, 32, .inl out.2.2.2.2.2.1))], [(a_draft_words, .inl (G 0, 16, .inl out.2.2.2.2.2.2))]] out.1) := by
  refine x_ent (cc := cX0_applyEverywhere) (maxL := 9) (by decide) rfl (Nat.le_of_ble_eq_true rfl) ?_
  intro p e s m below meth c aa ls args Q hQ hx hb hr hml hown hts hlocks hE hN hP hl hS
  have hown : s.vm.findClass RX0 = some m.cls := hown
  have hl : lv_has ls 9 [(0, .ref h), (1, .int v1), (2, .int v2), (3, .int v3), (4, .int v4)] := hl
  have L26 : ∀ (v5 : Int32) (v6 : Int32), ∀ (n_26 : Nat) (v7 : Int32) (draft_labels : (Nat → Int32)) (draft_objects : Int32) (draft_sources : (Nat → Int32)) (draft_steps : Int32) (draft_targets : (Nat → Int32)) (draft_words : (Nat → Int32)) (H : Heap) (locs : List Loc) (ls : Array Slot), xW D aa [[(h, .inr (0, [.ref h_draft, .int failedObject, .int failedRule, .int failedLimit]))], [(h_draft, .inr (3, [.int draft_objects, .ref a_draft_words, .int draft_steps, .ref a_draft_sources, .ref a_draft_targets, .ref a_draft_labels]))], [(a_draft_labels, .inl (G 0, 32, .inl draft_labels))], [(a_draft_sources, .inl (G 0, 32, .inl draft_sources))], [(a_draft_targets, .inl (G 0, 32, .inl draft_targets))], [(a_draft_words, .inl (G 0, 16, .inl draft_words))]] H → va_S (xA aa) s.heap H locs → lv_has ls 9 [(0, .ref h), (1, .int v1), (2, .int v2), (3, .int v3), (4, .int v4), (5, .int v5), (6, .int v6), (7, .int v7)] → lp (τ := Int32 → (Nat → Int32) → Int32 → (Nat → Int32) → Int32 → (Nat → Int32) → (Nat → Int32) → Option (Int32 × (Nat → Int32) × Int32 × (Nat → Int32) × Int32 × (Nat → Int32) × (Nat → Int32))) (fun _ _ _ _ _ _ _ => none) (f_X0_applyEverywhere_L26 v1 v2 v3 v4 v5 v6) n_26 v7 draft_labels draft_objects draft_sources draft_steps draft_targets draft_words = some out → W p l e (rM 2 48) s m args below meth c H locs 0 0 Q (F0 m 26 ls []) := by
    intro v5 v6   n_26
    induction n_26 with
    | zero =>
      intro v7 draft_labels draft_objects draft_sources draft_steps draft_targets draft_words H locs ls hP hS hl hf
      exact no_some hf
    | succ n_26 ih_26 =>
      intro v7 draft_labels draft_objects draft_sources draft_steps draft_targets draft_words H locs ls hP hS hl hf
      have hf : f_X0_applyEverywhere_L26 v1 v2 v3 v4 v5 v6 (lp (τ := Int32 → (Nat → Int32) → Int32 → (Nat → Int32) → Int32 → (Nat → Int32) → (Nat → Int32) → Option (Int32 × (Nat → Int32) × Int32 × (Nat → Int32) × Int32 × (Nat → Int32) × (Nat → Int32))) (fun _ _ _ _ _ _ _ => none) (f_X0_applyEverywhere_L26 v1 v2 v3 v4 v5 v6) n_26) v7 draft_labels draft_objects draft_sources draft_steps draft_targets draft_words = some out := hf
      rw [f_X0_applyEverywhere_L26] at hf
      have J72 : ∀ (v7 : Int32) (draft_labels : (Nat → Int32)) (draft_objects : Int32) (draft_sources : (Nat → Int32)) (draft_steps : Int32) (draft_targets : (Nat → Int32)) (draft_words : (Nat → Int32)) (H : Heap) (locs : List Loc) (ls : Array Slot), xW D aa [[(h, .inr (0, [.ref h_draft, .int failedObject, .int failedRule, .int failedLimit]))], [(h_draft, .inr (3, [.int draft_objects, .ref a_draft_words, .int draft_steps, .ref a_draft_sources, .ref a_draft_targets, .ref a_draft_labels]))], [(a_draft_labels, .inl (G 0, 32, .inl draft_labels))], [(a_draft_sources, .inl (G 0, 32, .inl draft_sources))], [(a_draft_targets, .inl (G 0, 32, .inl draft_targets))], [(a_draft_words, .inl (G 0, 16, .inl draft_words))]] H → va_S (xA aa) s.heap H locs → lv_has ls 9 [(0, .ref h), (1, .int v1), (2, .int v2), (3, .int v3), (4, .int v4), (5, .int v5), (6, .int v6), (7, .int v7)] → f_X0_applyEverywhere_J72 (lp (τ := Int32 → (Nat → Int32) → Int32 → (Nat → Int32) → Int32 → (Nat → Int32) → (Nat → Int32) → Option (Int32 × (Nat → Int32) × Int32 × (Nat → Int32) × Int32 × (Nat → Int32) × (Nat → Int32))) (fun _ _ _ _ _ _ _ => none) (f_X0_applyEverywhere_L26 v1 v2 v3 v4 v5 v6) n_26) v7 draft_labels draft_objects draft_sources draft_steps draft_targets draft_words = some out → W p l e (rM 2 48) s m args below meth c H locs 0 0 Q (F0 m 72 ls []) := by
        intro v7 draft_labels draft_objects draft_sources draft_steps draft_targets draft_words  H locs ls  hP hS hl hf
        rw [f_X0_applyEverywhere_J72] at hf
        obtain ⟨v7_72, e_v7_72, hf⟩ := lt_some hf
        refine lv_iinc (v := v7_72) (lv' := [(7, .int v7_72), (0, .ref h), (1, .int v1), (2, .int v2), (3, .int v3), (4, .int v4), (5, .int v5), (6, .int v6)]) hx hb dX0_applyEverywhere_72 hl (k := 7) rfl (by rw [e_v7_72]; rfl) (by decide) rfl (fun ls hl => ?_)
        refine lv_goto (tgt := 26) hx hb dX0_applyEverywhere_75 (by decide) ?_
        exact ih_26 v7_72 draft_labels draft_objects draft_sources draft_steps draft_targets draft_words H locs ls hP hS (lv_sub hl [1, 2, 3, 4, 5, 6, 7, 0] rfl) hf
      refine lv_iload hx hb dX0_applyEverywhere_26 (lv_at hl 7 rfl) ?_
      refine lv_iload hx hb dX0_applyEverywhere_28 (lv_at hl 6 rfl) ?_
      refine lv_icmp_gt (tgt := 78) hx hb dX0_applyEverywhere_30 (by decide) (fun c_30 => ?_) (fun c_30 => ?_)
      · have hf := it_pos c_30 hf
        refine lv_bipush (v := -2) hx hb dX0_applyEverywhere_78 (by decide) ?_
        have hf := Option.some.inj hf
        subst hf
        subst hQ
        exact x_iret hx hb hr hlocks hP hS dX0_applyEverywhere_80
      · have hf := it_neg c_30 hf
        refine lv_iload_n hx hb dX0_applyEverywhere_33 rfl (lv_at hl 3 rfl) ?_
        refine lv_iload hx hb dX0_applyEverywhere_34 (lv_at hl 5 rfl) ?_
        refine lv_iload hx hb dX0_applyEverywhere_36 (lv_at hl 7 rfl) ?_
        obtain ⟨r_38, hr_38, hf⟩ := bd_some hf
        refine x_goi (ps := []) (I' := [[(h, .inr (0, [.ref h_draft, .int failedObject, .int failedRule, .int failedLimit]))], [(h_draft, .inr (3, [.int draft_objects, .ref a_draft_words, .int draft_steps, .ref a_draft_sources, .ref a_draft_targets, .ref a_draft_labels]))], [(a_draft_labels, .inl (G 0, 32, .inl draft_labels))], [(a_draft_sources, .inl (G 0, 32, .inl draft_sources))], [(a_draft_targets, .inl (G 0, 32, .inl draft_targets))], [(a_draft_words, .inl (G 0, 16, .inl draft_words))]]) (x_runSN (As := [.int v3, .int v5, .int v7]) (rest := []) (ps := []) ⟨hx, hb, hml, hown, hts⟩ (k_X10_occurs l D G v3 v5 v7 r_38 hr_38) ⟨va_cnB 3 hts gX0_applyEverywhere_X10_occurs_n62 rfl rfl rfl (hE.2 (.methodLinkNest RX0 62 yX10_occurs RX11) (List.mem_of_getElem? (i := 103) rfl)) (hts (.initialized RX10) (List.mem_of_getElem? (i := 3) rfl)) (by decide +kernel) ⟨Nat.le_of_ble_eq_true rfl, Nat.le_of_ble_eq_true rfl⟩, (hts (.static yX10_occurs) (List.mem_of_getElem? (i := 5) rfl)), trivial⟩ hE hP hN rfl (by decide) rfl hl.1 (Nat.le_of_ble_eq_true rfl) dX0_applyEverywhere_38 ⟨Nat.zero_le _, Nat.zero_le _⟩) hP hN hS rfl rfl (fun H locs hP hS => ?_)
        refine lv_if_eq (tgt := 72) hx hb dX0_applyEverywhere_41 (by decide) (fun c_41 => ?_) (fun c_41 => ?_)
        · have hf := it_pos c_41 hf
          exact J72 v7 draft_labels draft_objects draft_sources draft_steps draft_targets draft_words  H locs ls  hP hS (lv_sub hl [0, 1, 2, 3, 4, 5, 6, 7] rfl) hf
        · have hf := it_neg c_41 hf
          refine lv_aload_n hx hb dX0_applyEverywhere_44 rfl (lv_at hl 0 rfl) ?_
          refine lv_iload_n hx hb dX0_applyEverywhere_45 rfl (lv_at hl 1 rfl) ?_
          refine lv_iload hx hb dX0_applyEverywhere_46 (lv_at hl 5 rfl) ?_
          refine lv_iload hx hb dX0_applyEverywhere_48 (lv_at hl 7 rfl) ?_
          refine lv_iload_n hx hb dX0_applyEverywhere_50 rfl (lv_at hl 3 rfl) ?_
          refine lv_iload hx hb dX0_applyEverywhere_51 (lv_at hl 4 rfl) ?_
          obtain ⟨r_53, hr_53, hf⟩ := bd_some hf
          refine x_goi (ps := []) (I' := [[(h, .inr (0, [.ref h_draft, .int failedObject, .int failedRule, .int failedLimit]))], [(h_draft, .inr (3, [.int draft_objects, .ref a_draft_words, .int draft_steps, .ref a_draft_sources, .ref a_draft_targets, .ref a_draft_labels]))], [(a_draft_labels, .inl (G 0, 32, .inl draft_labels))], [(a_draft_sources, .inl (G 0, 32, .inl draft_sources))], [(a_draft_targets, .inl (G 0, 32, .inl draft_targets))], [(a_draft_words, .inl (G 0, 16, .inl draft_words))]]) (x_runSN (As := [.int v5, .int v7, .int v3, .int v4]) (rest := [.int v1, .ref h]) (ps := []) ⟨hx, hb, hml, hown, hts⟩ (k_X10_replace l D G v5 v7 v3 v4 r_53 hr_53) ⟨va_cnB 4 hts gX0_applyEverywhere_X10_replace_n66 rfl rfl rfl (hE.2 (.methodLinkNest RX0 66 yX10_replace RX11) (List.mem_of_getElem? (i := 104) rfl)) (hts (.initialized RX10) (List.mem_of_getElem? (i := 3) rfl)) (by decide +kernel) ⟨Nat.le_of_ble_eq_true rfl, Nat.le_of_ble_eq_true rfl⟩, (hts (.static yX10_replace) (List.mem_of_getElem? (i := 11) rfl)), trivial⟩ hE hP hN rfl (by decide) rfl hl.1 (Nat.le_of_ble_eq_true rfl) dX0_applyEverywhere_53 ⟨Nat.zero_le _, Nat.zero_le _⟩) hP hN hS rfl rfl (fun H locs hP hS => ?_)
          refine lv_iload_n hx hb dX0_applyEverywhere_56 rfl (lv_at hl 2 rfl) ?_
          obtain ⟨r_57, hr_57, hf⟩ := bd_some hf
          refine x_goi (ps := [0, 1, 2, 3, 4, 5]) (I' := [[(h, .inr (0, [.ref h_draft, .int failedObject, .int failedRule, .int failedLimit]))], [(h_draft, .inr (3, [.int r_57.2.2.1, .ref a_draft_words, .int r_57.2.2.2.2.1, .ref a_draft_sources, .ref a_draft_targets, .ref a_draft_labels]))], [(a_draft_labels, .inl (G 0, 32, .inl r_57.2.1))], [(a_draft_sources, .inl (G 0, 32, .inl r_57.2.2.2.1))], [(a_draft_targets, .inl (G 0, 32, .inl r_57.2.2.2.2.2.1))], [(a_draft_words, .inl (G 0, 16, .inl r_57.2.2.2.2.2.2))]]) (x_runV (As := [.int v1, .int r_53, .int v2]) (rest := []) (ps := [0, 1, 2, 3, 4, 5]) ⟨hx, hb, hml, hown, hts⟩ (k_X0_connect l D G h h_draft a_draft_words a_draft_sources a_draft_targets a_draft_labels failedObject failedRule failedLimit draft_objects draft_steps draft_labels draft_sources draft_targets draft_words v1 r_53 v2 r_57 hr_57) (cwV 3 hts gX0_applyEverywhere_X0_connect rfl rfl rfl (by decide +kernel) ⟨Nat.le_of_ble_eq_true rfl, Nat.le_of_ble_eq_true rfl⟩) hE hP hN rfl (by decide) 0 rfl rfl rfl hl.1 (Nat.le_of_ble_eq_true rfl) dX0_applyEverywhere_57 ⟨Nat.zero_le _, Nat.zero_le _⟩) hP hN hS rfl rfl (fun H locs hP hS => ?_)
          obtain ⟨v8_60, e_v8_60, hf⟩ := lt_some hf
          refine x_istore (v := v8_60) (lv' := [(8, .int v8_60), (0, .ref h), (1, .int v1), (2, .int v2), (3, .int v3), (4, .int v4), (5, .int v5), (6, .int v6), (7, .int v7)]) hx hb dX0_applyEverywhere_60 e_v8_60 hl (by decide) rfl (fun ls hl => ?_)
          refine lv_iload hx hb dX0_applyEverywhere_62 (lv_at hl 0 rfl) ?_
          refine lv_bipush (v := -2) hx hb dX0_applyEverywhere_64 (by decide) ?_
          refine lv_icmp_eq (tgt := 72) hx hb dX0_applyEverywhere_66 (by decide) (fun c_66 => ?_) (fun c_66 => ?_)
          · have hf := it_pos c_66 hf
            exact J72 v7 r_57.2.1 r_57.2.2.1 r_57.2.2.2.1 r_57.2.2.2.2.1 r_57.2.2.2.2.2.1 r_57.2.2.2.2.2.2  H locs ls  hP hS (lv_sub hl [1, 2, 3, 4, 5, 6, 7, 8] rfl) hf
          · have hf := it_neg c_66 hf
            refine lv_iload hx hb dX0_applyEverywhere_69 (lv_at hl 0 rfl) ?_
            have hf := Option.some.inj hf
            subst hf
            subst hQ
            exact x_iret hx hb hr hlocks hP hS dX0_applyEverywhere_71
  rw [f_X0_applyEverywhere] at hf
  obtain ⟨H, hH⟩ : ∃ H : Heap, H = s.heap := ⟨_, rfl⟩
  obtain ⟨locs, hlocs⟩ : ∃ locs : List Loc, locs = [] := ⟨_, rfl⟩
  have hP : xW D aa [[(h, .inr (0, [.ref h_draft, .int failedObject, .int failedRule, .int failedLimit]))], [(h_draft, .inr (3, [.int draft_objects, .ref a_draft_words, .int draft_steps, .ref a_draft_sources, .ref a_draft_targets, .ref a_draft_labels]))], [(a_draft_labels, .inl (G 0, 32, .inl draft_labels))], [(a_draft_sources, .inl (G 0, 32, .inl draft_sources))], [(a_draft_targets, .inl (G 0, 32, .inl draft_targets))], [(a_draft_words, .inl (G 0, 16, .inl draft_words))]] H := by rw [hH]; exact hP
  have hS : va_S (xA aa) s.heap H locs := by rw [hH, hlocs]; exact hS
  suffices GO : W p l e (rM 2 48) s m args below meth c H locs 0 0 Q (F0 m 0 ls []) by
    rw [hH, hlocs] at GO
    exact GO
  clear hH hlocs
  refine lv_aload_n hx hb dX0_applyEverywhere_0 rfl (lv_at hl 0 rfl) ?_
  refine x_get hx hb hts u_X0_applyEverywhere_X0 hown hE hP 0 rfl rfl 0 (by decide) (hts (.fieldLink RX0 12 "DecreasingDiagrams$Explorer" "draft" "LDecreasingDiagrams$LabelledSystem;") (List.mem_of_getElem? (i := 1) rfl)) rfl dX0_applyEverywhere_1 ?_
  refine x_getN hx hb hts u_X0_applyEverywhere_X3 hown hE hP 1 rfl rfl 1 (by decide) (hE.2 (.fieldLinkNest RX0 54 "DecreasingDiagrams$LabelledSystem" "words" "[I" RX11) (List.mem_of_getElem? (i := 6) rfl)) rfl dX0_applyEverywhere_4 ?_
  refine lv_iload_n hx hb dX0_applyEverywhere_7 rfl (lv_at hl 1 rfl) ?_
  obtain ⟨hi, hf⟩ := ck_some hf
  refine x_iald hx hb hE hP 5 rfl hi dX0_applyEverywhere_8 ?_
  obtain ⟨v5_9, e_v5_9, hf⟩ := lt_some hf
  refine x_istore (v := v5_9) (lv' := [(5, .int v5_9), (0, .ref h), (1, .int v1), (2, .int v2), (3, .int v3), (4, .int v4)]) hx hb dX0_applyEverywhere_9 e_v5_9 hl (by decide) rfl (fun ls hl => ?_)
  refine lv_iload hx hb dX0_applyEverywhere_11 (lv_at hl 0 rfl) ?_
  obtain ⟨r_13, hr_13, hf⟩ := bd_some hf
  refine x_goi (ps := []) (I' := [[(h, .inr (0, [.ref h_draft, .int failedObject, .int failedRule, .int failedLimit]))], [(h_draft, .inr (3, [.int draft_objects, .ref a_draft_words, .int draft_steps, .ref a_draft_sources, .ref a_draft_targets, .ref a_draft_labels]))], [(a_draft_labels, .inl (G 0, 32, .inl draft_labels))], [(a_draft_sources, .inl (G 0, 32, .inl draft_sources))], [(a_draft_targets, .inl (G 0, 32, .inl draft_targets))], [(a_draft_words, .inl (G 0, 16, .inl draft_words))]]) (x_runSN (As := [.int v5_9]) (rest := []) (ps := []) ⟨hx, hb, hml, hown, hts⟩ (k_X10_lengthOf l D G v5_9 r_13 hr_13) ⟨va_cnB 1 hts gX0_applyEverywhere_X10_lengthOf_n57 rfl rfl rfl (hE.2 (.methodLinkNest RX0 57 yX10_lengthOf RX11) (List.mem_of_getElem? (i := 102) rfl)) (hts (.initialized RX10) (List.mem_of_getElem? (i := 3) rfl)) (by decide +kernel) ⟨Nat.le_of_ble_eq_true rfl, Nat.le_of_ble_eq_true rfl⟩, (hts (.static yX10_lengthOf) (List.mem_of_getElem? (i := 2) rfl)), trivial⟩ hE hP hN rfl (by decide) rfl hl.1 (Nat.le_of_ble_eq_true rfl) dX0_applyEverywhere_13 ⟨Nat.zero_le _, Nat.zero_le _⟩) hP hN hS rfl rfl (fun H locs hP hS => ?_)
  refine lv_iload_n hx hb dX0_applyEverywhere_16 rfl (lv_at hl 4 rfl) ?_
  obtain ⟨r_17, hr_17, hf⟩ := bd_some hf
  refine x_goi (ps := []) (I' := [[(h, .inr (0, [.ref h_draft, .int failedObject, .int failedRule, .int failedLimit]))], [(h_draft, .inr (3, [.int draft_objects, .ref a_draft_words, .int draft_steps, .ref a_draft_sources, .ref a_draft_targets, .ref a_draft_labels]))], [(a_draft_labels, .inl (G 0, 32, .inl draft_labels))], [(a_draft_sources, .inl (G 0, 32, .inl draft_sources))], [(a_draft_targets, .inl (G 0, 32, .inl draft_targets))], [(a_draft_words, .inl (G 0, 16, .inl draft_words))]]) (x_runSN (As := [.int v3]) (rest := [.int r_13]) (ps := []) ⟨hx, hb, hml, hown, hts⟩ (k_X10_lengthOf l D G v3 r_17 hr_17) ⟨va_cnB 1 hts gX0_applyEverywhere_X10_lengthOf_n57 rfl rfl rfl (hE.2 (.methodLinkNest RX0 57 yX10_lengthOf RX11) (List.mem_of_getElem? (i := 102) rfl)) (hts (.initialized RX10) (List.mem_of_getElem? (i := 3) rfl)) (by decide +kernel) ⟨Nat.le_of_ble_eq_true rfl, Nat.le_of_ble_eq_true rfl⟩, (hts (.static yX10_lengthOf) (List.mem_of_getElem? (i := 2) rfl)), trivial⟩ hE hP hN rfl (by decide) rfl hl.1 (Nat.le_of_ble_eq_true rfl) dX0_applyEverywhere_17 ⟨Nat.zero_le _, Nat.zero_le _⟩) hP hN hS rfl rfl (fun H locs hP hS => ?_)
  refine lv_isub hx hb dX0_applyEverywhere_20 ?_
  obtain ⟨v6_21, e_v6_21, hf⟩ := lt_some hf
  refine x_istore (v := v6_21) (lv' := [(6, .int v6_21), (5, .int v5_9), (0, .ref h), (1, .int v1), (2, .int v2), (3, .int v3), (4, .int v4)]) hx hb dX0_applyEverywhere_21 e_v6_21 hl (by decide) rfl (fun ls hl => ?_)
  refine lv_iconst (v := 0) hx hb dX0_applyEverywhere_23 (by decide) ?_
  obtain ⟨v7_24, e_v7_24, hf⟩ := lt_some hf
  refine x_istore (v := v7_24) (lv' := [(7, .int v7_24), (6, .int v6_21), (5, .int v5_9), (0, .ref h), (1, .int v1), (2, .int v2), (3, .int v3), (4, .int v4)]) hx hb dX0_applyEverywhere_24 e_v7_24 hl (by decide) rfl (fun ls hl => ?_)
  exact L26 v5_9 v6_21   fuel v7_24 draft_labels draft_objects draft_sources draft_steps draft_targets draft_words H locs ls hP hS (lv_sub hl [3, 4, 5, 6, 7, 2, 1, 0] rfl) hf

set_option maxRecDepth 20000 in
theorem u_X0_run_X0 : ∀ w ∈ wsX00, w ∈ wsX0_run := xx_pl _ [47, 48, 49, 50] (by decide +kernel)
set_option maxRecDepth 20000 in
theorem u_X0_run_X8 : ∀ w ∈ wsX80, w ∈ wsX0_run := xx_pl _ [57, 58, 59] (by decide +kernel)
set_option maxRecDepth 20000 in
theorem u_X0_run_X3 : ∀ w ∈ wsX30, w ∈ wsX0_run := xx_pl _ [51, 52, 53, 54, 55, 56] (by decide +kernel)
def f_X0_run_J102 (rec_18 : (Int32 → (Nat → Int32) → Int32 → (Nat → Int32) → Int32 → (Nat → Int32) → (Nat → Int32) → Option (Int32 × (Nat → Int32) × Int32 × (Nat → Int32) × Int32 × (Nat → Int32) × (Nat → Int32) × Int32 × Int32 × Int32))) (v3 : Int32) (draft_labels : (Nat → Int32)) (draft_objects : Int32) (draft_sources : (Nat → Int32)) (draft_steps : Int32) (draft_targets : (Nat → Int32)) (draft_words : (Nat → Int32)) : Option (Int32 × (Nat → Int32) × Int32 × (Nat → Int32) × Int32 × (Nat → Int32) × (Nat → Int32) × Int32 × Int32 × Int32) :=
  lt (v3 + 1) (fun v3_102 => rec_18 v3_102 draft_labels draft_objects draft_sources draft_steps draft_targets draft_words)
def f_X0_run_J77  (v3 : Int32) (v4 : Int32) (v5 : Int32) (draft_labels : (Nat → Int32)) (draft_objects : Int32) (draft_sources : (Nat → Int32)) (draft_steps : Int32) (draft_targets : (Nat → Int32)) (draft_words : (Nat → Int32)) (failedLimit : Int32) (failedObject : Int32) (failedRule : Int32) : Option (Int32 × (Nat → Int32) × Int32 × (Nat → Int32) × Int32 × (Nat → Int32) × (Nat → Int32) × Int32 × Int32 × Int32) :=
  lt v3 (fun failedObject_79 => lt v4 (fun failedRule_85 => lt v5 (fun failedLimit_91 => some (0, draft_labels, draft_objects, draft_sources, draft_steps, draft_targets, draft_words, failedLimit_91, failedObject_79, failedRule_85))))
def f_X0_run_L38 (p2_count : Int32) (failedObject : Int32) (failedRule : Int32) (failedLimit : Int32) (p2_lefts : (Nat → Int32)) (p2_rights : (Nat → Int32)) (v3 : Int32) (rec_18 : (Int32 → (Nat → Int32) → Int32 → (Nat → Int32) → Int32 → (Nat → Int32) → (Nat → Int32) → Option (Int32 × (Nat → Int32) × Int32 × (Nat → Int32) × Int32 × (Nat → Int32) × (Nat → Int32) × Int32 × Int32 × Int32))) (rec_38 : Int32 → (Nat → Int32) → Int32 → (Nat → Int32) → Int32 → (Nat → Int32) → (Nat → Int32) → Option (Int32 × (Nat → Int32) × Int32 × (Nat → Int32) × Int32 × (Nat → Int32) × (Nat → Int32) × Int32 × Int32 × Int32)) (v4 : Int32) (draft_labels : (Nat → Int32)) (draft_objects : Int32) (draft_sources : (Nat → Int32)) (draft_steps : Int32) (draft_targets : (Nat → Int32)) (draft_words : (Nat → Int32)) : Option (Int32 × (Nat → Int32) × Int32 × (Nat → Int32) × Int32 × (Nat → Int32) × (Nat → Int32) × Int32 × Int32 × Int32) :=
  if p2_count ≤ v4 then (f_X0_run_J102 rec_18 v3 draft_labels draft_objects draft_sources draft_steps draft_targets draft_words) else (ck v4 6 (ck v4 6 ((f_X0_applyEverywhere draft_objects draft_steps draft_labels draft_sources draft_targets draft_words v3 v4 (p2_lefts v4.toNatClampNeg) (p2_rights v4.toNatClampNeg)).bind (fun r_65 => lt r_65.1 (fun v5_68 => if v5_68 = (-2) then (lt (v4 + 1) (fun v4_96 => rec_38 v4_96 r_65.2.1 r_65.2.2.1 r_65.2.2.2.1 r_65.2.2.2.2.1 r_65.2.2.2.2.2.1 r_65.2.2.2.2.2.2)) else (f_X0_run_J77 v3 v4 v5_68 r_65.2.1 r_65.2.2.1 r_65.2.2.2.1 r_65.2.2.2.2.1 r_65.2.2.2.2.2.1 r_65.2.2.2.2.2.2 failedLimit failedObject failedRule))))))
def f_X0_run_L18 (p2_count : Int32) (failedObject : Int32) (failedRule : Int32) (failedLimit : Int32) (p2_lefts : (Nat → Int32)) (p2_rights : (Nat → Int32)) (rec_18 : Int32 → (Nat → Int32) → Int32 → (Nat → Int32) → Int32 → (Nat → Int32) → (Nat → Int32) → Option (Int32 × (Nat → Int32) × Int32 × (Nat → Int32) × Int32 × (Nat → Int32) × (Nat → Int32) × Int32 × Int32 × Int32)) (v3 : Int32) (draft_labels : (Nat → Int32)) (draft_objects : Int32) (draft_sources : (Nat → Int32)) (draft_steps : Int32) (draft_targets : (Nat → Int32)) (draft_words : (Nat → Int32)) : Option (Int32 × (Nat → Int32) × Int32 × (Nat → Int32) × Int32 × (Nat → Int32) × (Nat → Int32) × Int32 × Int32 × Int32) :=
  if 16 ≤ v3 then (some (1, draft_labels, draft_objects, draft_sources, draft_steps, draft_targets, draft_words, failedLimit, failedObject, failedRule)) else (if draft_objects ≤ v3 then (some (1, draft_labels, draft_objects, draft_sources, draft_steps, draft_targets, draft_words, failedLimit, failedObject, failedRule)) else (lt 0 (fun v4_36 => lp (τ := Int32 → (Nat → Int32) → Int32 → (Nat → Int32) → Int32 → (Nat → Int32) → (Nat → Int32) → Option (Int32 × (Nat → Int32) × Int32 × (Nat → Int32) × Int32 × (Nat → Int32) × (Nat → Int32) × Int32 × Int32 × Int32)) (fun _ _ _ _ _ _ _ => none) (f_X0_run_L38 p2_count failedObject failedRule failedLimit p2_lefts p2_rights v3 rec_18) fuel v4_36 draft_labels draft_objects draft_sources draft_steps draft_targets draft_words)))
def f_X0_run (p2_count : Int32) (failedObject : Int32) (failedRule : Int32) (failedLimit : Int32) (p2_lefts : (Nat → Int32)) (p2_rights : (Nat → Int32)) (draft_labels : (Nat → Int32)) (draft_sources : (Nat → Int32)) (draft_targets : (Nat → Int32)) (draft_words : (Nat → Int32)) (v1 : Int32) : Option (Int32 × (Nat → Int32) × Int32 × (Nat → Int32) × Int32 × (Nat → Int32) × (Nat → Int32) × Int32 × Int32 × Int32) :=
  (f_X3_clear).bind (fun r_4 => (f_X3_appendObject r_4.1 draft_words v1).bind (fun r_12 => lt 0 (fun v3_17 => lp (τ := Int32 → (Nat → Int32) → Int32 → (Nat → Int32) → Int32 → (Nat → Int32) → (Nat → Int32) → Option (Int32 × (Nat → Int32) × Int32 × (Nat → Int32) × Int32 × (Nat → Int32) × (Nat → Int32) × Int32 × Int32 × Int32)) (fun _ _ _ _ _ _ _ => none) (f_X0_run_L18 p2_count failedObject failedRule failedLimit p2_lefts p2_rights) fuel v3_17 draft_labels r_12.2.1 draft_sources r_4.2 draft_targets r_12.2.2)))
set_option maxHeartbeats 4000000 in
set_option maxRecDepth 100000 in
theorem k_X0_run (l : Launch) (D : va_G) (G : Nat → ClassId) (h : Nat) (h_p2 : Nat) (a_p2_lefts : Nat) (a_p2_rights : Nat) (h_draft : Nat) (a_draft_words : Nat) (a_draft_sources : Nat) (a_draft_targets : Nat) (a_draft_labels : Nat) (p2_count : Int32) (failedObject : Int32) (failedRule : Int32) (failedLimit : Int32) (draft_objects : Int32) (draft_steps : Int32) (p2_lefts : (Nat → Int32)) (p2_rights : (Nat → Int32)) (draft_labels : (Nat → Int32)) (draft_sources : (Nat → Int32)) (draft_targets : (Nat → Int32)) (draft_words : (Nat → Int32))  (v1 : Int32) (out : Int32 × (Nat → Int32) × Int32 × (Nat → Int32) × Int32 × (Nat → Int32) × (Nat → Int32) × Int32 × Int32 × Int32) (hf : f_X0_run p2_count failedObject failedRule failedLimit p2_lefts p2_rights draft_labels draft_sources draft_targets draft_words v1 = some out) : xMet l yX0_run wsX0_run (rM 3 76) D G [.ref h, .int v1, .ref h_p2] [[(h_p2, .inr (8, [.int p2_count, .ref a_p2_lefts, .ref a_p2_rights]))], [(a_p2_lefts, .inl (G 0, 6, .inl p2_lefts))], [(a_p2_rights, .inl (G 0, 6, .inl p2_rights))], [(h, .inr (0, [.ref h_draft, .int failedObject, .int failedRule, .int failedLimit]))], [(h_draft, .inr (3, [.int draft_objects, .ref a_draft_words, .int draft_steps, .ref a_draft_sources, .ref a_draft_targets, .ref a_draft_labels]))], [(a_draft_labels, .inl (G 0, 32, .inl draft_labels))], [(a_draft_sources, .inl (G 0, 32, .inl draft_sources))], [(a_draft_targets, .inl (G 0, 32, .inl draft_targets))], [(a_draft_words, .inl (G 0, 16, .inl draft_words))]] (xQi D [[(h_p2, .inr (8, [.int p2_count, .ref a_p2_lefts, .ref a_p2_rights]))], [(a_p2_lefts, .inl (G 0, 6, .inl p2_lefts))], [(a_p2_rights, .inl (G 0, 6, .inl p2_rights))], [(h, .inr (0, [.ref h_draft, .int out.2.2.2.2.2.2.2.2.1, .int out.2.2.2.2.2.2.2.2.2, .int out.2.2.2.2.2.2.2.1]))], [(h_draft, .inr (3, [.int out.2.2.1, .ref a_draft_words, .int out.2.2.2.2.1, .ref a_draft_sources, .ref a_draft_targets, .ref a_draft_labels]))], [(a_draft_labels, .inl (G 0, 32, .inl out.2.1))], [(a_draft_sources, .inl (G 0, 32, .inl out.2.2.2.1))], [(a_draft_targets, .inl (G 0, 32, .inl out.2.2.2.2.2.1))], [(a_draft_words, .inl (G 0, 16, .inl out.2.2.2.2.2.2.1))]] out.1) := by
  refine x_ent (cc := cX0_run) (maxL := 6) (by decide) rfl (Nat.le_of_ble_eq_true rfl) ?_
  intro p e s m below meth c aa ls args Q hQ hx hb hr hml hown hts hlocks hE hN hP hl hS
  have hown : s.vm.findClass RX0 = some m.cls := hown
  have hl : lv_has ls 6 [(0, .ref h), (1, .int v1), (2, .ref h_p2)] := hl
  have J77 : ∀ (v3 : Int32) (v4 : Int32) (v5 : Int32) (draft_labels : (Nat → Int32)) (draft_objects : Int32) (draft_sources : (Nat → Int32)) (draft_steps : Int32) (draft_targets : (Nat → Int32)) (draft_words : (Nat → Int32)) (failedLimit : Int32) (failedObject : Int32) (failedRule : Int32) (H : Heap) (locs : List Loc) (ls : Array Slot), xW D aa [[(h_p2, .inr (8, [.int p2_count, .ref a_p2_lefts, .ref a_p2_rights]))], [(a_p2_lefts, .inl (G 0, 6, .inl p2_lefts))], [(a_p2_rights, .inl (G 0, 6, .inl p2_rights))], [(h, .inr (0, [.ref h_draft, .int failedObject, .int failedRule, .int failedLimit]))], [(h_draft, .inr (3, [.int draft_objects, .ref a_draft_words, .int draft_steps, .ref a_draft_sources, .ref a_draft_targets, .ref a_draft_labels]))], [(a_draft_labels, .inl (G 0, 32, .inl draft_labels))], [(a_draft_sources, .inl (G 0, 32, .inl draft_sources))], [(a_draft_targets, .inl (G 0, 32, .inl draft_targets))], [(a_draft_words, .inl (G 0, 16, .inl draft_words))]] H → va_S (xA aa) s.heap H locs → lv_has ls 6 [(0, .ref h), (3, .int v3), (4, .int v4), (5, .int v5)] → f_X0_run_J77  v3 v4 v5 draft_labels draft_objects draft_sources draft_steps draft_targets draft_words failedLimit failedObject failedRule = some out → W p l e (rM 3 76) s m args below meth c H locs 0 0 Q (F0 m 77 ls []) := by
    intro v3 v4 v5 draft_labels draft_objects draft_sources draft_steps draft_targets draft_words failedLimit failedObject failedRule  H locs ls  hP hS hl hf
    rw [f_X0_run_J77] at hf
    refine lv_aload_n hx hb dX0_run_77 rfl (lv_at hl 0 rfl) ?_
    refine lv_iload_n hx hb dX0_run_78 rfl (lv_at hl 1 rfl) ?_
    obtain ⟨failedObject_79, e_failedObject_79, hf⟩ := lt_some hf
    refine x_put (w := .int failedObject_79) (ty := .int) (I' := [[(h_p2, .inr (8, [.int p2_count, .ref a_p2_lefts, .ref a_p2_rights]))], [(a_p2_lefts, .inl (G 0, 6, .inl p2_lefts))], [(a_p2_rights, .inl (G 0, 6, .inl p2_rights))], [(h, .inr (0, [.ref h_draft, .int failedObject_79, .int failedRule, .int failedLimit]))], [(h_draft, .inr (3, [.int draft_objects, .ref a_draft_words, .int draft_steps, .ref a_draft_sources, .ref a_draft_targets, .ref a_draft_labels]))], [(a_draft_labels, .inl (G 0, 32, .inl draft_labels))], [(a_draft_sources, .inl (G 0, 32, .inl draft_sources))], [(a_draft_targets, .inl (G 0, 32, .inl draft_targets))], [(a_draft_words, .inl (G 0, 16, .inl draft_words))]]) hx hb hts u_X0_run_X0 tyX0 tyX0_ok nmX0 hown hE hP hN hS 3 rfl rfl 1 (by decide) (hts (.fieldLink RX0 18 "DecreasingDiagrams$Explorer" "failedObject" "I") (List.mem_of_getElem? (i := 2) rfl)) rfl (congrArg Value.int e_failedObject_79) (by decide +kernel) rfl rfl (Nat.le_of_ble_eq_true rfl) rfl dX0_run_79 (fun H locs hP hS => ?_)
    refine lv_aload_n hx hb dX0_run_82 rfl (lv_at hl 0 rfl) ?_
    refine lv_iload hx hb dX0_run_83 (lv_at hl 2 rfl) ?_
    obtain ⟨failedRule_85, e_failedRule_85, hf⟩ := lt_some hf
    refine x_put (w := .int failedRule_85) (ty := .int) (I' := [[(h_p2, .inr (8, [.int p2_count, .ref a_p2_lefts, .ref a_p2_rights]))], [(a_p2_lefts, .inl (G 0, 6, .inl p2_lefts))], [(a_p2_rights, .inl (G 0, 6, .inl p2_rights))], [(h, .inr (0, [.ref h_draft, .int failedObject_79, .int failedRule_85, .int failedLimit]))], [(h_draft, .inr (3, [.int draft_objects, .ref a_draft_words, .int draft_steps, .ref a_draft_sources, .ref a_draft_targets, .ref a_draft_labels]))], [(a_draft_labels, .inl (G 0, 32, .inl draft_labels))], [(a_draft_sources, .inl (G 0, 32, .inl draft_sources))], [(a_draft_targets, .inl (G 0, 32, .inl draft_targets))], [(a_draft_words, .inl (G 0, 16, .inl draft_words))]]) hx hb hts u_X0_run_X0 tyX0 tyX0_ok nmX0 hown hE hP hN hS 3 rfl rfl 2 (by decide) (hts (.fieldLink RX0 22 "DecreasingDiagrams$Explorer" "failedRule" "I") (List.mem_of_getElem? (i := 3) rfl)) rfl (congrArg Value.int e_failedRule_85) (by decide +kernel) rfl rfl (Nat.le_of_ble_eq_true rfl) rfl dX0_run_85 (fun H locs hP hS => ?_)
    refine lv_aload_n hx hb dX0_run_88 rfl (lv_at hl 0 rfl) ?_
    refine lv_iload hx hb dX0_run_89 (lv_at hl 3 rfl) ?_
    obtain ⟨failedLimit_91, e_failedLimit_91, hf⟩ := lt_some hf
    refine x_put (w := .int failedLimit_91) (ty := .int) (I' := [[(h_p2, .inr (8, [.int p2_count, .ref a_p2_lefts, .ref a_p2_rights]))], [(a_p2_lefts, .inl (G 0, 6, .inl p2_lefts))], [(a_p2_rights, .inl (G 0, 6, .inl p2_rights))], [(h, .inr (0, [.ref h_draft, .int failedObject_79, .int failedRule_85, .int failedLimit_91]))], [(h_draft, .inr (3, [.int draft_objects, .ref a_draft_words, .int draft_steps, .ref a_draft_sources, .ref a_draft_targets, .ref a_draft_labels]))], [(a_draft_labels, .inl (G 0, 32, .inl draft_labels))], [(a_draft_sources, .inl (G 0, 32, .inl draft_sources))], [(a_draft_targets, .inl (G 0, 32, .inl draft_targets))], [(a_draft_words, .inl (G 0, 16, .inl draft_words))]]) hx hb hts u_X0_run_X0 tyX0 tyX0_ok nmX0 hown hE hP hN hS 3 rfl rfl 3 (by decide) (hts (.fieldLink RX0 25 "DecreasingDiagrams$Explorer" "failedLimit" "I") (List.mem_of_getElem? (i := 4) rfl)) rfl (congrArg Value.int e_failedLimit_91) (by decide +kernel) rfl rfl (Nat.le_of_ble_eq_true rfl) rfl dX0_run_91 (fun H locs hP hS => ?_)
    refine lv_iconst (v := 0) hx hb dX0_run_94 (by decide) ?_
    have hf := Option.some.inj hf
    subst hf
    subst hQ
    exact x_zret hx hb hr hlocks rfl hP hS dX0_run_95
  have L18 : ∀ (failedLimit : Int32) (failedObject : Int32) (failedRule : Int32), ∀ (n_18 : Nat) (v3 : Int32) (draft_labels : (Nat → Int32)) (draft_objects : Int32) (draft_sources : (Nat → Int32)) (draft_steps : Int32) (draft_targets : (Nat → Int32)) (draft_words : (Nat → Int32)) (H : Heap) (locs : List Loc) (ls : Array Slot), xW D aa [[(h_p2, .inr (8, [.int p2_count, .ref a_p2_lefts, .ref a_p2_rights]))], [(a_p2_lefts, .inl (G 0, 6, .inl p2_lefts))], [(a_p2_rights, .inl (G 0, 6, .inl p2_rights))], [(h, .inr (0, [.ref h_draft, .int failedObject, .int failedRule, .int failedLimit]))], [(h_draft, .inr (3, [.int draft_objects, .ref a_draft_words, .int draft_steps, .ref a_draft_sources, .ref a_draft_targets, .ref a_draft_labels]))], [(a_draft_labels, .inl (G 0, 32, .inl draft_labels))], [(a_draft_sources, .inl (G 0, 32, .inl draft_sources))], [(a_draft_targets, .inl (G 0, 32, .inl draft_targets))], [(a_draft_words, .inl (G 0, 16, .inl draft_words))]] H → va_S (xA aa) s.heap H locs → lv_has ls 6 [(0, .ref h), (2, .ref h_p2), (3, .int v3)] → lp (τ := Int32 → (Nat → Int32) → Int32 → (Nat → Int32) → Int32 → (Nat → Int32) → (Nat → Int32) → Option (Int32 × (Nat → Int32) × Int32 × (Nat → Int32) × Int32 × (Nat → Int32) × (Nat → Int32) × Int32 × Int32 × Int32)) (fun _ _ _ _ _ _ _ => none) (f_X0_run_L18 p2_count failedObject failedRule failedLimit p2_lefts p2_rights) n_18 v3 draft_labels draft_objects draft_sources draft_steps draft_targets draft_words = some out → W p l e (rM 3 76) s m args below meth c H locs 0 0 Q (F0 m 18 ls []) := by
    intro failedLimit failedObject failedRule   n_18
    induction n_18 with
    | zero =>
      intro v3 draft_labels draft_objects draft_sources draft_steps draft_targets draft_words H locs ls hP hS hl hf
      exact no_some hf
    | succ n_18 ih_18 =>
      intro v3 draft_labels draft_objects draft_sources draft_steps draft_targets draft_words H locs ls hP hS hl hf
      have hf : f_X0_run_L18 p2_count failedObject failedRule failedLimit p2_lefts p2_rights (lp (τ := Int32 → (Nat → Int32) → Int32 → (Nat → Int32) → Int32 → (Nat → Int32) → (Nat → Int32) → Option (Int32 × (Nat → Int32) × Int32 × (Nat → Int32) × Int32 × (Nat → Int32) × (Nat → Int32) × Int32 × Int32 × Int32)) (fun _ _ _ _ _ _ _ => none) (f_X0_run_L18 p2_count failedObject failedRule failedLimit p2_lefts p2_rights) n_18) v3 draft_labels draft_objects draft_sources draft_steps draft_targets draft_words = some out := hf
      rw [f_X0_run_L18] at hf
      have J102 : ∀ (v3 : Int32) (draft_labels : (Nat → Int32)) (draft_objects : Int32) (draft_sources : (Nat → Int32)) (draft_steps : Int32) (draft_targets : (Nat → Int32)) (draft_words : (Nat → Int32)) (H : Heap) (locs : List Loc) (ls : Array Slot), xW D aa [[(h_p2, .inr (8, [.int p2_count, .ref a_p2_lefts, .ref a_p2_rights]))], [(a_p2_lefts, .inl (G 0, 6, .inl p2_lefts))], [(a_p2_rights, .inl (G 0, 6, .inl p2_rights))], [(h, .inr (0, [.ref h_draft, .int failedObject, .int failedRule, .int failedLimit]))], [(h_draft, .inr (3, [.int draft_objects, .ref a_draft_words, .int draft_steps, .ref a_draft_sources, .ref a_draft_targets, .ref a_draft_labels]))], [(a_draft_labels, .inl (G 0, 32, .inl draft_labels))], [(a_draft_sources, .inl (G 0, 32, .inl draft_sources))], [(a_draft_targets, .inl (G 0, 32, .inl draft_targets))], [(a_draft_words, .inl (G 0, 16, .inl draft_words))]] H → va_S (xA aa) s.heap H locs → lv_has ls 6 [(0, .ref h), (2, .ref h_p2), (3, .int v3)] → f_X0_run_J102 (lp (τ := Int32 → (Nat → Int32) → Int32 → (Nat → Int32) → Int32 → (Nat → Int32) → (Nat → Int32) → Option (Int32 × (Nat → Int32) × Int32 × (Nat → Int32) × Int32 × (Nat → Int32) × (Nat → Int32) × Int32 × Int32 × Int32)) (fun _ _ _ _ _ _ _ => none) (f_X0_run_L18 p2_count failedObject failedRule failedLimit p2_lefts p2_rights) n_18) v3 draft_labels draft_objects draft_sources draft_steps draft_targets draft_words = some out → W p l e (rM 3 76) s m args below meth c H locs 0 0 Q (F0 m 102 ls []) := by
        intro v3 draft_labels draft_objects draft_sources draft_steps draft_targets draft_words  H locs ls  hP hS hl hf
        rw [f_X0_run_J102] at hf
        obtain ⟨v3_102, e_v3_102, hf⟩ := lt_some hf
        refine lv_iinc (v := v3_102) (lv' := [(3, .int v3_102), (0, .ref h), (2, .ref h_p2)]) hx hb dX0_run_102 hl (k := 2) rfl (by rw [e_v3_102]; rfl) (by decide) rfl (fun ls hl => ?_)
        refine lv_goto (tgt := 18) hx hb dX0_run_105 (by decide) ?_
        exact ih_18 v3_102 draft_labels draft_objects draft_sources draft_steps draft_targets draft_words H locs ls hP hS (lv_sub hl [1, 2, 0] rfl) hf
      have L38 : ∀ (v3 : Int32), ∀ (n_38 : Nat) (v4 : Int32) (draft_labels : (Nat → Int32)) (draft_objects : Int32) (draft_sources : (Nat → Int32)) (draft_steps : Int32) (draft_targets : (Nat → Int32)) (draft_words : (Nat → Int32)) (H : Heap) (locs : List Loc) (ls : Array Slot), xW D aa [[(h_p2, .inr (8, [.int p2_count, .ref a_p2_lefts, .ref a_p2_rights]))], [(a_p2_lefts, .inl (G 0, 6, .inl p2_lefts))], [(a_p2_rights, .inl (G 0, 6, .inl p2_rights))], [(h, .inr (0, [.ref h_draft, .int failedObject, .int failedRule, .int failedLimit]))], [(h_draft, .inr (3, [.int draft_objects, .ref a_draft_words, .int draft_steps, .ref a_draft_sources, .ref a_draft_targets, .ref a_draft_labels]))], [(a_draft_labels, .inl (G 0, 32, .inl draft_labels))], [(a_draft_sources, .inl (G 0, 32, .inl draft_sources))], [(a_draft_targets, .inl (G 0, 32, .inl draft_targets))], [(a_draft_words, .inl (G 0, 16, .inl draft_words))]] H → va_S (xA aa) s.heap H locs → lv_has ls 6 [(0, .ref h), (2, .ref h_p2), (3, .int v3), (4, .int v4)] → lp (τ := Int32 → (Nat → Int32) → Int32 → (Nat → Int32) → Int32 → (Nat → Int32) → (Nat → Int32) → Option (Int32 × (Nat → Int32) × Int32 × (Nat → Int32) × Int32 × (Nat → Int32) × (Nat → Int32) × Int32 × Int32 × Int32)) (fun _ _ _ _ _ _ _ => none) (f_X0_run_L38 p2_count failedObject failedRule failedLimit p2_lefts p2_rights v3 (lp (τ := Int32 → (Nat → Int32) → Int32 → (Nat → Int32) → Int32 → (Nat → Int32) → (Nat → Int32) → Option (Int32 × (Nat → Int32) × Int32 × (Nat → Int32) × Int32 × (Nat → Int32) × (Nat → Int32) × Int32 × Int32 × Int32)) (fun _ _ _ _ _ _ _ => none) (f_X0_run_L18 p2_count failedObject failedRule failedLimit p2_lefts p2_rights) n_18)) n_38 v4 draft_labels draft_objects draft_sources draft_steps draft_targets draft_words = some out → W p l e (rM 3 76) s m args below meth c H locs 0 0 Q (F0 m 38 ls []) := by
        intro v3   n_38
        induction n_38 with
        | zero =>
          intro v4 draft_labels draft_objects draft_sources draft_steps draft_targets draft_words H locs ls hP hS hl hf
          exact no_some hf
        | succ n_38 ih_38 =>
          intro v4 draft_labels draft_objects draft_sources draft_steps draft_targets draft_words H locs ls hP hS hl hf
          have hf : f_X0_run_L38 p2_count failedObject failedRule failedLimit p2_lefts p2_rights v3 (lp (τ := Int32 → (Nat → Int32) → Int32 → (Nat → Int32) → Int32 → (Nat → Int32) → (Nat → Int32) → Option (Int32 × (Nat → Int32) × Int32 × (Nat → Int32) × Int32 × (Nat → Int32) × (Nat → Int32) × Int32 × Int32 × Int32)) (fun _ _ _ _ _ _ _ => none) (f_X0_run_L18 p2_count failedObject failedRule failedLimit p2_lefts p2_rights) n_18) (lp (τ := Int32 → (Nat → Int32) → Int32 → (Nat → Int32) → Int32 → (Nat → Int32) → (Nat → Int32) → Option (Int32 × (Nat → Int32) × Int32 × (Nat → Int32) × Int32 × (Nat → Int32) × (Nat → Int32) × Int32 × Int32 × Int32)) (fun _ _ _ _ _ _ _ => none) (f_X0_run_L38 p2_count failedObject failedRule failedLimit p2_lefts p2_rights v3 (lp (τ := Int32 → (Nat → Int32) → Int32 → (Nat → Int32) → Int32 → (Nat → Int32) → (Nat → Int32) → Option (Int32 × (Nat → Int32) × Int32 × (Nat → Int32) × Int32 × (Nat → Int32) × (Nat → Int32) × Int32 × Int32 × Int32)) (fun _ _ _ _ _ _ _ => none) (f_X0_run_L18 p2_count failedObject failedRule failedLimit p2_lefts p2_rights) n_18)) n_38) v4 draft_labels draft_objects draft_sources draft_steps draft_targets draft_words = some out := hf
          rw [f_X0_run_L38] at hf
          refine lv_iload hx hb dX0_run_38 (lv_at hl 3 rfl) ?_
          refine lv_aload_n hx hb dX0_run_40 rfl (lv_at hl 1 rfl) ?_
          refine x_getN hx hb hts u_X0_run_X8 hown hE hP 0 rfl rfl 0 (by decide) (hE.2 (.fieldLinkNest RX0 38 "DecreasingDiagrams$RuleSet" "count" "I" RX11) (List.mem_of_getElem? (i := 23) rfl)) rfl dX0_run_41 ?_
          refine lv_icmp_ge (tgt := 102) hx hb dX0_run_44 (by decide) (fun c_44 => ?_) (fun c_44 => ?_)
          · have hf := it_pos c_44 hf
            exact J102 v3 draft_labels draft_objects draft_sources draft_steps draft_targets draft_words  H locs ls  hP hS (lv_sub hl [0, 1, 2] rfl) hf
          · have hf := it_neg c_44 hf
            refine lv_aload_n hx hb dX0_run_47 rfl (lv_at hl 0 rfl) ?_
            refine lv_iload_n hx hb dX0_run_48 rfl (lv_at hl 2 rfl) ?_
            refine lv_iload hx hb dX0_run_49 (lv_at hl 3 rfl) ?_
            refine lv_aload_n hx hb dX0_run_51 rfl (lv_at hl 1 rfl) ?_
            refine x_getN hx hb hts u_X0_run_X8 hown hE hP 0 rfl rfl 1 (by decide) (hE.2 (.fieldLinkNest RX0 43 "DecreasingDiagrams$RuleSet" "lefts" "[I" RX11) (List.mem_of_getElem? (i := 25) rfl)) rfl dX0_run_52 ?_
            refine lv_iload hx hb dX0_run_55 (lv_at hl 3 rfl) ?_
            obtain ⟨hi, hf⟩ := ck_some hf
            refine x_iald hx hb hE hP 1 rfl hi dX0_run_57 ?_
            refine lv_aload_n hx hb dX0_run_58 rfl (lv_at hl 1 rfl) ?_
            refine x_getN hx hb hts u_X0_run_X8 hown hE hP 0 rfl rfl 2 (by decide) (hE.2 (.fieldLinkNest RX0 47 "DecreasingDiagrams$RuleSet" "rights" "[I" RX11) (List.mem_of_getElem? (i := 26) rfl)) rfl dX0_run_59 ?_
            refine lv_iload hx hb dX0_run_62 (lv_at hl 3 rfl) ?_
            obtain ⟨hi, hf⟩ := ck_some hf
            refine x_iald hx hb hE hP 2 rfl hi dX0_run_64 ?_
            obtain ⟨r_65, hr_65, hf⟩ := bd_some hf
            refine x_goi (ps := [3, 4, 5, 6, 7, 8]) (I' := [[(h_p2, .inr (8, [.int p2_count, .ref a_p2_lefts, .ref a_p2_rights]))], [(a_p2_lefts, .inl (G 0, 6, .inl p2_lefts))], [(a_p2_rights, .inl (G 0, 6, .inl p2_rights))], [(h, .inr (0, [.ref h_draft, .int failedObject, .int failedRule, .int failedLimit]))], [(h_draft, .inr (3, [.int r_65.2.2.1, .ref a_draft_words, .int r_65.2.2.2.2.1, .ref a_draft_sources, .ref a_draft_targets, .ref a_draft_labels]))], [(a_draft_labels, .inl (G 0, 32, .inl r_65.2.1))], [(a_draft_sources, .inl (G 0, 32, .inl r_65.2.2.2.1))], [(a_draft_targets, .inl (G 0, 32, .inl r_65.2.2.2.2.2.1))], [(a_draft_words, .inl (G 0, 16, .inl r_65.2.2.2.2.2.2))]]) (x_runV (As := [.int v3, .int v4, .int (p2_lefts v4.toNatClampNeg), .int (p2_rights v4.toNatClampNeg)]) (rest := []) (ps := [3, 4, 5, 6, 7, 8]) ⟨hx, hb, hml, hown, hts⟩ (k_X0_applyEverywhere l D G h h_draft a_draft_words a_draft_sources a_draft_targets a_draft_labels failedObject failedRule failedLimit draft_objects draft_steps draft_labels draft_sources draft_targets draft_words v3 v4 (p2_lefts v4.toNatClampNeg) (p2_rights v4.toNatClampNeg) r_65 hr_65) (cwV 4 hts gX0_run_X0_applyEverywhere rfl rfl rfl (by decide +kernel) ⟨Nat.le_of_ble_eq_true rfl, Nat.le_of_ble_eq_true rfl⟩) hE hP hN rfl (by decide) 3 rfl rfl rfl hl.1 (Nat.le_of_ble_eq_true rfl) dX0_run_65 ⟨Nat.zero_le _, Nat.zero_le _⟩) hP hN hS rfl rfl (fun H locs hP hS => ?_)
            obtain ⟨v5_68, e_v5_68, hf⟩ := lt_some hf
            refine x_istore (v := v5_68) (lv' := [(5, .int v5_68), (0, .ref h), (2, .ref h_p2), (3, .int v3), (4, .int v4)]) hx hb dX0_run_68 e_v5_68 hl (by decide) rfl (fun ls hl => ?_)
            refine lv_iload hx hb dX0_run_70 (lv_at hl 0 rfl) ?_
            refine lv_bipush (v := -2) hx hb dX0_run_72 (by decide) ?_
            refine lv_icmp_eq (tgt := 96) hx hb dX0_run_74 (by decide) (fun c_74 => ?_) (fun c_74 => ?_)
            · have hf := it_pos c_74 hf
              obtain ⟨v4_96, e_v4_96, hf⟩ := lt_some hf
              refine lv_iinc (v := v4_96) (lv' := [(4, .int v4_96), (5, .int v5_68), (0, .ref h), (2, .ref h_p2), (3, .int v3)]) hx hb dX0_run_96 hl (k := 4) rfl (by rw [e_v4_96]; rfl) (by decide) rfl (fun ls hl => ?_)
              refine lv_goto (tgt := 38) hx hb dX0_run_99 (by decide) ?_
              exact ih_38 v4_96 r_65.2.1 r_65.2.2.1 r_65.2.2.2.1 r_65.2.2.2.2.1 r_65.2.2.2.2.2.1 r_65.2.2.2.2.2.2 H locs ls hP hS (lv_sub hl [2, 3, 4, 0] rfl) hf
            · have hf := it_neg c_74 hf
              exact J77 v3 v4 v5_68 r_65.2.1 r_65.2.2.1 r_65.2.2.2.1 r_65.2.2.2.2.1 r_65.2.2.2.2.2.1 r_65.2.2.2.2.2.2 failedLimit failedObject failedRule  H locs ls  hP hS (lv_sub hl [1, 3, 4, 0] rfl) hf
      refine lv_iload_n hx hb dX0_run_18 rfl (lv_at hl 2 rfl) ?_
      refine lv_bipush (v := 16) hx hb dX0_run_19 (by decide) ?_
      refine lv_icmp_ge (tgt := 108) hx hb dX0_run_21 (by decide) (fun c_21 => ?_) (fun c_21 => ?_)
      · have hf := it_pos c_21 hf
        refine lv_iconst (v := 1) hx hb dX0_run_108 (by decide) ?_
        have hf := Option.some.inj hf
        subst hf
        subst hQ
        exact x_zret hx hb hr hlocks rfl hP hS dX0_run_109
      · have hf := it_neg c_21 hf
        refine lv_iload_n hx hb dX0_run_24 rfl (lv_at hl 2 rfl) ?_
        refine lv_aload_n hx hb dX0_run_25 rfl (lv_at hl 0 rfl) ?_
        refine x_get hx hb hts u_X0_run_X0 hown hE hP 3 rfl rfl 0 (by decide) (hts (.fieldLink RX0 12 "DecreasingDiagrams$Explorer" "draft" "LDecreasingDiagrams$LabelledSystem;") (List.mem_of_getElem? (i := 1) rfl)) rfl dX0_run_26 ?_
        refine x_getN hx hb hts u_X0_run_X3 hown hE hP 4 rfl rfl 0 (by decide) (hE.2 (.fieldLinkNest RX0 35 "DecreasingDiagrams$LabelledSystem" "objects" "I" RX11) (List.mem_of_getElem? (i := 4) rfl)) rfl dX0_run_29 ?_
        refine lv_icmp_ge (tgt := 108) hx hb dX0_run_32 (by decide) (fun c_32 => ?_) (fun c_32 => ?_)
        · have hf := it_pos c_32 hf
          refine lv_iconst (v := 1) hx hb dX0_run_108 (by decide) ?_
          have hf := Option.some.inj hf
          subst hf
          subst hQ
          exact x_zret hx hb hr hlocks rfl hP hS dX0_run_109
        · have hf := it_neg c_32 hf
          refine lv_iconst (v := 0) hx hb dX0_run_35 (by decide) ?_
          obtain ⟨v4_36, e_v4_36, hf⟩ := lt_some hf
          refine x_istore (v := v4_36) (lv' := [(4, .int v4_36), (0, .ref h), (2, .ref h_p2), (3, .int v3)]) hx hb dX0_run_36 e_v4_36 hl (by decide) rfl (fun ls hl => ?_)
          exact L38 v3   fuel v4_36 draft_labels draft_objects draft_sources draft_steps draft_targets draft_words H locs ls hP hS (lv_sub hl [1, 2, 3, 0] rfl) hf
  rw [f_X0_run] at hf
  obtain ⟨H, hH⟩ : ∃ H : Heap, H = s.heap := ⟨_, rfl⟩
  obtain ⟨locs, hlocs⟩ : ∃ locs : List Loc, locs = [] := ⟨_, rfl⟩
  have hP : xW D aa [[(h_p2, .inr (8, [.int p2_count, .ref a_p2_lefts, .ref a_p2_rights]))], [(a_p2_lefts, .inl (G 0, 6, .inl p2_lefts))], [(a_p2_rights, .inl (G 0, 6, .inl p2_rights))], [(h, .inr (0, [.ref h_draft, .int failedObject, .int failedRule, .int failedLimit]))], [(h_draft, .inr (3, [.int draft_objects, .ref a_draft_words, .int draft_steps, .ref a_draft_sources, .ref a_draft_targets, .ref a_draft_labels]))], [(a_draft_labels, .inl (G 0, 32, .inl draft_labels))], [(a_draft_sources, .inl (G 0, 32, .inl draft_sources))], [(a_draft_targets, .inl (G 0, 32, .inl draft_targets))], [(a_draft_words, .inl (G 0, 16, .inl draft_words))]] H := by rw [hH]; exact hP
  have hS : va_S (xA aa) s.heap H locs := by rw [hH, hlocs]; exact hS
  suffices GO : W p l e (rM 3 76) s m args below meth c H locs 0 0 Q (F0 m 0 ls []) by
    rw [hH, hlocs] at GO
    exact GO
  clear hH hlocs
  refine lv_aload_n hx hb dX0_run_0 rfl (lv_at hl 0 rfl) ?_
  refine x_get hx hb hts u_X0_run_X0 hown hE hP 3 rfl rfl 0 (by decide) (hts (.fieldLink RX0 12 "DecreasingDiagrams$Explorer" "draft" "LDecreasingDiagrams$LabelledSystem;") (List.mem_of_getElem? (i := 1) rfl)) rfl dX0_run_1 ?_
  obtain ⟨r_4, hr_4, hf⟩ := bd_some hf
  refine x_gov (ps := [4]) (I' := [[(h_p2, .inr (8, [.int p2_count, .ref a_p2_lefts, .ref a_p2_rights]))], [(a_p2_lefts, .inl (G 0, 6, .inl p2_lefts))], [(a_p2_rights, .inl (G 0, 6, .inl p2_rights))], [(h, .inr (0, [.ref h_draft, .int failedObject, .int failedRule, .int failedLimit]))], [(h_draft, .inr (3, [.int r_4.1, .ref a_draft_words, .int r_4.2, .ref a_draft_sources, .ref a_draft_targets, .ref a_draft_labels]))], [(a_draft_labels, .inl (G 0, 32, .inl draft_labels))], [(a_draft_sources, .inl (G 0, 32, .inl draft_sources))], [(a_draft_targets, .inl (G 0, 32, .inl draft_targets))], [(a_draft_words, .inl (G 0, 16, .inl draft_words))]]) (x_runVN (As := []) (rest := []) (ps := [4]) ⟨hx, hb, hml, hown, hts⟩ (k_X3_clear l D G h_draft a_draft_words a_draft_sources a_draft_targets a_draft_labels draft_objects draft_steps r_4 hr_4) ⟨va_cnB 0 hts gX0_run_X3_clear_n28 rfl rfl rfl (hE.2 (.methodLinkNest RX0 28 yX3_clear RX11) (List.mem_of_getElem? (i := 100) rfl)) (hts (.initialized RX3) (List.mem_of_getElem? (i := 6) rfl)) (by decide +kernel) ⟨Nat.le_of_ble_eq_true rfl, Nat.le_of_ble_eq_true rfl⟩, (hts (.instanceMethod yX3_clear) (List.mem_of_getElem? (i := 5) rfl)), (hts (.selects RX3 yX3_clear yX3_clear) (List.mem_of_getElem? (i := 7) rfl))⟩ hE hP hN rfl (by decide) 4 rfl rfl rfl hl.1 (Nat.le_of_ble_eq_true rfl) dX0_run_4 ⟨Nat.zero_le _, Nat.zero_le _⟩) hP hN hS rfl rfl (fun H locs hP hS => ?_)
  refine lv_aload_n hx hb dX0_run_7 rfl (lv_at hl 0 rfl) ?_
  refine x_get hx hb hts u_X0_run_X0 hown hE hP 3 rfl rfl 0 (by decide) (hts (.fieldLink RX0 12 "DecreasingDiagrams$Explorer" "draft" "LDecreasingDiagrams$LabelledSystem;") (List.mem_of_getElem? (i := 1) rfl)) rfl dX0_run_8 ?_
  refine lv_iload_n hx hb dX0_run_11 rfl (lv_at hl 1 rfl) ?_
  obtain ⟨r_12, hr_12, hf⟩ := bd_some hf
  refine x_goi (ps := [4, 8]) (I' := [[(h_p2, .inr (8, [.int p2_count, .ref a_p2_lefts, .ref a_p2_rights]))], [(a_p2_lefts, .inl (G 0, 6, .inl p2_lefts))], [(a_p2_rights, .inl (G 0, 6, .inl p2_rights))], [(h, .inr (0, [.ref h_draft, .int failedObject, .int failedRule, .int failedLimit]))], [(h_draft, .inr (3, [.int r_12.2.1, .ref a_draft_words, .int r_4.2, .ref a_draft_sources, .ref a_draft_targets, .ref a_draft_labels]))], [(a_draft_labels, .inl (G 0, 32, .inl draft_labels))], [(a_draft_sources, .inl (G 0, 32, .inl draft_sources))], [(a_draft_targets, .inl (G 0, 32, .inl draft_targets))], [(a_draft_words, .inl (G 0, 16, .inl r_12.2.2))]]) (x_runVN (As := [.int v1]) (rest := []) (ps := [4, 8]) ⟨hx, hb, hml, hown, hts⟩ (k_X3_appendObject l D G h_draft a_draft_words a_draft_sources a_draft_targets a_draft_labels r_4.1 r_4.2 draft_words v1 r_12 hr_12) ⟨va_cnB 1 hts gX0_run_X3_appendObject_n31 rfl rfl rfl (hE.2 (.methodLinkNest RX0 31 yX3_appendObject RX11) (List.mem_of_getElem? (i := 101) rfl)) (hts (.initialized RX3) (List.mem_of_getElem? (i := 6) rfl)) (by decide +kernel) ⟨Nat.le_of_ble_eq_true rfl, Nat.le_of_ble_eq_true rfl⟩, (hts (.instanceMethod yX3_appendObject) (List.mem_of_getElem? (i := 11) rfl)), (hts (.selects RX3 yX3_appendObject yX3_appendObject) (List.mem_of_getElem? (i := 12) rfl))⟩ hE hP hN rfl (by decide) 4 rfl rfl rfl hl.1 (Nat.le_of_ble_eq_true rfl) dX0_run_12 ⟨Nat.zero_le _, Nat.zero_le _⟩) hP hN hS rfl rfl (fun H locs hP hS => ?_)
  refine lv_pop hx hb dX0_run_15 rfl ?_
  refine lv_iconst (v := 0) hx hb dX0_run_16 (by decide) ?_
  obtain ⟨v3_17, e_v3_17, hf⟩ := lt_some hf
  refine x_istore_n (v := v3_17) (lv' := [(3, .int v3_17), (0, .ref h), (1, .int v1), (2, .ref h_p2)]) hx hb dX0_run_17 e_v3_17 rfl hl (by decide) rfl (fun ls hl => ?_)
  exact L18 failedLimit failedObject failedRule   fuel v3_17 draft_labels r_12.2.1 draft_sources r_4.2 draft_targets r_12.2.2 H locs ls hP hS (lv_sub hl [1, 3, 0] rfl) hf

set_option maxRecDepth 20000 in
theorem u_X9_isMet_X9 : ∀ w ∈ wsX90, w ∈ wsX9_isMet := xx_pl _ [4, 5, 6, 7, 8, 9, 10, 11, 12, 13] (by decide +kernel)
def f_X9_isMet_J32 (rec_2 : (Int32 → Option (Int32))) (v3 : Int32) : Option (Int32) :=
  lt (v3 + 1) (fun v3_32 => rec_2 v3_32)
def f_X9_isMet_L2 (places : Int32) (objects : (Nat → Int32)) (parts : (Nat → Int32)) (v1 : Int32) (v2 : Int32) (rec_2 : Int32 → Option (Int32)) (v3 : Int32) : Option (Int32) :=
  if places ≤ v3 then (some 0) else (ck v3 32 (if ¬ (objects v3.toNatClampNeg) = v1 then (f_X9_isMet_J32 rec_2 v3) else (ck v3 32 (if ¬ (parts v3.toNatClampNeg) = v2 then (f_X9_isMet_J32 rec_2 v3) else (some 1)))))
def f_X9_isMet (places : Int32) (objects : (Nat → Int32)) (parts : (Nat → Int32)) (v1 : Int32) (v2 : Int32) : Option (Int32) :=
  lt 0 (fun v3_1 => lp (τ := Int32 → Option (Int32)) (fun _ => none) (f_X9_isMet_L2 places objects parts v1 v2) fuel v3_1)
set_option maxHeartbeats 4000000 in
set_option maxRecDepth 100000 in
theorem k_X9_isMet (l : Launch) (D : va_G) (G : Nat → ClassId) (h : Nat) (a_objects : Nat) (a_parts : Nat) (a_lengths : Nat) (a_previous : Nat) (a_arrivals : Nat) (a_firstPlaces : Nat) (belowOwn : Int32) (belowEither : Int32) (other : Int32) (places : Int32) (objects : (Nat → Int32)) (parts : (Nat → Int32))  (v1 : Int32) (v2 : Int32) (out : Int32) (hf : f_X9_isMet places objects parts v1 v2 = some out) : xMet l yX9_isMet wsX9_isMet (rM 0 0) D G [.ref h, .int v1, .int v2] [[(h, .inr (9, [.int belowOwn, .int belowEither, .int other, .int places, .ref a_objects, .ref a_parts, .ref a_lengths, .ref a_previous, .ref a_arrivals, .ref a_firstPlaces]))], [(a_objects, .inl (G 0, 32, .inl objects))], [(a_parts, .inl (G 0, 32, .inl parts))]] (xQi D [[(h, .inr (9, [.int belowOwn, .int belowEither, .int other, .int places, .ref a_objects, .ref a_parts, .ref a_lengths, .ref a_previous, .ref a_arrivals, .ref a_firstPlaces]))], [(a_objects, .inl (G 0, 32, .inl objects))], [(a_parts, .inl (G 0, 32, .inl parts))]] out) := by
  refine x_ent (cc := cX9_isMet) (maxL := 4) (by decide) rfl (Nat.le_of_ble_eq_true rfl) ?_
  intro p e s m below meth c aa ls args Q hQ hx hb hr hml hown hts hlocks hE hN hP hl hS
  have hown : s.vm.findClass RX9 = some m.cls := hown
  have hl : lv_has ls 4 [(0, .ref h), (1, .int v1), (2, .int v2)] := hl
  have L2 : ∀ (n_2 : Nat) (v3 : Int32) (H : Heap) (locs : List Loc) (ls : Array Slot), xW D aa [[(h, .inr (9, [.int belowOwn, .int belowEither, .int other, .int places, .ref a_objects, .ref a_parts, .ref a_lengths, .ref a_previous, .ref a_arrivals, .ref a_firstPlaces]))], [(a_objects, .inl (G 0, 32, .inl objects))], [(a_parts, .inl (G 0, 32, .inl parts))]] H → va_S (xA aa) s.heap H locs → lv_has ls 4 [(0, .ref h), (1, .int v1), (2, .int v2), (3, .int v3)] → lp (τ := Int32 → Option (Int32)) (fun _ => none) (f_X9_isMet_L2 places objects parts v1 v2) n_2 v3 = some out → W p l e (rM 0 0) s m args below meth c H locs 0 0 Q (F0 m 2 ls []) := by
    intro    n_2
    induction n_2 with
    | zero =>
      intro v3 H locs ls hP hS hl hf
      exact no_some hf
    | succ n_2 ih_2 =>
      intro v3 H locs ls hP hS hl hf
      have hf : f_X9_isMet_L2 places objects parts v1 v2 (lp (τ := Int32 → Option (Int32)) (fun _ => none) (f_X9_isMet_L2 places objects parts v1 v2) n_2) v3 = some out := hf
      rw [f_X9_isMet_L2] at hf
      have J32 : ∀ (v3 : Int32) (H : Heap) (locs : List Loc) (ls : Array Slot), xW D aa [[(h, .inr (9, [.int belowOwn, .int belowEither, .int other, .int places, .ref a_objects, .ref a_parts, .ref a_lengths, .ref a_previous, .ref a_arrivals, .ref a_firstPlaces]))], [(a_objects, .inl (G 0, 32, .inl objects))], [(a_parts, .inl (G 0, 32, .inl parts))]] H → va_S (xA aa) s.heap H locs → lv_has ls 4 [(0, .ref h), (1, .int v1), (2, .int v2), (3, .int v3)] → f_X9_isMet_J32 (lp (τ := Int32 → Option (Int32)) (fun _ => none) (f_X9_isMet_L2 places objects parts v1 v2) n_2) v3 = some out → W p l e (rM 0 0) s m args below meth c H locs 0 0 Q (F0 m 32 ls []) := by
        intro v3  H locs ls  hP hS hl hf
        rw [f_X9_isMet_J32] at hf
        obtain ⟨v3_32, e_v3_32, hf⟩ := lt_some hf
        refine lv_iinc (v := v3_32) (lv' := [(3, .int v3_32), (0, .ref h), (1, .int v1), (2, .int v2)]) hx hb dX9_isMet_32 hl (k := 3) rfl (by rw [e_v3_32]; rfl) (by decide) rfl (fun ls hl => ?_)
        refine lv_goto (tgt := 2) hx hb dX9_isMet_35 (by decide) ?_
        exact ih_2 v3_32 H locs ls hP hS (lv_sub hl [1, 2, 3, 0] rfl) hf
      refine lv_iload_n hx hb dX9_isMet_2 rfl (lv_at hl 3 rfl) ?_
      refine lv_aload_n hx hb dX9_isMet_3 rfl (lv_at hl 0 rfl) ?_
      refine x_get hx hb hts u_X9_isMet_X9 hown hE hP 0 rfl rfl 3 (by decide) (hts (.fieldLink RX9 21 "DecreasingDiagrams$SidePaths" "places" "I") (List.mem_of_getElem? (i := 1) rfl)) rfl dX9_isMet_4 ?_
      refine lv_icmp_ge (tgt := 38) hx hb dX9_isMet_7 (by decide) (fun c_7 => ?_) (fun c_7 => ?_)
      · have hf := it_pos c_7 hf
        refine lv_iconst (v := 0) hx hb dX9_isMet_38 (by decide) ?_
        have hf := Option.some.inj hf
        subst hf
        subst hQ
        exact x_zret hx hb hr hlocks rfl hP hS dX9_isMet_39
      · have hf := it_neg c_7 hf
        refine lv_aload_n hx hb dX9_isMet_10 rfl (lv_at hl 0 rfl) ?_
        refine x_get hx hb hts u_X9_isMet_X9 hown hE hP 0 rfl rfl 4 (by decide) (hts (.fieldLink RX9 24 "DecreasingDiagrams$SidePaths" "objects" "[I") (List.mem_of_getElem? (i := 2) rfl)) rfl dX9_isMet_11 ?_
        refine lv_iload_n hx hb dX9_isMet_14 rfl (lv_at hl 3 rfl) ?_
        obtain ⟨hi, hf⟩ := ck_some hf
        refine x_iald hx hb hE hP 1 rfl hi dX9_isMet_15 ?_
        refine lv_iload_n hx hb dX9_isMet_16 rfl (lv_at hl 1 rfl) ?_
        refine lv_icmp_ne (tgt := 32) hx hb dX9_isMet_17 (by decide) (fun c_17 => ?_) (fun c_17 => ?_)
        · have hf := it_pos c_17 hf
          exact J32 v3  H locs ls  hP hS (lv_sub hl [0, 1, 2, 3] rfl) hf
        · have hf := it_neg (fun h => h c_17) hf
          refine lv_aload_n hx hb dX9_isMet_20 rfl (lv_at hl 0 rfl) ?_
          refine x_get hx hb hts u_X9_isMet_X9 hown hE hP 0 rfl rfl 5 (by decide) (hts (.fieldLink RX9 28 "DecreasingDiagrams$SidePaths" "parts" "[I") (List.mem_of_getElem? (i := 3) rfl)) rfl dX9_isMet_21 ?_
          refine lv_iload_n hx hb dX9_isMet_24 rfl (lv_at hl 3 rfl) ?_
          obtain ⟨hi, hf⟩ := ck_some hf
          refine x_iald hx hb hE hP 2 rfl hi dX9_isMet_25 ?_
          refine lv_iload_n hx hb dX9_isMet_26 rfl (lv_at hl 2 rfl) ?_
          refine lv_icmp_ne (tgt := 32) hx hb dX9_isMet_27 (by decide) (fun c_27 => ?_) (fun c_27 => ?_)
          · have hf := it_pos c_27 hf
            exact J32 v3  H locs ls  hP hS (lv_sub hl [0, 1, 2, 3] rfl) hf
          · have hf := it_neg (fun h => h c_27) hf
            refine lv_iconst (v := 1) hx hb dX9_isMet_30 (by decide) ?_
            have hf := Option.some.inj hf
            subst hf
            subst hQ
            exact x_zret hx hb hr hlocks rfl hP hS dX9_isMet_31
  rw [f_X9_isMet] at hf
  obtain ⟨H, hH⟩ : ∃ H : Heap, H = s.heap := ⟨_, rfl⟩
  obtain ⟨locs, hlocs⟩ : ∃ locs : List Loc, locs = [] := ⟨_, rfl⟩
  have hP : xW D aa [[(h, .inr (9, [.int belowOwn, .int belowEither, .int other, .int places, .ref a_objects, .ref a_parts, .ref a_lengths, .ref a_previous, .ref a_arrivals, .ref a_firstPlaces]))], [(a_objects, .inl (G 0, 32, .inl objects))], [(a_parts, .inl (G 0, 32, .inl parts))]] H := by rw [hH]; exact hP
  have hS : va_S (xA aa) s.heap H locs := by rw [hH, hlocs]; exact hS
  suffices GO : W p l e (rM 0 0) s m args below meth c H locs 0 0 Q (F0 m 0 ls []) by
    rw [hH, hlocs] at GO
    exact GO
  clear hH hlocs
  refine lv_iconst (v := 0) hx hb dX9_isMet_0 (by decide) ?_
  obtain ⟨v3_1, e_v3_1, hf⟩ := lt_some hf
  refine x_istore_n (v := v3_1) (lv' := [(3, .int v3_1), (0, .ref h), (1, .int v1), (2, .int v2)]) hx hb dX9_isMet_1 e_v3_1 rfl hl (by decide) rfl (fun ls hl => ?_)
  exact L2    fuel v3_1 H locs ls hP hS (lv_sub hl [1, 2, 3, 0] rfl) hf

set_option maxRecDepth 20000 in
theorem u_X9_meet_X9 : ∀ w ∈ wsX90, w ∈ wsX9_meet := xx_pl _ [13, 14, 15, 16, 17, 18, 19, 20, 21, 22] (by decide +kernel)
def f_X9_meet_J108  (arrivals : (Nat → Int32)) (firstPlaces : (Nat → Int32)) (lengths : (Nat → Int32)) (objects : (Nat → Int32)) (parts : (Nat → Int32)) (places : Int32) (previous : (Nat → Int32)) : Option ((Nat → Int32) × (Nat → Int32) × (Nat → Int32) × (Nat → Int32) × (Nat → Int32) × Int32 × (Nat → Int32)) :=
  lt (places + 1) (fun places_115 => some (arrivals, firstPlaces, lengths, objects, parts, places_115, previous))
def f_X9_meet_J65 (v1 : Int32) (v3 : Int32) (v4 : Int32) (t1 : Int32) (t2 : Int32) (arrivals : (Nat → Int32)) (firstPlaces : (Nat → Int32)) (lengths : (Nat → Int32)) (objects : (Nat → Int32)) (parts : (Nat → Int32)) (places : Int32) (previous : (Nat → Int32)) : Option ((Nat → Int32) × (Nat → Int32) × (Nat → Int32) × (Nat → Int32) × (Nat → Int32) × Int32 × (Nat → Int32)) :=
  ck t1 32 (lt (upd lengths t1.toNatClampNeg t2) (fun lengths_65 => ck places 32 (lt (upd previous places.toNatClampNeg v3) (fun previous_75 => ck places 32 (lt (upd arrivals places.toNatClampNeg v4) (fun arrivals_86 => ck v1 16 (if ¬ (firstPlaces v1.toNatClampNeg) = (-2) then (f_X9_meet_J108 arrivals_86 firstPlaces lengths_65 objects parts places previous_75) else (ck v1 16 (lt (upd firstPlaces v1.toNatClampNeg places) (fun firstPlaces_107 => f_X9_meet_J108 arrivals_86 firstPlaces_107 lengths_65 objects parts places previous_75))))))))))
def f_X9_meet (places : Int32) (arrivals : (Nat → Int32)) (firstPlaces : (Nat → Int32)) (lengths : (Nat → Int32)) (objects : (Nat → Int32)) (parts : (Nat → Int32)) (previous : (Nat → Int32)) (v1 : Int32) (v2 : Int32) (v3 : Int32) (v4 : Int32) : Option ((Nat → Int32) × (Nat → Int32) × (Nat → Int32) × (Nat → Int32) × (Nat → Int32) × Int32 × (Nat → Int32)) :=
  if 32 ≤ places then (some (arrivals, firstPlaces, lengths, objects, parts, places, previous)) else ((f_X9_isMet places objects parts v1 v2).bind (fun r_12 => if r_12 = 0 then (ck places 32 (lt (upd objects places.toNatClampNeg v1) (fun objects_28 => ck places 32 (lt (upd parts places.toNatClampNeg v2) (fun parts_38 => if ¬ v3 = (-2) then (ck v3 32 (f_X9_meet_J65 v1 v3 v4 places ((lengths v3.toNatClampNeg) + 1) arrivals firstPlaces lengths objects_28 parts_38 places previous)) else (f_X9_meet_J65 v1 v3 v4 places 0 arrivals firstPlaces lengths objects_28 parts_38 places previous)))))) else (some (arrivals, firstPlaces, lengths, objects, parts, places, previous))))
set_option maxHeartbeats 4000000 in
set_option maxRecDepth 100000 in
theorem k_X9_meet (l : Launch) (D : va_G) (G : Nat → ClassId) (h : Nat) (a_objects : Nat) (a_parts : Nat) (a_lengths : Nat) (a_previous : Nat) (a_arrivals : Nat) (a_firstPlaces : Nat) (belowOwn : Int32) (belowEither : Int32) (other : Int32) (places : Int32) (arrivals : (Nat → Int32)) (firstPlaces : (Nat → Int32)) (lengths : (Nat → Int32)) (objects : (Nat → Int32)) (parts : (Nat → Int32)) (previous : (Nat → Int32))  (v1 : Int32) (v2 : Int32) (v3 : Int32) (v4 : Int32) (out : (Nat → Int32) × (Nat → Int32) × (Nat → Int32) × (Nat → Int32) × (Nat → Int32) × Int32 × (Nat → Int32)) (hf : f_X9_meet places arrivals firstPlaces lengths objects parts previous v1 v2 v3 v4 = some out) : xMet l yX9_meet wsX9_meet (rM 1 23) D G [.ref h, .int v1, .int v2, .int v3, .int v4] [[(h, .inr (9, [.int belowOwn, .int belowEither, .int other, .int places, .ref a_objects, .ref a_parts, .ref a_lengths, .ref a_previous, .ref a_arrivals, .ref a_firstPlaces]))], [(a_arrivals, .inl (G 0, 32, .inl arrivals))], [(a_firstPlaces, .inl (G 0, 16, .inl firstPlaces))], [(a_lengths, .inl (G 0, 32, .inl lengths))], [(a_objects, .inl (G 0, 32, .inl objects))], [(a_parts, .inl (G 0, 32, .inl parts))], [(a_previous, .inl (G 0, 32, .inl previous))]] (xQv D [[(h, .inr (9, [.int belowOwn, .int belowEither, .int other, .int out.2.2.2.2.2.1, .ref a_objects, .ref a_parts, .ref a_lengths, .ref a_previous, .ref a_arrivals, .ref a_firstPlaces]))], [(a_arrivals, .inl (G 0, 32, .inl out.1))], [(a_firstPlaces, .inl (G 0, 16, .inl out.2.1))], [(a_lengths, .inl (G 0, 32, .inl out.2.2.1))], [(a_objects, .inl (G 0, 32, .inl out.2.2.2.1))], [(a_parts, .inl (G 0, 32, .inl out.2.2.2.2.1))], [(a_previous, .inl (G 0, 32, .inl out.2.2.2.2.2.2))]]) := by
  refine x_ent (cc := cX9_meet) (maxL := 5) (by decide) rfl (Nat.le_of_ble_eq_true rfl) ?_
  intro p e s m below meth c aa ls args Q hQ hx hb hr hml hown hts hlocks hE hN hP hl hS
  have hown : s.vm.findClass RX9 = some m.cls := hown
  have hl : lv_has ls 5 [(0, .ref h), (1, .int v1), (2, .int v2), (3, .int v3), (4, .int v4)] := hl
  have J108 : ∀ (arrivals : (Nat → Int32)) (firstPlaces : (Nat → Int32)) (lengths : (Nat → Int32)) (objects : (Nat → Int32)) (parts : (Nat → Int32)) (places : Int32) (previous : (Nat → Int32)) (H : Heap) (locs : List Loc) (ls : Array Slot), xW D aa [[(h, .inr (9, [.int belowOwn, .int belowEither, .int other, .int places, .ref a_objects, .ref a_parts, .ref a_lengths, .ref a_previous, .ref a_arrivals, .ref a_firstPlaces]))], [(a_arrivals, .inl (G 0, 32, .inl arrivals))], [(a_firstPlaces, .inl (G 0, 16, .inl firstPlaces))], [(a_lengths, .inl (G 0, 32, .inl lengths))], [(a_objects, .inl (G 0, 32, .inl objects))], [(a_parts, .inl (G 0, 32, .inl parts))], [(a_previous, .inl (G 0, 32, .inl previous))]] H → va_S (xA aa) s.heap H locs → lv_has ls 5 [(0, .ref h)] → f_X9_meet_J108  arrivals firstPlaces lengths objects parts places previous = some out → W p l e (rM 1 23) s m args below meth c H locs 0 0 Q (F0 m 108 ls []) := by
    intro arrivals firstPlaces lengths objects parts places previous  H locs ls  hP hS hl hf
    rw [f_X9_meet_J108] at hf
    refine lv_aload_n hx hb dX9_meet_108 rfl (lv_at hl 0 rfl) ?_
    refine lv_dup hx hb dX9_meet_109 rfl ?_
    refine x_get hx hb hts u_X9_meet_X9 hown hE hP 0 rfl rfl 3 (by decide) (hts (.fieldLink RX9 21 "DecreasingDiagrams$SidePaths" "places" "I") (List.mem_of_getElem? (i := 1) rfl)) rfl dX9_meet_110 ?_
    refine lv_iconst (v := 1) hx hb dX9_meet_113 (by decide) ?_
    refine lv_iadd hx hb dX9_meet_114 ?_
    obtain ⟨places_115, e_places_115, hf⟩ := lt_some hf
    refine x_put (w := .int places_115) (ty := .int) (I' := [[(h, .inr (9, [.int belowOwn, .int belowEither, .int other, .int places_115, .ref a_objects, .ref a_parts, .ref a_lengths, .ref a_previous, .ref a_arrivals, .ref a_firstPlaces]))], [(a_arrivals, .inl (G 0, 32, .inl arrivals))], [(a_firstPlaces, .inl (G 0, 16, .inl firstPlaces))], [(a_lengths, .inl (G 0, 32, .inl lengths))], [(a_objects, .inl (G 0, 32, .inl objects))], [(a_parts, .inl (G 0, 32, .inl parts))], [(a_previous, .inl (G 0, 32, .inl previous))]]) hx hb hts u_X9_meet_X9 tyX9 tyX9_ok nmX9 hown hE hP hN hS 0 rfl rfl 3 (by decide) (hts (.fieldLink RX9 21 "DecreasingDiagrams$SidePaths" "places" "I") (List.mem_of_getElem? (i := 1) rfl)) rfl (congrArg Value.int e_places_115) (by decide +kernel) rfl rfl (Nat.le_of_ble_eq_true rfl) rfl dX9_meet_115 (fun H locs hP hS => ?_)
    have hf := Option.some.inj hf
    subst hf
    subst hQ
    exact x_vret hx hb hr hlocks hP hS dX9_meet_118
  have J65 : ∀ (t1 : Int32) (t2 : Int32) (arrivals : (Nat → Int32)) (firstPlaces : (Nat → Int32)) (lengths : (Nat → Int32)) (objects : (Nat → Int32)) (parts : (Nat → Int32)) (places : Int32) (previous : (Nat → Int32)) (H : Heap) (locs : List Loc) (ls : Array Slot), xW D aa [[(h, .inr (9, [.int belowOwn, .int belowEither, .int other, .int places, .ref a_objects, .ref a_parts, .ref a_lengths, .ref a_previous, .ref a_arrivals, .ref a_firstPlaces]))], [(a_arrivals, .inl (G 0, 32, .inl arrivals))], [(a_firstPlaces, .inl (G 0, 16, .inl firstPlaces))], [(a_lengths, .inl (G 0, 32, .inl lengths))], [(a_objects, .inl (G 0, 32, .inl objects))], [(a_parts, .inl (G 0, 32, .inl parts))], [(a_previous, .inl (G 0, 32, .inl previous))]] H → va_S (xA aa) s.heap H locs → lv_has ls 5 [(0, .ref h), (1, .int v1), (3, .int v3), (4, .int v4)] → f_X9_meet_J65 v1 v3 v4 t1 t2 arrivals firstPlaces lengths objects parts places previous = some out → W p l e (rM 1 23) s m args below meth c H locs 0 0 Q (F0 m 65 ls [.int t2, .int t1, .ref a_lengths]) := by
    intro t1 t2 arrivals firstPlaces lengths objects parts places previous  H locs ls  hP hS hl hf
    rw [f_X9_meet_J65] at hf
    obtain ⟨hi, hf⟩ := ck_some hf
    obtain ⟨lengths_65, e_lengths_65, hf⟩ := lt_some hf
    refine x_iast (I' := [[(h, .inr (9, [.int belowOwn, .int belowEither, .int other, .int places, .ref a_objects, .ref a_parts, .ref a_lengths, .ref a_previous, .ref a_arrivals, .ref a_firstPlaces]))], [(a_arrivals, .inl (G 0, 32, .inl arrivals))], [(a_firstPlaces, .inl (G 0, 16, .inl firstPlaces))], [(a_lengths, .inl (G 0, 32, .inl lengths_65))], [(a_objects, .inl (G 0, 32, .inl objects))], [(a_parts, .inl (G 0, 32, .inl parts))], [(a_previous, .inl (G 0, 32, .inl previous))]]) hx hb hE hP hN hS 3 rfl hi e_lengths_65 rfl dX9_meet_65 (fun H locs hP hS => ?_)
    refine lv_aload_n hx hb dX9_meet_66 rfl (lv_at hl 0 rfl) ?_
    refine x_get hx hb hts u_X9_meet_X9 hown hE hP 0 rfl rfl 7 (by decide) (hts (.fieldLink RX9 34 "DecreasingDiagrams$SidePaths" "previous" "[I") (List.mem_of_getElem? (i := 5) rfl)) rfl dX9_meet_67 ?_
    refine lv_aload_n hx hb dX9_meet_70 rfl (lv_at hl 0 rfl) ?_
    refine x_get hx hb hts u_X9_meet_X9 hown hE hP 0 rfl rfl 3 (by decide) (hts (.fieldLink RX9 21 "DecreasingDiagrams$SidePaths" "places" "I") (List.mem_of_getElem? (i := 1) rfl)) rfl dX9_meet_71 ?_
    refine lv_iload_n hx hb dX9_meet_74 rfl (lv_at hl 2 rfl) ?_
    obtain ⟨hi, hf⟩ := ck_some hf
    obtain ⟨previous_75, e_previous_75, hf⟩ := lt_some hf
    refine x_iast (I' := [[(h, .inr (9, [.int belowOwn, .int belowEither, .int other, .int places, .ref a_objects, .ref a_parts, .ref a_lengths, .ref a_previous, .ref a_arrivals, .ref a_firstPlaces]))], [(a_arrivals, .inl (G 0, 32, .inl arrivals))], [(a_firstPlaces, .inl (G 0, 16, .inl firstPlaces))], [(a_lengths, .inl (G 0, 32, .inl lengths_65))], [(a_objects, .inl (G 0, 32, .inl objects))], [(a_parts, .inl (G 0, 32, .inl parts))], [(a_previous, .inl (G 0, 32, .inl previous_75))]]) hx hb hE hP hN hS 6 rfl hi e_previous_75 rfl dX9_meet_75 (fun H locs hP hS => ?_)
    refine lv_aload_n hx hb dX9_meet_76 rfl (lv_at hl 0 rfl) ?_
    refine x_get hx hb hts u_X9_meet_X9 hown hE hP 0 rfl rfl 8 (by decide) (hts (.fieldLink RX9 37 "DecreasingDiagrams$SidePaths" "arrivals" "[I") (List.mem_of_getElem? (i := 6) rfl)) rfl dX9_meet_77 ?_
    refine lv_aload_n hx hb dX9_meet_80 rfl (lv_at hl 0 rfl) ?_
    refine x_get hx hb hts u_X9_meet_X9 hown hE hP 0 rfl rfl 3 (by decide) (hts (.fieldLink RX9 21 "DecreasingDiagrams$SidePaths" "places" "I") (List.mem_of_getElem? (i := 1) rfl)) rfl dX9_meet_81 ?_
    refine lv_iload hx hb dX9_meet_84 (lv_at hl 3 rfl) ?_
    obtain ⟨hi, hf⟩ := ck_some hf
    obtain ⟨arrivals_86, e_arrivals_86, hf⟩ := lt_some hf
    refine x_iast (I' := [[(h, .inr (9, [.int belowOwn, .int belowEither, .int other, .int places, .ref a_objects, .ref a_parts, .ref a_lengths, .ref a_previous, .ref a_arrivals, .ref a_firstPlaces]))], [(a_arrivals, .inl (G 0, 32, .inl arrivals_86))], [(a_firstPlaces, .inl (G 0, 16, .inl firstPlaces))], [(a_lengths, .inl (G 0, 32, .inl lengths_65))], [(a_objects, .inl (G 0, 32, .inl objects))], [(a_parts, .inl (G 0, 32, .inl parts))], [(a_previous, .inl (G 0, 32, .inl previous_75))]]) hx hb hE hP hN hS 1 rfl hi e_arrivals_86 rfl dX9_meet_86 (fun H locs hP hS => ?_)
    refine lv_aload_n hx hb dX9_meet_87 rfl (lv_at hl 0 rfl) ?_
    refine x_get hx hb hts u_X9_meet_X9 hown hE hP 0 rfl rfl 9 (by decide) (hts (.fieldLink RX9 40 "DecreasingDiagrams$SidePaths" "firstPlaces" "[I") (List.mem_of_getElem? (i := 7) rfl)) rfl dX9_meet_88 ?_
    refine lv_iload_n hx hb dX9_meet_91 rfl (lv_at hl 1 rfl) ?_
    obtain ⟨hi, hf⟩ := ck_some hf
    refine x_iald hx hb hE hP 2 rfl hi dX9_meet_92 ?_
    refine lv_bipush (v := -2) hx hb dX9_meet_93 (by decide) ?_
    refine lv_icmp_ne (tgt := 108) hx hb dX9_meet_95 (by decide) (fun c_95 => ?_) (fun c_95 => ?_)
    · have hf := it_pos c_95 hf
      exact J108 arrivals_86 firstPlaces lengths_65 objects parts places previous_75  H locs ls  hP hS (lv_sub hl [0] rfl) hf
    · have hf := it_neg (fun h => h c_95) hf
      refine lv_aload_n hx hb dX9_meet_98 rfl (lv_at hl 0 rfl) ?_
      refine x_get hx hb hts u_X9_meet_X9 hown hE hP 0 rfl rfl 9 (by decide) (hts (.fieldLink RX9 40 "DecreasingDiagrams$SidePaths" "firstPlaces" "[I") (List.mem_of_getElem? (i := 7) rfl)) rfl dX9_meet_99 ?_
      refine lv_iload_n hx hb dX9_meet_102 rfl (lv_at hl 1 rfl) ?_
      refine lv_aload_n hx hb dX9_meet_103 rfl (lv_at hl 0 rfl) ?_
      refine x_get hx hb hts u_X9_meet_X9 hown hE hP 0 rfl rfl 3 (by decide) (hts (.fieldLink RX9 21 "DecreasingDiagrams$SidePaths" "places" "I") (List.mem_of_getElem? (i := 1) rfl)) rfl dX9_meet_104 ?_
      obtain ⟨hi, hf⟩ := ck_some hf
      obtain ⟨firstPlaces_107, e_firstPlaces_107, hf⟩ := lt_some hf
      refine x_iast (I' := [[(h, .inr (9, [.int belowOwn, .int belowEither, .int other, .int places, .ref a_objects, .ref a_parts, .ref a_lengths, .ref a_previous, .ref a_arrivals, .ref a_firstPlaces]))], [(a_arrivals, .inl (G 0, 32, .inl arrivals_86))], [(a_firstPlaces, .inl (G 0, 16, .inl firstPlaces_107))], [(a_lengths, .inl (G 0, 32, .inl lengths_65))], [(a_objects, .inl (G 0, 32, .inl objects))], [(a_parts, .inl (G 0, 32, .inl parts))], [(a_previous, .inl (G 0, 32, .inl previous_75))]]) hx hb hE hP hN hS 2 rfl hi e_firstPlaces_107 rfl dX9_meet_107 (fun H locs hP hS => ?_)
      exact J108 arrivals_86 firstPlaces_107 lengths_65 objects parts places previous_75  H locs ls  hP hS (lv_sub hl [0] rfl) hf
  rw [f_X9_meet] at hf
  obtain ⟨H, hH⟩ : ∃ H : Heap, H = s.heap := ⟨_, rfl⟩
  obtain ⟨locs, hlocs⟩ : ∃ locs : List Loc, locs = [] := ⟨_, rfl⟩
  have hP : xW D aa [[(h, .inr (9, [.int belowOwn, .int belowEither, .int other, .int places, .ref a_objects, .ref a_parts, .ref a_lengths, .ref a_previous, .ref a_arrivals, .ref a_firstPlaces]))], [(a_arrivals, .inl (G 0, 32, .inl arrivals))], [(a_firstPlaces, .inl (G 0, 16, .inl firstPlaces))], [(a_lengths, .inl (G 0, 32, .inl lengths))], [(a_objects, .inl (G 0, 32, .inl objects))], [(a_parts, .inl (G 0, 32, .inl parts))], [(a_previous, .inl (G 0, 32, .inl previous))]] H := by rw [hH]; exact hP
  have hS : va_S (xA aa) s.heap H locs := by rw [hH, hlocs]; exact hS
  suffices GO : W p l e (rM 1 23) s m args below meth c H locs 0 0 Q (F0 m 0 ls []) by
    rw [hH, hlocs] at GO
    exact GO
  clear hH hlocs
  refine lv_aload_n hx hb dX9_meet_0 rfl (lv_at hl 0 rfl) ?_
  refine x_get hx hb hts u_X9_meet_X9 hown hE hP 0 rfl rfl 3 (by decide) (hts (.fieldLink RX9 21 "DecreasingDiagrams$SidePaths" "places" "I") (List.mem_of_getElem? (i := 1) rfl)) rfl dX9_meet_1 ?_
  refine lv_bipush (v := 32) hx hb dX9_meet_4 (by decide) ?_
  refine lv_icmp_ge (tgt := 18) hx hb dX9_meet_6 (by decide) (fun c_6 => ?_) (fun c_6 => ?_)
  · have hf := it_pos c_6 hf
    have hf := Option.some.inj hf
    subst hf
    subst hQ
    exact x_vret hx hb hr hlocks hP hS dX9_meet_18
  · have hf := it_neg c_6 hf
    refine lv_aload_n hx hb dX9_meet_9 rfl (lv_at hl 0 rfl) ?_
    refine lv_iload_n hx hb dX9_meet_10 rfl (lv_at hl 1 rfl) ?_
    refine lv_iload_n hx hb dX9_meet_11 rfl (lv_at hl 2 rfl) ?_
    obtain ⟨r_12, hr_12, hf⟩ := bd_some hf
    refine x_goi (ps := [0, 4, 5]) (I' := [[(h, .inr (9, [.int belowOwn, .int belowEither, .int other, .int places, .ref a_objects, .ref a_parts, .ref a_lengths, .ref a_previous, .ref a_arrivals, .ref a_firstPlaces]))], [(a_arrivals, .inl (G 0, 32, .inl arrivals))], [(a_firstPlaces, .inl (G 0, 16, .inl firstPlaces))], [(a_lengths, .inl (G 0, 32, .inl lengths))], [(a_objects, .inl (G 0, 32, .inl objects))], [(a_parts, .inl (G 0, 32, .inl parts))], [(a_previous, .inl (G 0, 32, .inl previous))]]) (x_runV (As := [.int v1, .int v2]) (rest := []) (ps := [0, 4, 5]) ⟨hx, hb, hml, hown, hts⟩ (k_X9_isMet l D G h a_objects a_parts a_lengths a_previous a_arrivals a_firstPlaces belowOwn belowEither other places objects parts v1 v2 r_12 hr_12) (cwV 2 hts gX9_meet_X9_isMet rfl rfl rfl (by decide +kernel) ⟨Nat.le_of_ble_eq_true rfl, Nat.le_of_ble_eq_true rfl⟩) hE hP hN rfl (by decide) 0 rfl rfl rfl hl.1 (Nat.le_of_ble_eq_true rfl) dX9_meet_12 ⟨Nat.zero_le _, Nat.zero_le _⟩) hP hN hS rfl rfl (fun H locs hP hS => ?_)
    refine lv_if_eq (tgt := 19) hx hb dX9_meet_15 (by decide) (fun c_15 => ?_) (fun c_15 => ?_)
    · have hf := it_pos c_15 hf
      refine lv_aload_n hx hb dX9_meet_19 rfl (lv_at hl 0 rfl) ?_
      refine x_get hx hb hts u_X9_meet_X9 hown hE hP 0 rfl rfl 4 (by decide) (hts (.fieldLink RX9 24 "DecreasingDiagrams$SidePaths" "objects" "[I") (List.mem_of_getElem? (i := 2) rfl)) rfl dX9_meet_20 ?_
      refine lv_aload_n hx hb dX9_meet_23 rfl (lv_at hl 0 rfl) ?_
      refine x_get hx hb hts u_X9_meet_X9 hown hE hP 0 rfl rfl 3 (by decide) (hts (.fieldLink RX9 21 "DecreasingDiagrams$SidePaths" "places" "I") (List.mem_of_getElem? (i := 1) rfl)) rfl dX9_meet_24 ?_
      refine lv_iload_n hx hb dX9_meet_27 rfl (lv_at hl 1 rfl) ?_
      obtain ⟨hi, hf⟩ := ck_some hf
      obtain ⟨objects_28, e_objects_28, hf⟩ := lt_some hf
      refine x_iast (I' := [[(h, .inr (9, [.int belowOwn, .int belowEither, .int other, .int places, .ref a_objects, .ref a_parts, .ref a_lengths, .ref a_previous, .ref a_arrivals, .ref a_firstPlaces]))], [(a_arrivals, .inl (G 0, 32, .inl arrivals))], [(a_firstPlaces, .inl (G 0, 16, .inl firstPlaces))], [(a_lengths, .inl (G 0, 32, .inl lengths))], [(a_objects, .inl (G 0, 32, .inl objects_28))], [(a_parts, .inl (G 0, 32, .inl parts))], [(a_previous, .inl (G 0, 32, .inl previous))]]) hx hb hE hP hN hS 4 rfl hi e_objects_28 rfl dX9_meet_28 (fun H locs hP hS => ?_)
      refine lv_aload_n hx hb dX9_meet_29 rfl (lv_at hl 0 rfl) ?_
      refine x_get hx hb hts u_X9_meet_X9 hown hE hP 0 rfl rfl 5 (by decide) (hts (.fieldLink RX9 28 "DecreasingDiagrams$SidePaths" "parts" "[I") (List.mem_of_getElem? (i := 3) rfl)) rfl dX9_meet_30 ?_
      refine lv_aload_n hx hb dX9_meet_33 rfl (lv_at hl 0 rfl) ?_
      refine x_get hx hb hts u_X9_meet_X9 hown hE hP 0 rfl rfl 3 (by decide) (hts (.fieldLink RX9 21 "DecreasingDiagrams$SidePaths" "places" "I") (List.mem_of_getElem? (i := 1) rfl)) rfl dX9_meet_34 ?_
      refine lv_iload_n hx hb dX9_meet_37 rfl (lv_at hl 2 rfl) ?_
      obtain ⟨hi, hf⟩ := ck_some hf
      obtain ⟨parts_38, e_parts_38, hf⟩ := lt_some hf
      refine x_iast (I' := [[(h, .inr (9, [.int belowOwn, .int belowEither, .int other, .int places, .ref a_objects, .ref a_parts, .ref a_lengths, .ref a_previous, .ref a_arrivals, .ref a_firstPlaces]))], [(a_arrivals, .inl (G 0, 32, .inl arrivals))], [(a_firstPlaces, .inl (G 0, 16, .inl firstPlaces))], [(a_lengths, .inl (G 0, 32, .inl lengths))], [(a_objects, .inl (G 0, 32, .inl objects_28))], [(a_parts, .inl (G 0, 32, .inl parts_38))], [(a_previous, .inl (G 0, 32, .inl previous))]]) hx hb hE hP hN hS 5 rfl hi e_parts_38 rfl dX9_meet_38 (fun H locs hP hS => ?_)
      refine lv_aload_n hx hb dX9_meet_39 rfl (lv_at hl 0 rfl) ?_
      refine x_get hx hb hts u_X9_meet_X9 hown hE hP 0 rfl rfl 6 (by decide) (hts (.fieldLink RX9 31 "DecreasingDiagrams$SidePaths" "lengths" "[I") (List.mem_of_getElem? (i := 4) rfl)) rfl dX9_meet_40 ?_
      refine lv_aload_n hx hb dX9_meet_43 rfl (lv_at hl 0 rfl) ?_
      refine x_get hx hb hts u_X9_meet_X9 hown hE hP 0 rfl rfl 3 (by decide) (hts (.fieldLink RX9 21 "DecreasingDiagrams$SidePaths" "places" "I") (List.mem_of_getElem? (i := 1) rfl)) rfl dX9_meet_44 ?_
      refine lv_iload_n hx hb dX9_meet_47 rfl (lv_at hl 3 rfl) ?_
      refine lv_bipush (v := -2) hx hb dX9_meet_48 (by decide) ?_
      refine lv_icmp_ne (tgt := 57) hx hb dX9_meet_50 (by decide) (fun c_50 => ?_) (fun c_50 => ?_)
      · have hf := it_pos c_50 hf
        refine lv_aload_n hx hb dX9_meet_57 rfl (lv_at hl 0 rfl) ?_
        refine x_get hx hb hts u_X9_meet_X9 hown hE hP 0 rfl rfl 6 (by decide) (hts (.fieldLink RX9 31 "DecreasingDiagrams$SidePaths" "lengths" "[I") (List.mem_of_getElem? (i := 4) rfl)) rfl dX9_meet_58 ?_
        refine lv_iload_n hx hb dX9_meet_61 rfl (lv_at hl 3 rfl) ?_
        obtain ⟨hi, hf⟩ := ck_some hf
        refine x_iald hx hb hE hP 3 rfl hi dX9_meet_62 ?_
        refine lv_iconst (v := 1) hx hb dX9_meet_63 (by decide) ?_
        refine lv_iadd hx hb dX9_meet_64 ?_
        exact J65 places ((lengths v3.toNatClampNeg) + 1) arrivals firstPlaces lengths objects_28 parts_38 places previous  H locs ls  hP hS (lv_sub hl [0, 1, 3, 4] rfl) hf
      · have hf := it_neg (fun h => h c_50) hf
        refine lv_iconst (v := 0) hx hb dX9_meet_53 (by decide) ?_
        refine lv_goto (tgt := 65) hx hb dX9_meet_54 (by decide) ?_
        exact J65 places 0 arrivals firstPlaces lengths objects_28 parts_38 places previous  H locs ls  hP hS (lv_sub hl [0, 1, 3, 4] rfl) hf
    · have hf := it_neg c_15 hf
      have hf := Option.some.inj hf
      subst hf
      subst hQ
      exact x_vret hx hb hr hlocks hP hS dX9_meet_18

set_option maxRecDepth 20000 in
theorem u_X9_partAfter_X9 : ∀ w ∈ wsX90, w ∈ wsX9_partAfter := xx_pl _ [7, 8, 9, 10, 11, 12, 13, 14, 15, 16] (by decide +kernel)
def f_X9_partAfter_J17 (belowEither : Int32) (other : Int32) (v1 : Int32) (v2 : Int32)  : Option (Int32) :=
  (f_X11_isIn belowEither v2).bind (fun r_22 => if ¬ r_22 = 0 then (some 1) else (if ¬ v1 = 0 then (some (-1)) else (if ¬ v2 = other then (some (-1)) else (some 1))))
def f_X9_partAfter (belowOwn : Int32) (belowEither : Int32) (other : Int32) (v1 : Int32) (v2 : Int32) : Option (Int32) :=
  if ¬ v1 = 0 then (f_X9_partAfter_J17 belowEither other v1 v2) else ((f_X11_isIn belowOwn v2).bind (fun r_9 => if r_9 = 0 then (f_X9_partAfter_J17 belowEither other v1 v2) else (some 0)))
set_option maxHeartbeats 4000000 in
set_option maxRecDepth 100000 in
theorem k_X9_partAfter (l : Launch) (D : va_G) (G : Nat → ClassId) (h : Nat) (a_objects : Nat) (a_parts : Nat) (a_lengths : Nat) (a_previous : Nat) (a_arrivals : Nat) (a_firstPlaces : Nat) (belowOwn : Int32) (belowEither : Int32) (other : Int32) (places : Int32)  (v1 : Int32) (v2 : Int32) (out : Int32) (hf : f_X9_partAfter belowOwn belowEither other v1 v2 = some out) : xMet l yX9_partAfter wsX9_partAfter (rM 1 21) D G [.ref h, .int v1, .int v2] [[(h, .inr (9, [.int belowOwn, .int belowEither, .int other, .int places, .ref a_objects, .ref a_parts, .ref a_lengths, .ref a_previous, .ref a_arrivals, .ref a_firstPlaces]))]] (xQi D [[(h, .inr (9, [.int belowOwn, .int belowEither, .int other, .int places, .ref a_objects, .ref a_parts, .ref a_lengths, .ref a_previous, .ref a_arrivals, .ref a_firstPlaces]))]] out) := by
  refine x_ent (cc := cX9_partAfter) (maxL := 3) (by decide) rfl (Nat.le_of_ble_eq_true rfl) ?_
  intro p e s m below meth c aa ls args Q hQ hx hb hr hml hown hts hlocks hE hN hP hl hS
  have hown : s.vm.findClass RX9 = some m.cls := hown
  have hl : lv_has ls 3 [(0, .ref h), (1, .int v1), (2, .int v2)] := hl
  have J17 : ∀ (H : Heap) (locs : List Loc) (ls : Array Slot), xW D aa [[(h, .inr (9, [.int belowOwn, .int belowEither, .int other, .int places, .ref a_objects, .ref a_parts, .ref a_lengths, .ref a_previous, .ref a_arrivals, .ref a_firstPlaces]))]] H → va_S (xA aa) s.heap H locs → lv_has ls 3 [(0, .ref h), (1, .int v1), (2, .int v2)] → f_X9_partAfter_J17 belowEither other v1 v2  = some out → W p l e (rM 1 21) s m args below meth c H locs 0 0 Q (F0 m 17 ls []) := by
    intro   H locs ls  hP hS hl hf
    rw [f_X9_partAfter_J17] at hf
    refine lv_aload_n hx hb dX9_partAfter_17 rfl (lv_at hl 0 rfl) ?_
    refine x_get hx hb hts u_X9_partAfter_X9 hown hE hP 0 rfl rfl 1 (by decide) (hts (.fieldLink RX9 15 "DecreasingDiagrams$SidePaths" "belowEither" "I") (List.mem_of_getElem? (i := 2) rfl)) rfl dX9_partAfter_18 ?_
    refine lv_iload_n hx hb dX9_partAfter_21 rfl (lv_at hl 2 rfl) ?_
    obtain ⟨r_22, hr_22, hf⟩ := bd_some hf
    refine x_goi (ps := []) (I' := [[(h, .inr (9, [.int belowOwn, .int belowEither, .int other, .int places, .ref a_objects, .ref a_parts, .ref a_lengths, .ref a_previous, .ref a_arrivals, .ref a_firstPlaces]))]]) (x_runSN (As := [.int belowEither, .int v2]) (rest := []) (ps := []) ⟨hx, hb, hml, hown, hts⟩ (k_X11_isIn l D G belowEither v2 r_22 hr_22) ⟨va_cnB 2 hts gX9_partAfter_X11_isIn_n80 rfl rfl rfl (hE.2 (.methodLinkNest RX9 80 yX11_isIn RX11) (List.mem_of_getElem? (i := 79) rfl)) (hts (.initialized RX11) (List.mem_of_getElem? (i := 5) rfl)) (by decide +kernel) ⟨Nat.le_of_ble_eq_true rfl, Nat.le_of_ble_eq_true rfl⟩, (hts (.static yX11_isIn) (List.mem_of_getElem? (i := 4) rfl)), trivial⟩ hE hP hN rfl (by decide) rfl hl.1 (Nat.le_of_ble_eq_true rfl) dX9_partAfter_22 ⟨Nat.zero_le _, Nat.zero_le _⟩) hP hN hS rfl rfl (fun H locs hP hS => ?_)
    refine lv_if_ne (tgt := 40) hx hb dX9_partAfter_25 (by decide) (fun c_25 => ?_) (fun c_25 => ?_)
    · have hf := it_pos c_25 hf
      refine lv_iconst (v := 1) hx hb dX9_partAfter_40 (by decide) ?_
      have hf := Option.some.inj hf
      subst hf
      subst hQ
      exact x_iret hx hb hr hlocks hP hS dX9_partAfter_41
    · have hf := it_neg (fun h => h c_25) hf
      refine lv_iload_n hx hb dX9_partAfter_28 rfl (lv_at hl 1 rfl) ?_
      refine lv_if_ne (tgt := 42) hx hb dX9_partAfter_29 (by decide) (fun c_29 => ?_) (fun c_29 => ?_)
      · have hf := it_pos c_29 hf
        refine lv_iconst (v := -1) hx hb dX9_partAfter_42 (by decide) ?_
        have hf := Option.some.inj hf
        subst hf
        subst hQ
        exact x_iret hx hb hr hlocks hP hS dX9_partAfter_43
      · have hf := it_neg (fun h => h c_29) hf
        refine lv_iload_n hx hb dX9_partAfter_32 rfl (lv_at hl 2 rfl) ?_
        refine lv_aload_n hx hb dX9_partAfter_33 rfl (lv_at hl 0 rfl) ?_
        refine x_get hx hb hts u_X9_partAfter_X9 hown hE hP 0 rfl rfl 2 (by decide) (hts (.fieldLink RX9 18 "DecreasingDiagrams$SidePaths" "other" "I") (List.mem_of_getElem? (i := 3) rfl)) rfl dX9_partAfter_34 ?_
        refine lv_icmp_ne (tgt := 42) hx hb dX9_partAfter_37 (by decide) (fun c_37 => ?_) (fun c_37 => ?_)
        · have hf := it_pos c_37 hf
          refine lv_iconst (v := -1) hx hb dX9_partAfter_42 (by decide) ?_
          have hf := Option.some.inj hf
          subst hf
          subst hQ
          exact x_iret hx hb hr hlocks hP hS dX9_partAfter_43
        · have hf := it_neg (fun h => h c_37) hf
          refine lv_iconst (v := 1) hx hb dX9_partAfter_40 (by decide) ?_
          have hf := Option.some.inj hf
          subst hf
          subst hQ
          exact x_iret hx hb hr hlocks hP hS dX9_partAfter_41
  rw [f_X9_partAfter] at hf
  obtain ⟨H, hH⟩ : ∃ H : Heap, H = s.heap := ⟨_, rfl⟩
  obtain ⟨locs, hlocs⟩ : ∃ locs : List Loc, locs = [] := ⟨_, rfl⟩
  have hP : xW D aa [[(h, .inr (9, [.int belowOwn, .int belowEither, .int other, .int places, .ref a_objects, .ref a_parts, .ref a_lengths, .ref a_previous, .ref a_arrivals, .ref a_firstPlaces]))]] H := by rw [hH]; exact hP
  have hS : va_S (xA aa) s.heap H locs := by rw [hH, hlocs]; exact hS
  suffices GO : W p l e (rM 1 21) s m args below meth c H locs 0 0 Q (F0 m 0 ls []) by
    rw [hH, hlocs] at GO
    exact GO
  clear hH hlocs
  refine lv_iload_n hx hb dX9_partAfter_0 rfl (lv_at hl 1 rfl) ?_
  refine lv_if_ne (tgt := 17) hx hb dX9_partAfter_1 (by decide) (fun c_1 => ?_) (fun c_1 => ?_)
  · have hf := it_pos c_1 hf
    exact J17   H locs ls  hP hS (lv_sub hl [0, 1, 2] rfl) hf
  · have hf := it_neg (fun h => h c_1) hf
    refine lv_aload_n hx hb dX9_partAfter_4 rfl (lv_at hl 0 rfl) ?_
    refine x_get hx hb hts u_X9_partAfter_X9 hown hE hP 0 rfl rfl 0 (by decide) (hts (.fieldLink RX9 9 "DecreasingDiagrams$SidePaths" "belowOwn" "I") (List.mem_of_getElem? (i := 1) rfl)) rfl dX9_partAfter_5 ?_
    refine lv_iload_n hx hb dX9_partAfter_8 rfl (lv_at hl 2 rfl) ?_
    obtain ⟨r_9, hr_9, hf⟩ := bd_some hf
    refine x_goi (ps := []) (I' := [[(h, .inr (9, [.int belowOwn, .int belowEither, .int other, .int places, .ref a_objects, .ref a_parts, .ref a_lengths, .ref a_previous, .ref a_arrivals, .ref a_firstPlaces]))]]) (x_runSN (As := [.int belowOwn, .int v2]) (rest := []) (ps := []) ⟨hx, hb, hml, hown, hts⟩ (k_X11_isIn l D G belowOwn v2 r_9 hr_9) ⟨va_cnB 2 hts gX9_partAfter_X11_isIn_n80 rfl rfl rfl (hE.2 (.methodLinkNest RX9 80 yX11_isIn RX11) (List.mem_of_getElem? (i := 79) rfl)) (hts (.initialized RX11) (List.mem_of_getElem? (i := 5) rfl)) (by decide +kernel) ⟨Nat.le_of_ble_eq_true rfl, Nat.le_of_ble_eq_true rfl⟩, (hts (.static yX11_isIn) (List.mem_of_getElem? (i := 4) rfl)), trivial⟩ hE hP hN rfl (by decide) rfl hl.1 (Nat.le_of_ble_eq_true rfl) dX9_partAfter_9 ⟨Nat.zero_le _, Nat.zero_le _⟩) hP hN hS rfl rfl (fun H locs hP hS => ?_)
    refine lv_if_eq (tgt := 17) hx hb dX9_partAfter_12 (by decide) (fun c_12 => ?_) (fun c_12 => ?_)
    · have hf := it_pos c_12 hf
      exact J17   H locs ls  hP hS (lv_sub hl [0, 1, 2] rfl) hf
    · have hf := it_neg c_12 hf
      refine lv_iconst (v := 0) hx hb dX9_partAfter_15 (by decide) ?_
      have hf := Option.some.inj hf
      subst hf
      subst hQ
      exact x_iret hx hb hr hlocks hP hS dX9_partAfter_16

set_option maxRecDepth 20000 in
theorem u_X9_leave_X3 : ∀ w ∈ wsX30, w ∈ wsX9_leave := xx_pl _ [27, 28, 29, 30, 31, 32] (by decide +kernel)
set_option maxRecDepth 20000 in
theorem u_X9_leave_X9 : ∀ w ∈ wsX90, w ∈ wsX9_leave := xx_pl _ [33, 34, 35, 36, 37, 38, 39, 40, 41, 42] (by decide +kernel)
def f_X9_leave_J63 (rec_2 : (Int32 → (Nat → Int32) → (Nat → Int32) → (Nat → Int32) → (Nat → Int32) → (Nat → Int32) → Int32 → (Nat → Int32) → Option ((Nat → Int32) × (Nat → Int32) × (Nat → Int32) × (Nat → Int32) × (Nat → Int32) × Int32 × (Nat → Int32)))) (v3 : Int32) (arrivals : (Nat → Int32)) (firstPlaces : (Nat → Int32)) (lengths : (Nat → Int32)) (objects : (Nat → Int32)) (parts : (Nat → Int32)) (places : Int32) (previous : (Nat → Int32)) : Option ((Nat → Int32) × (Nat → Int32) × (Nat → Int32) × (Nat → Int32) × (Nat → Int32) × Int32 × (Nat → Int32)) :=
  lt (v3 + 1) (fun v3_63 => rec_2 v3_63 arrivals firstPlaces lengths objects parts places previous)
def f_X9_leave_L2 (p1_steps : Int32) (belowOwn : Int32) (belowEither : Int32) (other : Int32) (p1_labels : (Nat → Int32)) (p1_sources : (Nat → Int32)) (p1_targets : (Nat → Int32)) (v2 : Int32) (rec_2 : Int32 → (Nat → Int32) → (Nat → Int32) → (Nat → Int32) → (Nat → Int32) → (Nat → Int32) → Int32 → (Nat → Int32) → Option ((Nat → Int32) × (Nat → Int32) × (Nat → Int32) × (Nat → Int32) × (Nat → Int32) × Int32 × (Nat → Int32))) (v3 : Int32) (arrivals : (Nat → Int32)) (firstPlaces : (Nat → Int32)) (lengths : (Nat → Int32)) (objects : (Nat → Int32)) (parts : (Nat → Int32)) (places : Int32) (previous : (Nat → Int32)) : Option ((Nat → Int32) × (Nat → Int32) × (Nat → Int32) × (Nat → Int32) × (Nat → Int32) × Int32 × (Nat → Int32)) :=
  if p1_steps ≤ v3 then (some (arrivals, firstPlaces, lengths, objects, parts, places, previous)) else (ck v3 32 (ck v2 32 (if ¬ (p1_sources v3.toNatClampNeg) = (objects v2.toNatClampNeg) then (f_X9_leave_J63 rec_2 v3 arrivals firstPlaces lengths objects parts places previous) else (ck v2 32 (ck v3 32 ((f_X9_partAfter belowOwn belowEither other (parts v2.toNatClampNeg) (p1_labels v3.toNatClampNeg)).bind (fun r_38 => lt r_38 (fun v4_41 => if v4_41 = (-1) then (f_X9_leave_J63 rec_2 v3 arrivals firstPlaces lengths objects parts places previous) else (ck v3 32 ((f_X9_meet places arrivals firstPlaces lengths objects parts previous (p1_targets v3.toNatClampNeg) v4_41 v2 v3).bind (fun r_60 => f_X9_leave_J63 rec_2 v3 r_60.1 r_60.2.1 r_60.2.2.1 r_60.2.2.2.1 r_60.2.2.2.2.1 r_60.2.2.2.2.2.1 r_60.2.2.2.2.2.2)))))))))))
def f_X9_leave (p1_steps : Int32) (belowOwn : Int32) (belowEither : Int32) (other : Int32) (places : Int32) (p1_labels : (Nat → Int32)) (p1_sources : (Nat → Int32)) (p1_targets : (Nat → Int32)) (arrivals : (Nat → Int32)) (firstPlaces : (Nat → Int32)) (lengths : (Nat → Int32)) (objects : (Nat → Int32)) (parts : (Nat → Int32)) (previous : (Nat → Int32)) (v2 : Int32) : Option ((Nat → Int32) × (Nat → Int32) × (Nat → Int32) × (Nat → Int32) × (Nat → Int32) × Int32 × (Nat → Int32)) :=
  lt 0 (fun v3_1 => lp (τ := Int32 → (Nat → Int32) → (Nat → Int32) → (Nat → Int32) → (Nat → Int32) → (Nat → Int32) → Int32 → (Nat → Int32) → Option ((Nat → Int32) × (Nat → Int32) × (Nat → Int32) × (Nat → Int32) × (Nat → Int32) × Int32 × (Nat → Int32))) (fun _ _ _ _ _ _ _ _ => none) (f_X9_leave_L2 p1_steps belowOwn belowEither other p1_labels p1_sources p1_targets v2) fuel v3_1 arrivals firstPlaces lengths objects parts places previous)
set_option maxHeartbeats 4000000 in
set_option maxRecDepth 100000 in
theorem k_X9_leave (l : Launch) (D : va_G) (G : Nat → ClassId) (h : Nat) (h_p1 : Nat) (a_p1_words : Nat) (a_p1_sources : Nat) (a_p1_targets : Nat) (a_p1_labels : Nat) (a_objects : Nat) (a_parts : Nat) (a_lengths : Nat) (a_previous : Nat) (a_arrivals : Nat) (a_firstPlaces : Nat) (p1_objects : Int32) (p1_steps : Int32) (belowOwn : Int32) (belowEither : Int32) (other : Int32) (places : Int32) (p1_labels : (Nat → Int32)) (p1_sources : (Nat → Int32)) (p1_targets : (Nat → Int32)) (arrivals : (Nat → Int32)) (firstPlaces : (Nat → Int32)) (lengths : (Nat → Int32)) (objects : (Nat → Int32)) (parts : (Nat → Int32)) (previous : (Nat → Int32))  (v2 : Int32) (out : (Nat → Int32) × (Nat → Int32) × (Nat → Int32) × (Nat → Int32) × (Nat → Int32) × Int32 × (Nat → Int32)) (hf : f_X9_leave p1_steps belowOwn belowEither other places p1_labels p1_sources p1_targets arrivals firstPlaces lengths objects parts previous v2 = some out) : xMet l yX9_leave wsX9_leave (rM 2 47) D G [.ref h, .ref h_p1, .int v2] [[(h_p1, .inr (3, [.int p1_objects, .ref a_p1_words, .int p1_steps, .ref a_p1_sources, .ref a_p1_targets, .ref a_p1_labels]))], [(a_p1_labels, .inl (G 0, 32, .inl p1_labels))], [(a_p1_sources, .inl (G 0, 32, .inl p1_sources))], [(a_p1_targets, .inl (G 0, 32, .inl p1_targets))], [(h, .inr (9, [.int belowOwn, .int belowEither, .int other, .int places, .ref a_objects, .ref a_parts, .ref a_lengths, .ref a_previous, .ref a_arrivals, .ref a_firstPlaces]))], [(a_arrivals, .inl (G 0, 32, .inl arrivals))], [(a_firstPlaces, .inl (G 0, 16, .inl firstPlaces))], [(a_lengths, .inl (G 0, 32, .inl lengths))], [(a_objects, .inl (G 0, 32, .inl objects))], [(a_parts, .inl (G 0, 32, .inl parts))], [(a_previous, .inl (G 0, 32, .inl previous))]] (xQv D [[(h_p1, .inr (3, [.int p1_objects, .ref a_p1_words, .int p1_steps, .ref a_p1_sources, .ref a_p1_targets, .ref a_p1_labels]))], [(a_p1_labels, .inl (G 0, 32, .inl p1_labels))], [(a_p1_sources, .inl (G 0, 32, .inl p1_sources))], [(a_p1_targets, .inl (G 0, 32, .inl p1_targets))], [(h, .inr (9, [.int belowOwn, .int belowEither, .int other, .int out.2.2.2.2.2.1, .ref a_objects, .ref a_parts, .ref a_lengths, .ref a_previous, .ref a_arrivals, .ref a_firstPlaces]))], [(a_arrivals, .inl (G 0, 32, .inl out.1))], [(a_firstPlaces, .inl (G 0, 16, .inl out.2.1))], [(a_lengths, .inl (G 0, 32, .inl out.2.2.1))], [(a_objects, .inl (G 0, 32, .inl out.2.2.2.1))], [(a_parts, .inl (G 0, 32, .inl out.2.2.2.2.1))], [(a_previous, .inl (G 0, 32, .inl out.2.2.2.2.2.2))]]) := by
  refine x_ent (cc := cX9_leave) (maxL := 5) (by decide) rfl (Nat.le_of_ble_eq_true rfl) ?_
  intro p e s m below meth c aa ls args Q hQ hx hb hr hml hown hts hlocks hE hN hP hl hS
  have hown : s.vm.findClass RX9 = some m.cls := hown
  have hl : lv_has ls 5 [(0, .ref h), (1, .ref h_p1), (2, .int v2)] := hl
  have L2 : ∀ (n_2 : Nat) (v3 : Int32) (arrivals : (Nat → Int32)) (firstPlaces : (Nat → Int32)) (lengths : (Nat → Int32)) (objects : (Nat → Int32)) (parts : (Nat → Int32)) (places : Int32) (previous : (Nat → Int32)) (H : Heap) (locs : List Loc) (ls : Array Slot), xW D aa [[(h_p1, .inr (3, [.int p1_objects, .ref a_p1_words, .int p1_steps, .ref a_p1_sources, .ref a_p1_targets, .ref a_p1_labels]))], [(a_p1_labels, .inl (G 0, 32, .inl p1_labels))], [(a_p1_sources, .inl (G 0, 32, .inl p1_sources))], [(a_p1_targets, .inl (G 0, 32, .inl p1_targets))], [(h, .inr (9, [.int belowOwn, .int belowEither, .int other, .int places, .ref a_objects, .ref a_parts, .ref a_lengths, .ref a_previous, .ref a_arrivals, .ref a_firstPlaces]))], [(a_arrivals, .inl (G 0, 32, .inl arrivals))], [(a_firstPlaces, .inl (G 0, 16, .inl firstPlaces))], [(a_lengths, .inl (G 0, 32, .inl lengths))], [(a_objects, .inl (G 0, 32, .inl objects))], [(a_parts, .inl (G 0, 32, .inl parts))], [(a_previous, .inl (G 0, 32, .inl previous))]] H → va_S (xA aa) s.heap H locs → lv_has ls 5 [(0, .ref h), (1, .ref h_p1), (2, .int v2), (3, .int v3)] → lp (τ := Int32 → (Nat → Int32) → (Nat → Int32) → (Nat → Int32) → (Nat → Int32) → (Nat → Int32) → Int32 → (Nat → Int32) → Option ((Nat → Int32) × (Nat → Int32) × (Nat → Int32) × (Nat → Int32) × (Nat → Int32) × Int32 × (Nat → Int32))) (fun _ _ _ _ _ _ _ _ => none) (f_X9_leave_L2 p1_steps belowOwn belowEither other p1_labels p1_sources p1_targets v2) n_2 v3 arrivals firstPlaces lengths objects parts places previous = some out → W p l e (rM 2 47) s m args below meth c H locs 0 0 Q (F0 m 2 ls []) := by
    intro    n_2
    induction n_2 with
    | zero =>
      intro v3 arrivals firstPlaces lengths objects parts places previous H locs ls hP hS hl hf
      exact no_some hf
    | succ n_2 ih_2 =>
      intro v3 arrivals firstPlaces lengths objects parts places previous H locs ls hP hS hl hf
      have hf : f_X9_leave_L2 p1_steps belowOwn belowEither other p1_labels p1_sources p1_targets v2 (lp (τ := Int32 → (Nat → Int32) → (Nat → Int32) → (Nat → Int32) → (Nat → Int32) → (Nat → Int32) → Int32 → (Nat → Int32) → Option ((Nat → Int32) × (Nat → Int32) × (Nat → Int32) × (Nat → Int32) × (Nat → Int32) × Int32 × (Nat → Int32))) (fun _ _ _ _ _ _ _ _ => none) (f_X9_leave_L2 p1_steps belowOwn belowEither other p1_labels p1_sources p1_targets v2) n_2) v3 arrivals firstPlaces lengths objects parts places previous = some out := hf
      rw [f_X9_leave_L2] at hf
      have J63 : ∀ (v3 : Int32) (arrivals : (Nat → Int32)) (firstPlaces : (Nat → Int32)) (lengths : (Nat → Int32)) (objects : (Nat → Int32)) (parts : (Nat → Int32)) (places : Int32) (previous : (Nat → Int32)) (H : Heap) (locs : List Loc) (ls : Array Slot), xW D aa [[(h_p1, .inr (3, [.int p1_objects, .ref a_p1_words, .int p1_steps, .ref a_p1_sources, .ref a_p1_targets, .ref a_p1_labels]))], [(a_p1_labels, .inl (G 0, 32, .inl p1_labels))], [(a_p1_sources, .inl (G 0, 32, .inl p1_sources))], [(a_p1_targets, .inl (G 0, 32, .inl p1_targets))], [(h, .inr (9, [.int belowOwn, .int belowEither, .int other, .int places, .ref a_objects, .ref a_parts, .ref a_lengths, .ref a_previous, .ref a_arrivals, .ref a_firstPlaces]))], [(a_arrivals, .inl (G 0, 32, .inl arrivals))], [(a_firstPlaces, .inl (G 0, 16, .inl firstPlaces))], [(a_lengths, .inl (G 0, 32, .inl lengths))], [(a_objects, .inl (G 0, 32, .inl objects))], [(a_parts, .inl (G 0, 32, .inl parts))], [(a_previous, .inl (G 0, 32, .inl previous))]] H → va_S (xA aa) s.heap H locs → lv_has ls 5 [(0, .ref h), (1, .ref h_p1), (2, .int v2), (3, .int v3)] → f_X9_leave_J63 (lp (τ := Int32 → (Nat → Int32) → (Nat → Int32) → (Nat → Int32) → (Nat → Int32) → (Nat → Int32) → Int32 → (Nat → Int32) → Option ((Nat → Int32) × (Nat → Int32) × (Nat → Int32) × (Nat → Int32) × (Nat → Int32) × Int32 × (Nat → Int32))) (fun _ _ _ _ _ _ _ _ => none) (f_X9_leave_L2 p1_steps belowOwn belowEither other p1_labels p1_sources p1_targets v2) n_2) v3 arrivals firstPlaces lengths objects parts places previous = some out → W p l e (rM 2 47) s m args below meth c H locs 0 0 Q (F0 m 63 ls []) := by
        intro v3 arrivals firstPlaces lengths objects parts places previous  H locs ls  hP hS hl hf
        rw [f_X9_leave_J63] at hf
        obtain ⟨v3_63, e_v3_63, hf⟩ := lt_some hf
        refine lv_iinc (v := v3_63) (lv' := [(3, .int v3_63), (0, .ref h), (1, .ref h_p1), (2, .int v2)]) hx hb dX9_leave_63 hl (k := 3) rfl (by rw [e_v3_63]; rfl) (by decide) rfl (fun ls hl => ?_)
        refine lv_goto (tgt := 2) hx hb dX9_leave_66 (by decide) ?_
        exact ih_2 v3_63 arrivals firstPlaces lengths objects parts places previous H locs ls hP hS (lv_sub hl [1, 2, 3, 0] rfl) hf
      refine lv_iload_n hx hb dX9_leave_2 rfl (lv_at hl 3 rfl) ?_
      refine lv_aload_n hx hb dX9_leave_3 rfl (lv_at hl 1 rfl) ?_
      refine x_getN hx hb hts u_X9_leave_X3 hown hE hP 0 rfl rfl 2 (by decide) (hE.2 (.fieldLinkNest RX9 70 "DecreasingDiagrams$LabelledSystem" "steps" "I" RX11) (List.mem_of_getElem? (i := 10) rfl)) rfl dX9_leave_4 ?_
      refine lv_icmp_ge (tgt := 69) hx hb dX9_leave_7 (by decide) (fun c_7 => ?_) (fun c_7 => ?_)
      · have hf := it_pos c_7 hf
        have hf := Option.some.inj hf
        subst hf
        subst hQ
        exact x_vret hx hb hr hlocks hP hS dX9_leave_69
      · have hf := it_neg c_7 hf
        refine lv_aload_n hx hb dX9_leave_10 rfl (lv_at hl 1 rfl) ?_
        refine x_getN hx hb hts u_X9_leave_X3 hown hE hP 0 rfl rfl 3 (by decide) (hE.2 (.fieldLinkNest RX9 73 "DecreasingDiagrams$LabelledSystem" "sources" "[I" RX11) (List.mem_of_getElem? (i := 13) rfl)) rfl dX9_leave_11 ?_
        refine lv_iload_n hx hb dX9_leave_14 rfl (lv_at hl 3 rfl) ?_
        obtain ⟨hi, hf⟩ := ck_some hf
        refine x_iald hx hb hE hP 2 rfl hi dX9_leave_15 ?_
        refine lv_aload_n hx hb dX9_leave_16 rfl (lv_at hl 0 rfl) ?_
        refine x_get hx hb hts u_X9_leave_X9 hown hE hP 4 rfl rfl 4 (by decide) (hts (.fieldLink RX9 24 "DecreasingDiagrams$SidePaths" "objects" "[I") (List.mem_of_getElem? (i := 1) rfl)) rfl dX9_leave_17 ?_
        refine lv_iload_n hx hb dX9_leave_20 rfl (lv_at hl 2 rfl) ?_
        obtain ⟨hi, hf⟩ := ck_some hf
        refine x_iald hx hb hE hP 8 rfl hi dX9_leave_21 ?_
        refine lv_icmp_ne (tgt := 63) hx hb dX9_leave_22 (by decide) (fun c_22 => ?_) (fun c_22 => ?_)
        · have hf := it_pos c_22 hf
          exact J63 v3 arrivals firstPlaces lengths objects parts places previous  H locs ls  hP hS (lv_sub hl [0, 1, 2, 3] rfl) hf
        · have hf := it_neg (fun h => h c_22) hf
          refine lv_aload_n hx hb dX9_leave_25 rfl (lv_at hl 0 rfl) ?_
          refine lv_aload_n hx hb dX9_leave_26 rfl (lv_at hl 0 rfl) ?_
          refine x_get hx hb hts u_X9_leave_X9 hown hE hP 4 rfl rfl 5 (by decide) (hts (.fieldLink RX9 28 "DecreasingDiagrams$SidePaths" "parts" "[I") (List.mem_of_getElem? (i := 2) rfl)) rfl dX9_leave_27 ?_
          refine lv_iload_n hx hb dX9_leave_30 rfl (lv_at hl 2 rfl) ?_
          obtain ⟨hi, hf⟩ := ck_some hf
          refine x_iald hx hb hE hP 9 rfl hi dX9_leave_31 ?_
          refine lv_aload_n hx hb dX9_leave_32 rfl (lv_at hl 1 rfl) ?_
          refine x_getN hx hb hts u_X9_leave_X3 hown hE hP 0 rfl rfl 5 (by decide) (hE.2 (.fieldLinkNest RX9 43 "DecreasingDiagrams$LabelledSystem" "labels" "[I" RX11) (List.mem_of_getElem? (i := 18) rfl)) rfl dX9_leave_33 ?_
          refine lv_iload_n hx hb dX9_leave_36 rfl (lv_at hl 3 rfl) ?_
          obtain ⟨hi, hf⟩ := ck_some hf
          refine x_iald hx hb hE hP 1 rfl hi dX9_leave_37 ?_
          obtain ⟨r_38, hr_38, hf⟩ := bd_some hf
          refine x_goi (ps := [4]) (I' := [[(h_p1, .inr (3, [.int p1_objects, .ref a_p1_words, .int p1_steps, .ref a_p1_sources, .ref a_p1_targets, .ref a_p1_labels]))], [(a_p1_labels, .inl (G 0, 32, .inl p1_labels))], [(a_p1_sources, .inl (G 0, 32, .inl p1_sources))], [(a_p1_targets, .inl (G 0, 32, .inl p1_targets))], [(h, .inr (9, [.int belowOwn, .int belowEither, .int other, .int places, .ref a_objects, .ref a_parts, .ref a_lengths, .ref a_previous, .ref a_arrivals, .ref a_firstPlaces]))], [(a_arrivals, .inl (G 0, 32, .inl arrivals))], [(a_firstPlaces, .inl (G 0, 16, .inl firstPlaces))], [(a_lengths, .inl (G 0, 32, .inl lengths))], [(a_objects, .inl (G 0, 32, .inl objects))], [(a_parts, .inl (G 0, 32, .inl parts))], [(a_previous, .inl (G 0, 32, .inl previous))]]) (x_runV (As := [.int (parts v2.toNatClampNeg), .int (p1_labels v3.toNatClampNeg)]) (rest := []) (ps := [4]) ⟨hx, hb, hml, hown, hts⟩ (k_X9_partAfter l D G h a_objects a_parts a_lengths a_previous a_arrivals a_firstPlaces belowOwn belowEither other places (parts v2.toNatClampNeg) (p1_labels v3.toNatClampNeg) r_38 hr_38) (cwV 2 hts gX9_leave_X9_partAfter rfl rfl rfl (by decide +kernel) ⟨Nat.le_of_ble_eq_true rfl, Nat.le_of_ble_eq_true rfl⟩) hE hP hN rfl (by decide) 4 rfl rfl rfl hl.1 (Nat.le_of_ble_eq_true rfl) dX9_leave_38 ⟨Nat.zero_le _, Nat.zero_le _⟩) hP hN hS rfl rfl (fun H locs hP hS => ?_)
          obtain ⟨v4_41, e_v4_41, hf⟩ := lt_some hf
          refine x_istore (v := v4_41) (lv' := [(4, .int v4_41), (0, .ref h), (1, .ref h_p1), (2, .int v2), (3, .int v3)]) hx hb dX9_leave_41 e_v4_41 hl (by decide) rfl (fun ls hl => ?_)
          refine lv_iload hx hb dX9_leave_43 (lv_at hl 0 rfl) ?_
          refine lv_iconst (v := -1) hx hb dX9_leave_45 (by decide) ?_
          refine lv_icmp_eq (tgt := 63) hx hb dX9_leave_46 (by decide) (fun c_46 => ?_) (fun c_46 => ?_)
          · have hf := it_pos c_46 hf
            exact J63 v3 arrivals firstPlaces lengths objects parts places previous  H locs ls  hP hS (lv_sub hl [1, 2, 3, 4] rfl) hf
          · have hf := it_neg c_46 hf
            refine lv_aload_n hx hb dX9_leave_49 rfl (lv_at hl 1 rfl) ?_
            refine lv_aload_n hx hb dX9_leave_50 rfl (lv_at hl 2 rfl) ?_
            refine x_getN hx hb hts u_X9_leave_X3 hown hE hP 0 rfl rfl 4 (by decide) (hE.2 (.fieldLinkNest RX9 59 "DecreasingDiagrams$LabelledSystem" "targets" "[I" RX11) (List.mem_of_getElem? (i := 15) rfl)) rfl dX9_leave_51 ?_
            refine lv_iload_n hx hb dX9_leave_54 rfl (lv_at hl 4 rfl) ?_
            obtain ⟨hi, hf⟩ := ck_some hf
            refine x_iald hx hb hE hP 3 rfl hi dX9_leave_55 ?_
            refine lv_iload hx hb dX9_leave_56 (lv_at hl 0 rfl) ?_
            refine lv_iload_n hx hb dX9_leave_58 rfl (lv_at hl 3 rfl) ?_
            refine lv_iload_n hx hb dX9_leave_59 rfl (lv_at hl 4 rfl) ?_
            obtain ⟨r_60, hr_60, hf⟩ := bd_some hf
            refine x_gov (ps := [4, 5, 6, 7, 8, 9, 10]) (I' := [[(h_p1, .inr (3, [.int p1_objects, .ref a_p1_words, .int p1_steps, .ref a_p1_sources, .ref a_p1_targets, .ref a_p1_labels]))], [(a_p1_labels, .inl (G 0, 32, .inl p1_labels))], [(a_p1_sources, .inl (G 0, 32, .inl p1_sources))], [(a_p1_targets, .inl (G 0, 32, .inl p1_targets))], [(h, .inr (9, [.int belowOwn, .int belowEither, .int other, .int r_60.2.2.2.2.2.1, .ref a_objects, .ref a_parts, .ref a_lengths, .ref a_previous, .ref a_arrivals, .ref a_firstPlaces]))], [(a_arrivals, .inl (G 0, 32, .inl r_60.1))], [(a_firstPlaces, .inl (G 0, 16, .inl r_60.2.1))], [(a_lengths, .inl (G 0, 32, .inl r_60.2.2.1))], [(a_objects, .inl (G 0, 32, .inl r_60.2.2.2.1))], [(a_parts, .inl (G 0, 32, .inl r_60.2.2.2.2.1))], [(a_previous, .inl (G 0, 32, .inl r_60.2.2.2.2.2.2))]]) (x_runV (As := [.int (p1_targets v3.toNatClampNeg), .int v4_41, .int v2, .int v3]) (rest := []) (ps := [4, 5, 6, 7, 8, 9, 10]) ⟨hx, hb, hml, hown, hts⟩ (k_X9_meet l D G h a_objects a_parts a_lengths a_previous a_arrivals a_firstPlaces belowOwn belowEither other places arrivals firstPlaces lengths objects parts previous (p1_targets v3.toNatClampNeg) v4_41 v2 v3 r_60 hr_60) (cwV 4 hts gX9_leave_X9_meet rfl rfl rfl (by decide +kernel) ⟨Nat.le_of_ble_eq_true rfl, Nat.le_of_ble_eq_true rfl⟩) hE hP hN rfl (by decide) 4 rfl rfl rfl hl.1 (Nat.le_of_ble_eq_true rfl) dX9_leave_60 ⟨Nat.zero_le _, Nat.zero_le _⟩) hP hN hS rfl rfl (fun H locs hP hS => ?_)
            exact J63 v3 r_60.1 r_60.2.1 r_60.2.2.1 r_60.2.2.2.1 r_60.2.2.2.2.1 r_60.2.2.2.2.2.1 r_60.2.2.2.2.2.2  H locs ls  hP hS (lv_sub hl [1, 2, 3, 4] rfl) hf
  rw [f_X9_leave] at hf
  obtain ⟨H, hH⟩ : ∃ H : Heap, H = s.heap := ⟨_, rfl⟩
  obtain ⟨locs, hlocs⟩ : ∃ locs : List Loc, locs = [] := ⟨_, rfl⟩
  have hP : xW D aa [[(h_p1, .inr (3, [.int p1_objects, .ref a_p1_words, .int p1_steps, .ref a_p1_sources, .ref a_p1_targets, .ref a_p1_labels]))], [(a_p1_labels, .inl (G 0, 32, .inl p1_labels))], [(a_p1_sources, .inl (G 0, 32, .inl p1_sources))], [(a_p1_targets, .inl (G 0, 32, .inl p1_targets))], [(h, .inr (9, [.int belowOwn, .int belowEither, .int other, .int places, .ref a_objects, .ref a_parts, .ref a_lengths, .ref a_previous, .ref a_arrivals, .ref a_firstPlaces]))], [(a_arrivals, .inl (G 0, 32, .inl arrivals))], [(a_firstPlaces, .inl (G 0, 16, .inl firstPlaces))], [(a_lengths, .inl (G 0, 32, .inl lengths))], [(a_objects, .inl (G 0, 32, .inl objects))], [(a_parts, .inl (G 0, 32, .inl parts))], [(a_previous, .inl (G 0, 32, .inl previous))]] H := by rw [hH]; exact hP
  have hS : va_S (xA aa) s.heap H locs := by rw [hH, hlocs]; exact hS
  suffices GO : W p l e (rM 2 47) s m args below meth c H locs 0 0 Q (F0 m 0 ls []) by
    rw [hH, hlocs] at GO
    exact GO
  clear hH hlocs
  refine lv_iconst (v := 0) hx hb dX9_leave_0 (by decide) ?_
  obtain ⟨v3_1, e_v3_1, hf⟩ := lt_some hf
  refine x_istore_n (v := v3_1) (lv' := [(3, .int v3_1), (0, .ref h), (1, .ref h_p1), (2, .int v2)]) hx hb dX9_leave_1 e_v3_1 rfl hl (by decide) rfl (fun ls hl => ?_)
  exact L2    fuel v3_1 arrivals firstPlaces lengths objects parts places previous H locs ls hP hS (lv_sub hl [1, 2, 3, 0] rfl) hf

set_option maxRecDepth 20000 in
theorem u_X9_search_X9 : ∀ w ∈ wsX90, w ∈ wsX9_search := xx_pl _ [41, 42, 43, 44, 45, 46, 47, 48, 49, 50] (by decide +kernel)
set_option maxRecDepth 20000 in
theorem u_X9_search_X3 : ∀ w ∈ wsX30, w ∈ wsX9_search := xx_pl _ [35, 36, 37, 38, 39, 40] (by decide +kernel)
set_option maxRecDepth 20000 in
theorem u_X9_search_X2 : ∀ w ∈ wsX20, w ∈ wsX9_search := xx_pl _ [51, 52] (by decide +kernel)
def f_X9_search_L80 (p1_steps : Int32) (belowOwn : Int32) (belowEither : Int32) (other : Int32) (p1_labels : (Nat → Int32)) (p1_sources : (Nat → Int32)) (p1_targets : (Nat → Int32)) (rec_80 : Int32 → (Nat → Int32) → (Nat → Int32) → (Nat → Int32) → (Nat → Int32) → (Nat → Int32) → Int32 → (Nat → Int32) → Option ((Nat → Int32) × Int32 × Int32 × (Nat → Int32) × (Nat → Int32) × (Nat → Int32) × Int32 × (Nat → Int32) × Int32 × (Nat → Int32))) (v6 : Int32) (arrivals : (Nat → Int32)) (firstPlaces : (Nat → Int32)) (lengths : (Nat → Int32)) (objects : (Nat → Int32)) (parts : (Nat → Int32)) (places : Int32) (previous : (Nat → Int32)) : Option ((Nat → Int32) × Int32 × Int32 × (Nat → Int32) × (Nat → Int32) × (Nat → Int32) × Int32 × (Nat → Int32) × Int32 × (Nat → Int32)) :=
  if 32 ≤ v6 then (some (arrivals, belowEither, belowOwn, firstPlaces, lengths, objects, other, parts, places, previous)) else (if places ≤ v6 then (some (arrivals, belowEither, belowOwn, firstPlaces, lengths, objects, other, parts, places, previous)) else ((f_X9_leave p1_steps belowOwn belowEither other places p1_labels p1_sources p1_targets arrivals firstPlaces lengths objects parts previous v6).bind (fun r_100 => lt (v6 + 1) (fun v6_103 => rec_80 v6_103 r_100.1 r_100.2.1 r_100.2.2.1 r_100.2.2.2.1 r_100.2.2.2.2.1 r_100.2.2.2.2.2.1 r_100.2.2.2.2.2.2))))
def f_X9_search (p1_steps : Int32) (p1_labels : (Nat → Int32)) (p1_sources : (Nat → Int32)) (p1_targets : (Nat → Int32)) (p2_below : (Nat → Int32)) (arrivals : (Nat → Int32)) (firstPlaces : (Nat → Int32)) (lengths : (Nat → Int32)) (objects : (Nat → Int32)) (parts : (Nat → Int32)) (previous : (Nat → Int32)) (v3 : Int32) (v4 : Int32) : Option ((Nat → Int32) × Int32 × Int32 × (Nat → Int32) × (Nat → Int32) × (Nat → Int32) × Int32 × (Nat → Int32) × Int32 × (Nat → Int32)) :=
  ck v3 32 (lt (p1_labels v3.toNatClampNeg) (fun v5_6 => ck v4 32 (lt (p1_labels v4.toNatClampNeg) (fun other_16 => ck v5_6 8 (lt (p2_below v5_6.toNatClampNeg) (fun belowOwn_27 => ck other_16 8 (lt (belowOwn_27 ||| (p2_below other_16.toNatClampNeg)) (fun belowEither_45 => (f_J7_fill_53178 firstPlaces 16 (-2)).bind (fun r_54 => lt 0 (fun places_59 => ck v3 32 ((f_X9_meet places_59 arrivals r_54 lengths objects parts previous (p1_targets v3.toNatClampNeg) 0 (-2) (-2)).bind (fun r_74 => lt 0 (fun v6_78 => lp (τ := Int32 → (Nat → Int32) → (Nat → Int32) → (Nat → Int32) → (Nat → Int32) → (Nat → Int32) → Int32 → (Nat → Int32) → Option ((Nat → Int32) × Int32 × Int32 × (Nat → Int32) × (Nat → Int32) × (Nat → Int32) × Int32 × (Nat → Int32) × Int32 × (Nat → Int32))) (fun _ _ _ _ _ _ _ _ => none) (f_X9_search_L80 p1_steps belowOwn_27 belowEither_45 other_16 p1_labels p1_sources p1_targets) fuel v6_78 r_74.1 r_74.2.1 r_74.2.2.1 r_74.2.2.2.1 r_74.2.2.2.2.1 r_74.2.2.2.2.2.1 r_74.2.2.2.2.2.2)))))))))))))
set_option maxHeartbeats 4000000 in
set_option maxRecDepth 100000 in
theorem k_X9_search (l : Launch) (D : va_G) (G : Nat → ClassId) (h : Nat) (h_p1 : Nat) (h_p2 : Nat) (a_p1_words : Nat) (a_p1_sources : Nat) (a_p1_targets : Nat) (a_p1_labels : Nat) (a_p2_pairs : Nat) (a_p2_below : Nat) (a_objects : Nat) (a_parts : Nat) (a_lengths : Nat) (a_previous : Nat) (a_arrivals : Nat) (a_firstPlaces : Nat) (p1_objects : Int32) (p1_steps : Int32) (belowOwn : Int32) (belowEither : Int32) (other : Int32) (places : Int32) (p1_labels : (Nat → Int32)) (p1_sources : (Nat → Int32)) (p1_targets : (Nat → Int32)) (p2_below : (Nat → Int32)) (arrivals : (Nat → Int32)) (firstPlaces : (Nat → Int32)) (lengths : (Nat → Int32)) (objects : (Nat → Int32)) (parts : (Nat → Int32)) (previous : (Nat → Int32))  (v3 : Int32) (v4 : Int32) (out : (Nat → Int32) × Int32 × Int32 × (Nat → Int32) × (Nat → Int32) × (Nat → Int32) × Int32 × (Nat → Int32) × Int32 × (Nat → Int32)) (hf : f_X9_search p1_steps p1_labels p1_sources p1_targets p2_below arrivals firstPlaces lengths objects parts previous v3 v4 = some out) : xMet l yX9_search wsX9_search (rM 3 71) D G [.ref h, .ref h_p1, .ref h_p2, .int v3, .int v4] [[(h_p1, .inr (3, [.int p1_objects, .ref a_p1_words, .int p1_steps, .ref a_p1_sources, .ref a_p1_targets, .ref a_p1_labels]))], [(a_p1_labels, .inl (G 0, 32, .inl p1_labels))], [(a_p1_sources, .inl (G 0, 32, .inl p1_sources))], [(a_p1_targets, .inl (G 0, 32, .inl p1_targets))], [(h_p2, .inr (2, [.ref a_p2_pairs, .ref a_p2_below]))], [(a_p2_below, .inl (G 0, 8, .inl p2_below))], [(h, .inr (9, [.int belowOwn, .int belowEither, .int other, .int places, .ref a_objects, .ref a_parts, .ref a_lengths, .ref a_previous, .ref a_arrivals, .ref a_firstPlaces]))], [(a_arrivals, .inl (G 0, 32, .inl arrivals))], [(a_firstPlaces, .inl (G 0, 16, .inl firstPlaces))], [(a_lengths, .inl (G 0, 32, .inl lengths))], [(a_objects, .inl (G 0, 32, .inl objects))], [(a_parts, .inl (G 0, 32, .inl parts))], [(a_previous, .inl (G 0, 32, .inl previous))]] (xQv D [[(h_p1, .inr (3, [.int p1_objects, .ref a_p1_words, .int p1_steps, .ref a_p1_sources, .ref a_p1_targets, .ref a_p1_labels]))], [(a_p1_labels, .inl (G 0, 32, .inl p1_labels))], [(a_p1_sources, .inl (G 0, 32, .inl p1_sources))], [(a_p1_targets, .inl (G 0, 32, .inl p1_targets))], [(h_p2, .inr (2, [.ref a_p2_pairs, .ref a_p2_below]))], [(a_p2_below, .inl (G 0, 8, .inl p2_below))], [(h, .inr (9, [.int out.2.2.1, .int out.2.1, .int out.2.2.2.2.2.2.1, .int out.2.2.2.2.2.2.2.2.1, .ref a_objects, .ref a_parts, .ref a_lengths, .ref a_previous, .ref a_arrivals, .ref a_firstPlaces]))], [(a_arrivals, .inl (G 0, 32, .inl out.1))], [(a_firstPlaces, .inl (G 0, 16, .inl out.2.2.2.1))], [(a_lengths, .inl (G 0, 32, .inl out.2.2.2.2.1))], [(a_objects, .inl (G 0, 32, .inl out.2.2.2.2.2.1))], [(a_parts, .inl (G 0, 32, .inl out.2.2.2.2.2.2.2.1))], [(a_previous, .inl (G 0, 32, .inl out.2.2.2.2.2.2.2.2.2))]]) := by
  refine x_ent (cc := cX9_search) (maxL := 7) (by decide) rfl (Nat.le_of_ble_eq_true rfl) ?_
  intro p e s m below meth c aa ls args Q hQ hx hb hr hml hown hts hlocks hE hN hP hl hS
  have hown : s.vm.findClass RX9 = some m.cls := hown
  have hl : lv_has ls 7 [(0, .ref h), (1, .ref h_p1), (2, .ref h_p2), (3, .int v3), (4, .int v4)] := hl
  have L80 : ∀ (belowEither : Int32) (belowOwn : Int32) (other : Int32), ∀ (n_80 : Nat) (v6 : Int32) (arrivals : (Nat → Int32)) (firstPlaces : (Nat → Int32)) (lengths : (Nat → Int32)) (objects : (Nat → Int32)) (parts : (Nat → Int32)) (places : Int32) (previous : (Nat → Int32)) (H : Heap) (locs : List Loc) (ls : Array Slot), xW D aa [[(h_p1, .inr (3, [.int p1_objects, .ref a_p1_words, .int p1_steps, .ref a_p1_sources, .ref a_p1_targets, .ref a_p1_labels]))], [(a_p1_labels, .inl (G 0, 32, .inl p1_labels))], [(a_p1_sources, .inl (G 0, 32, .inl p1_sources))], [(a_p1_targets, .inl (G 0, 32, .inl p1_targets))], [(h_p2, .inr (2, [.ref a_p2_pairs, .ref a_p2_below]))], [(a_p2_below, .inl (G 0, 8, .inl p2_below))], [(h, .inr (9, [.int belowOwn, .int belowEither, .int other, .int places, .ref a_objects, .ref a_parts, .ref a_lengths, .ref a_previous, .ref a_arrivals, .ref a_firstPlaces]))], [(a_arrivals, .inl (G 0, 32, .inl arrivals))], [(a_firstPlaces, .inl (G 0, 16, .inl firstPlaces))], [(a_lengths, .inl (G 0, 32, .inl lengths))], [(a_objects, .inl (G 0, 32, .inl objects))], [(a_parts, .inl (G 0, 32, .inl parts))], [(a_previous, .inl (G 0, 32, .inl previous))]] H → va_S (xA aa) s.heap H locs → lv_has ls 7 [(0, .ref h), (1, .ref h_p1), (6, .int v6)] → lp (τ := Int32 → (Nat → Int32) → (Nat → Int32) → (Nat → Int32) → (Nat → Int32) → (Nat → Int32) → Int32 → (Nat → Int32) → Option ((Nat → Int32) × Int32 × Int32 × (Nat → Int32) × (Nat → Int32) × (Nat → Int32) × Int32 × (Nat → Int32) × Int32 × (Nat → Int32))) (fun _ _ _ _ _ _ _ _ => none) (f_X9_search_L80 p1_steps belowOwn belowEither other p1_labels p1_sources p1_targets) n_80 v6 arrivals firstPlaces lengths objects parts places previous = some out → W p l e (rM 3 71) s m args below meth c H locs 0 0 Q (F0 m 80 ls []) := by
    intro belowEither belowOwn other   n_80
    induction n_80 with
    | zero =>
      intro v6 arrivals firstPlaces lengths objects parts places previous H locs ls hP hS hl hf
      exact no_some hf
    | succ n_80 ih_80 =>
      intro v6 arrivals firstPlaces lengths objects parts places previous H locs ls hP hS hl hf
      have hf : f_X9_search_L80 p1_steps belowOwn belowEither other p1_labels p1_sources p1_targets (lp (τ := Int32 → (Nat → Int32) → (Nat → Int32) → (Nat → Int32) → (Nat → Int32) → (Nat → Int32) → Int32 → (Nat → Int32) → Option ((Nat → Int32) × Int32 × Int32 × (Nat → Int32) × (Nat → Int32) × (Nat → Int32) × Int32 × (Nat → Int32) × Int32 × (Nat → Int32))) (fun _ _ _ _ _ _ _ _ => none) (f_X9_search_L80 p1_steps belowOwn belowEither other p1_labels p1_sources p1_targets) n_80) v6 arrivals firstPlaces lengths objects parts places previous = some out := hf
      rw [f_X9_search_L80] at hf
      refine lv_iload hx hb dX9_search_80 (lv_at hl 2 rfl) ?_
      refine lv_bipush (v := 32) hx hb dX9_search_82 (by decide) ?_
      refine lv_icmp_ge (tgt := 109) hx hb dX9_search_84 (by decide) (fun c_84 => ?_) (fun c_84 => ?_)
      · have hf := it_pos c_84 hf
        have hf := Option.some.inj hf
        subst hf
        subst hQ
        exact x_vret hx hb hr hlocks hP hS dX9_search_109
      · have hf := it_neg c_84 hf
        refine lv_iload hx hb dX9_search_87 (lv_at hl 2 rfl) ?_
        refine lv_aload_n hx hb dX9_search_89 rfl (lv_at hl 0 rfl) ?_
        refine x_get hx hb hts u_X9_search_X9 hown hE hP 6 rfl rfl 3 (by decide) (hts (.fieldLink RX9 21 "DecreasingDiagrams$SidePaths" "places" "I") (List.mem_of_getElem? (i := 5) rfl)) rfl dX9_search_90 ?_
        refine lv_icmp_ge (tgt := 109) hx hb dX9_search_93 (by decide) (fun c_93 => ?_) (fun c_93 => ?_)
        · have hf := it_pos c_93 hf
          have hf := Option.some.inj hf
          subst hf
          subst hQ
          exact x_vret hx hb hr hlocks hP hS dX9_search_109
        · have hf := it_neg c_93 hf
          refine lv_aload_n hx hb dX9_search_96 rfl (lv_at hl 0 rfl) ?_
          refine lv_aload_n hx hb dX9_search_97 rfl (lv_at hl 1 rfl) ?_
          refine lv_iload hx hb dX9_search_98 (lv_at hl 2 rfl) ?_
          obtain ⟨r_100, hr_100, hf⟩ := bd_some hf
          refine x_gov (ps := [0, 1, 2, 3, 6, 7, 8, 9, 10, 11, 12]) (I' := [[(h_p1, .inr (3, [.int p1_objects, .ref a_p1_words, .int p1_steps, .ref a_p1_sources, .ref a_p1_targets, .ref a_p1_labels]))], [(a_p1_labels, .inl (G 0, 32, .inl p1_labels))], [(a_p1_sources, .inl (G 0, 32, .inl p1_sources))], [(a_p1_targets, .inl (G 0, 32, .inl p1_targets))], [(h_p2, .inr (2, [.ref a_p2_pairs, .ref a_p2_below]))], [(a_p2_below, .inl (G 0, 8, .inl p2_below))], [(h, .inr (9, [.int belowOwn, .int belowEither, .int other, .int r_100.2.2.2.2.2.1, .ref a_objects, .ref a_parts, .ref a_lengths, .ref a_previous, .ref a_arrivals, .ref a_firstPlaces]))], [(a_arrivals, .inl (G 0, 32, .inl r_100.1))], [(a_firstPlaces, .inl (G 0, 16, .inl r_100.2.1))], [(a_lengths, .inl (G 0, 32, .inl r_100.2.2.1))], [(a_objects, .inl (G 0, 32, .inl r_100.2.2.2.1))], [(a_parts, .inl (G 0, 32, .inl r_100.2.2.2.2.1))], [(a_previous, .inl (G 0, 32, .inl r_100.2.2.2.2.2.2))]]) (x_runV (As := [.ref h_p1, .int v6]) (rest := []) (ps := [0, 1, 2, 3, 6, 7, 8, 9, 10, 11, 12]) ⟨hx, hb, hml, hown, hts⟩ (k_X9_leave l D G h h_p1 a_p1_words a_p1_sources a_p1_targets a_p1_labels a_objects a_parts a_lengths a_previous a_arrivals a_firstPlaces p1_objects p1_steps belowOwn belowEither other places p1_labels p1_sources p1_targets arrivals firstPlaces lengths objects parts previous v6 r_100 hr_100) (cwV 2 hts gX9_search_X9_leave rfl rfl rfl (by decide +kernel) ⟨Nat.le_of_ble_eq_true rfl, Nat.le_of_ble_eq_true rfl⟩) hE hP hN rfl (by decide) 6 rfl rfl rfl hl.1 (Nat.le_of_ble_eq_true rfl) dX9_search_100 ⟨Nat.zero_le _, Nat.zero_le _⟩) hP hN hS rfl rfl (fun H locs hP hS => ?_)
          obtain ⟨v6_103, e_v6_103, hf⟩ := lt_some hf
          refine lv_iinc (v := v6_103) (lv' := [(6, .int v6_103), (0, .ref h), (1, .ref h_p1)]) hx hb dX9_search_103 hl (k := 2) rfl (by rw [e_v6_103]; rfl) (by decide) rfl (fun ls hl => ?_)
          refine lv_goto (tgt := 80) hx hb dX9_search_106 (by decide) ?_
          exact ih_80 v6_103 r_100.1 r_100.2.1 r_100.2.2.1 r_100.2.2.2.1 r_100.2.2.2.2.1 r_100.2.2.2.2.2.1 r_100.2.2.2.2.2.2 H locs ls hP hS (lv_sub hl [1, 2, 0] rfl) hf
  rw [f_X9_search] at hf
  obtain ⟨H, hH⟩ : ∃ H : Heap, H = s.heap := ⟨_, rfl⟩
  obtain ⟨locs, hlocs⟩ : ∃ locs : List Loc, locs = [] := ⟨_, rfl⟩
  have hP : xW D aa [[(h_p1, .inr (3, [.int p1_objects, .ref a_p1_words, .int p1_steps, .ref a_p1_sources, .ref a_p1_targets, .ref a_p1_labels]))], [(a_p1_labels, .inl (G 0, 32, .inl p1_labels))], [(a_p1_sources, .inl (G 0, 32, .inl p1_sources))], [(a_p1_targets, .inl (G 0, 32, .inl p1_targets))], [(h_p2, .inr (2, [.ref a_p2_pairs, .ref a_p2_below]))], [(a_p2_below, .inl (G 0, 8, .inl p2_below))], [(h, .inr (9, [.int belowOwn, .int belowEither, .int other, .int places, .ref a_objects, .ref a_parts, .ref a_lengths, .ref a_previous, .ref a_arrivals, .ref a_firstPlaces]))], [(a_arrivals, .inl (G 0, 32, .inl arrivals))], [(a_firstPlaces, .inl (G 0, 16, .inl firstPlaces))], [(a_lengths, .inl (G 0, 32, .inl lengths))], [(a_objects, .inl (G 0, 32, .inl objects))], [(a_parts, .inl (G 0, 32, .inl parts))], [(a_previous, .inl (G 0, 32, .inl previous))]] H := by rw [hH]; exact hP
  have hS : va_S (xA aa) s.heap H locs := by rw [hH, hlocs]; exact hS
  suffices GO : W p l e (rM 3 71) s m args below meth c H locs 0 0 Q (F0 m 0 ls []) by
    rw [hH, hlocs] at GO
    exact GO
  clear hH hlocs
  refine lv_aload_n hx hb dX9_search_0 rfl (lv_at hl 1 rfl) ?_
  refine x_getN hx hb hts u_X9_search_X3 hown hE hP 0 rfl rfl 5 (by decide) (hE.2 (.fieldLinkNest RX9 43 "DecreasingDiagrams$LabelledSystem" "labels" "[I" RX11) (List.mem_of_getElem? (i := 18) rfl)) rfl dX9_search_1 ?_
  refine lv_iload_n hx hb dX9_search_4 rfl (lv_at hl 3 rfl) ?_
  obtain ⟨hi, hf⟩ := ck_some hf
  refine x_iald hx hb hE hP 1 rfl hi dX9_search_5 ?_
  obtain ⟨v5_6, e_v5_6, hf⟩ := lt_some hf
  refine x_istore (v := v5_6) (lv' := [(5, .int v5_6), (0, .ref h), (1, .ref h_p1), (2, .ref h_p2), (3, .int v3), (4, .int v4)]) hx hb dX9_search_6 e_v5_6 hl (by decide) rfl (fun ls hl => ?_)
  refine lv_aload_n hx hb dX9_search_8 rfl (lv_at hl 1 rfl) ?_
  refine lv_aload_n hx hb dX9_search_9 rfl (lv_at hl 2 rfl) ?_
  refine x_getN hx hb hts u_X9_search_X3 hown hE hP 0 rfl rfl 5 (by decide) (hE.2 (.fieldLinkNest RX9 43 "DecreasingDiagrams$LabelledSystem" "labels" "[I" RX11) (List.mem_of_getElem? (i := 18) rfl)) rfl dX9_search_10 ?_
  refine lv_iload hx hb dX9_search_13 (lv_at hl 5 rfl) ?_
  obtain ⟨hi, hf⟩ := ck_some hf
  refine x_iald hx hb hE hP 1 rfl hi dX9_search_15 ?_
  obtain ⟨other_16, e_other_16, hf⟩ := lt_some hf
  refine x_put (w := .int other_16) (ty := .int) (I' := [[(h_p1, .inr (3, [.int p1_objects, .ref a_p1_words, .int p1_steps, .ref a_p1_sources, .ref a_p1_targets, .ref a_p1_labels]))], [(a_p1_labels, .inl (G 0, 32, .inl p1_labels))], [(a_p1_sources, .inl (G 0, 32, .inl p1_sources))], [(a_p1_targets, .inl (G 0, 32, .inl p1_targets))], [(h_p2, .inr (2, [.ref a_p2_pairs, .ref a_p2_below]))], [(a_p2_below, .inl (G 0, 8, .inl p2_below))], [(h, .inr (9, [.int belowOwn, .int belowEither, .int other_16, .int places, .ref a_objects, .ref a_parts, .ref a_lengths, .ref a_previous, .ref a_arrivals, .ref a_firstPlaces]))], [(a_arrivals, .inl (G 0, 32, .inl arrivals))], [(a_firstPlaces, .inl (G 0, 16, .inl firstPlaces))], [(a_lengths, .inl (G 0, 32, .inl lengths))], [(a_objects, .inl (G 0, 32, .inl objects))], [(a_parts, .inl (G 0, 32, .inl parts))], [(a_previous, .inl (G 0, 32, .inl previous))]]) hx hb hts u_X9_search_X9 tyX9 tyX9_ok nmX9 hown hE hP hN hS 6 rfl rfl 2 (by decide) (hts (.fieldLink RX9 18 "DecreasingDiagrams$SidePaths" "other" "I") (List.mem_of_getElem? (i := 1) rfl)) rfl (congrArg Value.int e_other_16) (by decide +kernel) rfl rfl (Nat.le_of_ble_eq_true rfl) rfl dX9_search_16 (fun H locs hP hS => ?_)
  refine lv_aload_n hx hb dX9_search_19 rfl (lv_at hl 1 rfl) ?_
  refine lv_aload_n hx hb dX9_search_20 rfl (lv_at hl 3 rfl) ?_
  refine x_getN hx hb hts u_X9_search_X2 hown hE hP 4 rfl rfl 1 (by decide) (hE.2 (.fieldLinkNest RX9 48 "DecreasingDiagrams$LabelOrder" "below" "[I" RX11) (List.mem_of_getElem? (i := 1) rfl)) rfl dX9_search_21 ?_
  refine lv_iload hx hb dX9_search_24 (lv_at hl 0 rfl) ?_
  obtain ⟨hi, hf⟩ := ck_some hf
  refine x_iald hx hb hE hP 5 rfl hi dX9_search_26 ?_
  obtain ⟨belowOwn_27, e_belowOwn_27, hf⟩ := lt_some hf
  refine x_put (w := .int belowOwn_27) (ty := .int) (I' := [[(h_p1, .inr (3, [.int p1_objects, .ref a_p1_words, .int p1_steps, .ref a_p1_sources, .ref a_p1_targets, .ref a_p1_labels]))], [(a_p1_labels, .inl (G 0, 32, .inl p1_labels))], [(a_p1_sources, .inl (G 0, 32, .inl p1_sources))], [(a_p1_targets, .inl (G 0, 32, .inl p1_targets))], [(h_p2, .inr (2, [.ref a_p2_pairs, .ref a_p2_below]))], [(a_p2_below, .inl (G 0, 8, .inl p2_below))], [(h, .inr (9, [.int belowOwn_27, .int belowEither, .int other_16, .int places, .ref a_objects, .ref a_parts, .ref a_lengths, .ref a_previous, .ref a_arrivals, .ref a_firstPlaces]))], [(a_arrivals, .inl (G 0, 32, .inl arrivals))], [(a_firstPlaces, .inl (G 0, 16, .inl firstPlaces))], [(a_lengths, .inl (G 0, 32, .inl lengths))], [(a_objects, .inl (G 0, 32, .inl objects))], [(a_parts, .inl (G 0, 32, .inl parts))], [(a_previous, .inl (G 0, 32, .inl previous))]]) hx hb hts u_X9_search_X9 tyX9 tyX9_ok nmX9 hown hE hP hN hS 6 rfl rfl 0 (by decide) (hts (.fieldLink RX9 9 "DecreasingDiagrams$SidePaths" "belowOwn" "I") (List.mem_of_getElem? (i := 2) rfl)) rfl (congrArg Value.int e_belowOwn_27) (by decide +kernel) rfl rfl (Nat.le_of_ble_eq_true rfl) rfl dX9_search_27 (fun H locs hP hS => ?_)
  refine lv_aload_n hx hb dX9_search_30 rfl (lv_at hl 1 rfl) ?_
  refine lv_aload_n hx hb dX9_search_31 rfl (lv_at hl 1 rfl) ?_
  refine x_get hx hb hts u_X9_search_X9 hown hE hP 6 rfl rfl 0 (by decide) (hts (.fieldLink RX9 9 "DecreasingDiagrams$SidePaths" "belowOwn" "I") (List.mem_of_getElem? (i := 2) rfl)) rfl dX9_search_32 ?_
  refine lv_aload_n hx hb dX9_search_35 rfl (lv_at hl 3 rfl) ?_
  refine x_getN hx hb hts u_X9_search_X2 hown hE hP 4 rfl rfl 1 (by decide) (hE.2 (.fieldLinkNest RX9 48 "DecreasingDiagrams$LabelOrder" "below" "[I" RX11) (List.mem_of_getElem? (i := 1) rfl)) rfl dX9_search_36 ?_
  refine lv_aload_n hx hb dX9_search_39 rfl (lv_at hl 1 rfl) ?_
  refine x_get hx hb hts u_X9_search_X9 hown hE hP 6 rfl rfl 2 (by decide) (hts (.fieldLink RX9 18 "DecreasingDiagrams$SidePaths" "other" "I") (List.mem_of_getElem? (i := 1) rfl)) rfl dX9_search_40 ?_
  obtain ⟨hi, hf⟩ := ck_some hf
  refine x_iald hx hb hE hP 5 rfl hi dX9_search_43 ?_
  refine lv_ior hx hb dX9_search_44 ?_
  obtain ⟨belowEither_45, e_belowEither_45, hf⟩ := lt_some hf
  refine x_put (w := .int belowEither_45) (ty := .int) (I' := [[(h_p1, .inr (3, [.int p1_objects, .ref a_p1_words, .int p1_steps, .ref a_p1_sources, .ref a_p1_targets, .ref a_p1_labels]))], [(a_p1_labels, .inl (G 0, 32, .inl p1_labels))], [(a_p1_sources, .inl (G 0, 32, .inl p1_sources))], [(a_p1_targets, .inl (G 0, 32, .inl p1_targets))], [(h_p2, .inr (2, [.ref a_p2_pairs, .ref a_p2_below]))], [(a_p2_below, .inl (G 0, 8, .inl p2_below))], [(h, .inr (9, [.int belowOwn_27, .int belowEither_45, .int other_16, .int places, .ref a_objects, .ref a_parts, .ref a_lengths, .ref a_previous, .ref a_arrivals, .ref a_firstPlaces]))], [(a_arrivals, .inl (G 0, 32, .inl arrivals))], [(a_firstPlaces, .inl (G 0, 16, .inl firstPlaces))], [(a_lengths, .inl (G 0, 32, .inl lengths))], [(a_objects, .inl (G 0, 32, .inl objects))], [(a_parts, .inl (G 0, 32, .inl parts))], [(a_previous, .inl (G 0, 32, .inl previous))]]) hx hb hts u_X9_search_X9 tyX9 tyX9_ok nmX9 hown hE hP hN hS 6 rfl rfl 1 (by decide) (hts (.fieldLink RX9 15 "DecreasingDiagrams$SidePaths" "belowEither" "I") (List.mem_of_getElem? (i := 3) rfl)) rfl (congrArg Value.int e_belowEither_45) (by decide +kernel) rfl rfl (Nat.le_of_ble_eq_true rfl) rfl dX9_search_45 (fun H locs hP hS => ?_)
  refine lv_aload_n hx hb dX9_search_48 rfl (lv_at hl 1 rfl) ?_
  refine x_get hx hb hts u_X9_search_X9 hown hE hP 6 rfl rfl 9 (by decide) (hts (.fieldLink RX9 40 "DecreasingDiagrams$SidePaths" "firstPlaces" "[I") (List.mem_of_getElem? (i := 4) rfl)) rfl dX9_search_49 ?_
  refine lv_bipush (v := -2) hx hb dX9_search_52 (by decide) ?_
  obtain ⟨r_54, hr_54, hf⟩ := bd_some hf
  refine x_gov (ps := [8]) (I' := [[(h_p1, .inr (3, [.int p1_objects, .ref a_p1_words, .int p1_steps, .ref a_p1_sources, .ref a_p1_targets, .ref a_p1_labels]))], [(a_p1_labels, .inl (G 0, 32, .inl p1_labels))], [(a_p1_sources, .inl (G 0, 32, .inl p1_sources))], [(a_p1_targets, .inl (G 0, 32, .inl p1_targets))], [(h_p2, .inr (2, [.ref a_p2_pairs, .ref a_p2_below]))], [(a_p2_below, .inl (G 0, 8, .inl p2_below))], [(h, .inr (9, [.int belowOwn_27, .int belowEither_45, .int other_16, .int places, .ref a_objects, .ref a_parts, .ref a_lengths, .ref a_previous, .ref a_arrivals, .ref a_firstPlaces]))], [(a_arrivals, .inl (G 0, 32, .inl arrivals))], [(a_firstPlaces, .inl (G 0, 16, .inl r_54))], [(a_lengths, .inl (G 0, 32, .inl lengths))], [(a_objects, .inl (G 0, 32, .inl objects))], [(a_parts, .inl (G 0, 32, .inl parts))], [(a_previous, .inl (G 0, 32, .inl previous))]]) (x_runS (As := [.ref a_firstPlaces, .int (-2)]) (rest := []) (ps := [8]) ⟨hx, hb, hml, hown, hts⟩ (k_J7_fill_53178 l D G a_firstPlaces firstPlaces 16 (-2) r_54 hr_54) (va_cwS 2 hts gX9_search_J7_fill_53178 rfl rfl rfl (by decide +kernel) ⟨Nat.le_of_ble_eq_true rfl, Nat.le_of_ble_eq_true rfl⟩) hE hP hN rfl (by decide) rfl hl.1 (Nat.le_of_ble_eq_true rfl) dX9_search_54 ⟨Nat.zero_le _, Nat.zero_le _⟩) hP hN hS rfl rfl (fun H locs hP hS => ?_)
  refine lv_aload_n hx hb dX9_search_57 rfl (lv_at hl 1 rfl) ?_
  refine lv_iconst (v := 0) hx hb dX9_search_58 (by decide) ?_
  obtain ⟨places_59, e_places_59, hf⟩ := lt_some hf
  refine x_put (w := .int places_59) (ty := .int) (I' := [[(h_p1, .inr (3, [.int p1_objects, .ref a_p1_words, .int p1_steps, .ref a_p1_sources, .ref a_p1_targets, .ref a_p1_labels]))], [(a_p1_labels, .inl (G 0, 32, .inl p1_labels))], [(a_p1_sources, .inl (G 0, 32, .inl p1_sources))], [(a_p1_targets, .inl (G 0, 32, .inl p1_targets))], [(h_p2, .inr (2, [.ref a_p2_pairs, .ref a_p2_below]))], [(a_p2_below, .inl (G 0, 8, .inl p2_below))], [(h, .inr (9, [.int belowOwn_27, .int belowEither_45, .int other_16, .int places_59, .ref a_objects, .ref a_parts, .ref a_lengths, .ref a_previous, .ref a_arrivals, .ref a_firstPlaces]))], [(a_arrivals, .inl (G 0, 32, .inl arrivals))], [(a_firstPlaces, .inl (G 0, 16, .inl r_54))], [(a_lengths, .inl (G 0, 32, .inl lengths))], [(a_objects, .inl (G 0, 32, .inl objects))], [(a_parts, .inl (G 0, 32, .inl parts))], [(a_previous, .inl (G 0, 32, .inl previous))]]) hx hb hts u_X9_search_X9 tyX9 tyX9_ok nmX9 hown hE hP hN hS 6 rfl rfl 3 (by decide) (hts (.fieldLink RX9 21 "DecreasingDiagrams$SidePaths" "places" "I") (List.mem_of_getElem? (i := 5) rfl)) rfl (congrArg Value.int e_places_59) (by decide +kernel) rfl rfl (Nat.le_of_ble_eq_true rfl) rfl dX9_search_59 (fun H locs hP hS => ?_)
  refine lv_aload_n hx hb dX9_search_62 rfl (lv_at hl 1 rfl) ?_
  refine lv_aload_n hx hb dX9_search_63 rfl (lv_at hl 2 rfl) ?_
  refine x_getN hx hb hts u_X9_search_X3 hown hE hP 0 rfl rfl 4 (by decide) (hE.2 (.fieldLinkNest RX9 59 "DecreasingDiagrams$LabelledSystem" "targets" "[I" RX11) (List.mem_of_getElem? (i := 15) rfl)) rfl dX9_search_64 ?_
  refine lv_iload_n hx hb dX9_search_67 rfl (lv_at hl 4 rfl) ?_
  obtain ⟨hi, hf⟩ := ck_some hf
  refine x_iald hx hb hE hP 3 rfl hi dX9_search_68 ?_
  refine lv_iconst (v := 0) hx hb dX9_search_69 (by decide) ?_
  refine lv_bipush (v := -2) hx hb dX9_search_70 (by decide) ?_
  refine lv_bipush (v := -2) hx hb dX9_search_72 (by decide) ?_
  obtain ⟨r_74, hr_74, hf⟩ := bd_some hf
  refine x_gov (ps := [6, 7, 8, 9, 10, 11, 12]) (I' := [[(h_p1, .inr (3, [.int p1_objects, .ref a_p1_words, .int p1_steps, .ref a_p1_sources, .ref a_p1_targets, .ref a_p1_labels]))], [(a_p1_labels, .inl (G 0, 32, .inl p1_labels))], [(a_p1_sources, .inl (G 0, 32, .inl p1_sources))], [(a_p1_targets, .inl (G 0, 32, .inl p1_targets))], [(h_p2, .inr (2, [.ref a_p2_pairs, .ref a_p2_below]))], [(a_p2_below, .inl (G 0, 8, .inl p2_below))], [(h, .inr (9, [.int belowOwn_27, .int belowEither_45, .int other_16, .int r_74.2.2.2.2.2.1, .ref a_objects, .ref a_parts, .ref a_lengths, .ref a_previous, .ref a_arrivals, .ref a_firstPlaces]))], [(a_arrivals, .inl (G 0, 32, .inl r_74.1))], [(a_firstPlaces, .inl (G 0, 16, .inl r_74.2.1))], [(a_lengths, .inl (G 0, 32, .inl r_74.2.2.1))], [(a_objects, .inl (G 0, 32, .inl r_74.2.2.2.1))], [(a_parts, .inl (G 0, 32, .inl r_74.2.2.2.2.1))], [(a_previous, .inl (G 0, 32, .inl r_74.2.2.2.2.2.2))]]) (x_runV (As := [.int (p1_targets v3.toNatClampNeg), .int 0, .int (-2), .int (-2)]) (rest := []) (ps := [6, 7, 8, 9, 10, 11, 12]) ⟨hx, hb, hml, hown, hts⟩ (k_X9_meet l D G h a_objects a_parts a_lengths a_previous a_arrivals a_firstPlaces belowOwn_27 belowEither_45 other_16 places_59 arrivals r_54 lengths objects parts previous (p1_targets v3.toNatClampNeg) 0 (-2) (-2) r_74 hr_74) (cwV 4 hts gX9_search_X9_meet rfl rfl rfl (by decide +kernel) ⟨Nat.le_of_ble_eq_true rfl, Nat.le_of_ble_eq_true rfl⟩) hE hP hN rfl (by decide) 6 rfl rfl rfl hl.1 (Nat.le_of_ble_eq_true rfl) dX9_search_74 ⟨Nat.zero_le _, Nat.zero_le _⟩) hP hN hS rfl rfl (fun H locs hP hS => ?_)
  refine lv_iconst (v := 0) hx hb dX9_search_77 (by decide) ?_
  obtain ⟨v6_78, e_v6_78, hf⟩ := lt_some hf
  refine x_istore (v := v6_78) (lv' := [(6, .int v6_78), (5, .int v5_6), (0, .ref h), (1, .ref h_p1), (2, .ref h_p2), (3, .int v3), (4, .int v4)]) hx hb dX9_search_78 e_v6_78 hl (by decide) rfl (fun ls hl => ?_)
  exact L80 belowEither_45 belowOwn_27 other_16   fuel v6_78 r_74.1 r_74.2.1 r_74.2.2.1 r_74.2.2.2.1 r_74.2.2.2.2.1 r_74.2.2.2.2.2.1 r_74.2.2.2.2.2.2 H locs ls hP hS (lv_sub hl [2, 3, 0] rfl) hf

set_option maxRecDepth 20000 in
theorem u_X9_reaches_X9 : ∀ w ∈ wsX90, w ∈ wsX9_reaches := xx_pl _ [2, 3, 4, 5, 6, 7, 8, 9, 10, 11] (by decide +kernel)
def f_X9_reaches (firstPlaces : (Nat → Int32)) (v1 : Int32) : Option (Int32) :=
  ck v1 16 (if (firstPlaces v1.toNatClampNeg) = (-2) then (some 0) else (some 1))
set_option maxHeartbeats 4000000 in
set_option maxRecDepth 100000 in
theorem k_X9_reaches (l : Launch) (D : va_G) (G : Nat → ClassId) (h : Nat) (a_objects : Nat) (a_parts : Nat) (a_lengths : Nat) (a_previous : Nat) (a_arrivals : Nat) (a_firstPlaces : Nat) (belowOwn : Int32) (belowEither : Int32) (other : Int32) (places : Int32) (firstPlaces : (Nat → Int32))  (v1 : Int32) (out : Int32) (hf : f_X9_reaches firstPlaces v1 = some out) : xMet l yX9_reaches wsX9_reaches (rM 0 0) D G [.ref h, .int v1] [[(h, .inr (9, [.int belowOwn, .int belowEither, .int other, .int places, .ref a_objects, .ref a_parts, .ref a_lengths, .ref a_previous, .ref a_arrivals, .ref a_firstPlaces]))], [(a_firstPlaces, .inl (G 0, 16, .inl firstPlaces))]] (xQi D [[(h, .inr (9, [.int belowOwn, .int belowEither, .int other, .int places, .ref a_objects, .ref a_parts, .ref a_lengths, .ref a_previous, .ref a_arrivals, .ref a_firstPlaces]))], [(a_firstPlaces, .inl (G 0, 16, .inl firstPlaces))]] out) := by
  refine x_ent (cc := cX9_reaches) (maxL := 2) (by decide) rfl (Nat.le_of_ble_eq_true rfl) ?_
  intro p e s m below meth c aa ls args Q hQ hx hb hr hml hown hts hlocks hE hN hP hl hS
  have hown : s.vm.findClass RX9 = some m.cls := hown
  have hl : lv_has ls 2 [(0, .ref h), (1, .int v1)] := hl
  rw [f_X9_reaches] at hf
  obtain ⟨H, hH⟩ : ∃ H : Heap, H = s.heap := ⟨_, rfl⟩
  obtain ⟨locs, hlocs⟩ : ∃ locs : List Loc, locs = [] := ⟨_, rfl⟩
  have hP : xW D aa [[(h, .inr (9, [.int belowOwn, .int belowEither, .int other, .int places, .ref a_objects, .ref a_parts, .ref a_lengths, .ref a_previous, .ref a_arrivals, .ref a_firstPlaces]))], [(a_firstPlaces, .inl (G 0, 16, .inl firstPlaces))]] H := by rw [hH]; exact hP
  have hS : va_S (xA aa) s.heap H locs := by rw [hH, hlocs]; exact hS
  suffices GO : W p l e (rM 0 0) s m args below meth c H locs 0 0 Q (F0 m 0 ls []) by
    rw [hH, hlocs] at GO
    exact GO
  clear hH hlocs
  refine lv_aload_n hx hb dX9_reaches_0 rfl (lv_at hl 0 rfl) ?_
  refine x_get hx hb hts u_X9_reaches_X9 hown hE hP 0 rfl rfl 9 (by decide) (hts (.fieldLink RX9 40 "DecreasingDiagrams$SidePaths" "firstPlaces" "[I") (List.mem_of_getElem? (i := 1) rfl)) rfl dX9_reaches_1 ?_
  refine lv_iload_n hx hb dX9_reaches_4 rfl (lv_at hl 1 rfl) ?_
  obtain ⟨hi, hf⟩ := ck_some hf
  refine x_iald hx hb hE hP 1 rfl hi dX9_reaches_5 ?_
  refine lv_bipush (v := -2) hx hb dX9_reaches_6 (by decide) ?_
  refine lv_icmp_eq (tgt := 15) hx hb dX9_reaches_8 (by decide) (fun c_8 => ?_) (fun c_8 => ?_)
  · have hf := it_pos c_8 hf
    refine lv_iconst (v := 0) hx hb dX9_reaches_15 (by decide) ?_
    have hf := Option.some.inj hf
    subst hf
    subst hQ
    exact x_zret hx hb hr hlocks rfl hP hS dX9_reaches_16
  · have hf := it_neg c_8 hf
    refine lv_iconst (v := 1) hx hb dX9_reaches_11 (by decide) ?_
    refine lv_goto (tgt := 16) hx hb dX9_reaches_12 (by decide) ?_
    have hf := Option.some.inj hf
    subst hf
    subst hQ
    exact x_zret hx hb hr hlocks rfl hP hS dX9_reaches_16

set_option maxRecDepth 20000 in
theorem u_X9_lengthTo_X9 : ∀ w ∈ wsX90, w ∈ wsX9_lengthTo := xx_pl _ [8, 9, 10, 11, 12, 13, 14, 15, 16, 17] (by decide +kernel)
def f_X9_lengthTo (firstPlaces : (Nat → Int32)) (lengths : (Nat → Int32)) (v1 : Int32) : Option (Int32) :=
  (f_X9_reaches firstPlaces v1).bind (fun r_2 => if r_2 = 0 then (some (-2)) else (ck v1 16 (ck (firstPlaces v1.toNatClampNeg) 32 (some (lengths (firstPlaces v1.toNatClampNeg).toNatClampNeg)))))
set_option maxHeartbeats 4000000 in
set_option maxRecDepth 100000 in
theorem k_X9_lengthTo (l : Launch) (D : va_G) (G : Nat → ClassId) (h : Nat) (a_objects : Nat) (a_parts : Nat) (a_lengths : Nat) (a_previous : Nat) (a_arrivals : Nat) (a_firstPlaces : Nat) (belowOwn : Int32) (belowEither : Int32) (other : Int32) (places : Int32) (firstPlaces : (Nat → Int32)) (lengths : (Nat → Int32))  (v1 : Int32) (out : Int32) (hf : f_X9_lengthTo firstPlaces lengths v1 = some out) : xMet l yX9_lengthTo wsX9_lengthTo (rM 1 21) D G [.ref h, .int v1] [[(h, .inr (9, [.int belowOwn, .int belowEither, .int other, .int places, .ref a_objects, .ref a_parts, .ref a_lengths, .ref a_previous, .ref a_arrivals, .ref a_firstPlaces]))], [(a_firstPlaces, .inl (G 0, 16, .inl firstPlaces))], [(a_lengths, .inl (G 0, 32, .inl lengths))]] (xQi D [[(h, .inr (9, [.int belowOwn, .int belowEither, .int other, .int places, .ref a_objects, .ref a_parts, .ref a_lengths, .ref a_previous, .ref a_arrivals, .ref a_firstPlaces]))], [(a_firstPlaces, .inl (G 0, 16, .inl firstPlaces))], [(a_lengths, .inl (G 0, 32, .inl lengths))]] out) := by
  refine x_ent (cc := cX9_lengthTo) (maxL := 2) (by decide) rfl (Nat.le_of_ble_eq_true rfl) ?_
  intro p e s m below meth c aa ls args Q hQ hx hb hr hml hown hts hlocks hE hN hP hl hS
  have hown : s.vm.findClass RX9 = some m.cls := hown
  have hl : lv_has ls 2 [(0, .ref h), (1, .int v1)] := hl
  rw [f_X9_lengthTo] at hf
  obtain ⟨H, hH⟩ : ∃ H : Heap, H = s.heap := ⟨_, rfl⟩
  obtain ⟨locs, hlocs⟩ : ∃ locs : List Loc, locs = [] := ⟨_, rfl⟩
  have hP : xW D aa [[(h, .inr (9, [.int belowOwn, .int belowEither, .int other, .int places, .ref a_objects, .ref a_parts, .ref a_lengths, .ref a_previous, .ref a_arrivals, .ref a_firstPlaces]))], [(a_firstPlaces, .inl (G 0, 16, .inl firstPlaces))], [(a_lengths, .inl (G 0, 32, .inl lengths))]] H := by rw [hH]; exact hP
  have hS : va_S (xA aa) s.heap H locs := by rw [hH, hlocs]; exact hS
  suffices GO : W p l e (rM 1 21) s m args below meth c H locs 0 0 Q (F0 m 0 ls []) by
    rw [hH, hlocs] at GO
    exact GO
  clear hH hlocs
  refine lv_aload_n hx hb dX9_lengthTo_0 rfl (lv_at hl 0 rfl) ?_
  refine lv_iload_n hx hb dX9_lengthTo_1 rfl (lv_at hl 1 rfl) ?_
  obtain ⟨r_2, hr_2, hf⟩ := bd_some hf
  refine x_goi (ps := [0, 1]) (I' := [[(h, .inr (9, [.int belowOwn, .int belowEither, .int other, .int places, .ref a_objects, .ref a_parts, .ref a_lengths, .ref a_previous, .ref a_arrivals, .ref a_firstPlaces]))], [(a_firstPlaces, .inl (G 0, 16, .inl firstPlaces))], [(a_lengths, .inl (G 0, 32, .inl lengths))]]) (x_runV (As := [.int v1]) (rest := []) (ps := [0, 1]) ⟨hx, hb, hml, hown, hts⟩ (k_X9_reaches l D G h a_objects a_parts a_lengths a_previous a_arrivals a_firstPlaces belowOwn belowEither other places firstPlaces v1 r_2 hr_2) (cwV 1 hts gX9_lengthTo_X9_reaches rfl rfl rfl (by decide +kernel) ⟨Nat.le_of_ble_eq_true rfl, Nat.le_of_ble_eq_true rfl⟩) hE hP hN rfl (by decide) 0 rfl rfl rfl hl.1 (Nat.le_of_ble_eq_true rfl) dX9_lengthTo_2 ⟨Nat.zero_le _, Nat.zero_le _⟩) hP hN hS rfl rfl (fun H locs hP hS => ?_)
  refine lv_if_eq (tgt := 22) hx hb dX9_lengthTo_5 (by decide) (fun c_5 => ?_) (fun c_5 => ?_)
  · have hf := it_pos c_5 hf
    refine lv_bipush (v := -2) hx hb dX9_lengthTo_22 (by decide) ?_
    have hf := Option.some.inj hf
    subst hf
    subst hQ
    exact x_iret hx hb hr hlocks hP hS dX9_lengthTo_24
  · have hf := it_neg c_5 hf
    refine lv_aload_n hx hb dX9_lengthTo_8 rfl (lv_at hl 0 rfl) ?_
    refine x_get hx hb hts u_X9_lengthTo_X9 hown hE hP 0 rfl rfl 6 (by decide) (hts (.fieldLink RX9 31 "DecreasingDiagrams$SidePaths" "lengths" "[I") (List.mem_of_getElem? (i := 1) rfl)) rfl dX9_lengthTo_9 ?_
    refine lv_aload_n hx hb dX9_lengthTo_12 rfl (lv_at hl 0 rfl) ?_
    refine x_get hx hb hts u_X9_lengthTo_X9 hown hE hP 0 rfl rfl 9 (by decide) (hts (.fieldLink RX9 40 "DecreasingDiagrams$SidePaths" "firstPlaces" "[I") (List.mem_of_getElem? (i := 2) rfl)) rfl dX9_lengthTo_13 ?_
    refine lv_iload_n hx hb dX9_lengthTo_16 rfl (lv_at hl 1 rfl) ?_
    obtain ⟨hi, hf⟩ := ck_some hf
    refine x_iald hx hb hE hP 1 rfl hi dX9_lengthTo_17 ?_
    obtain ⟨hi, hf⟩ := ck_some hf
    refine x_iald hx hb hE hP 2 rfl hi dX9_lengthTo_18 ?_
    refine lv_goto (tgt := 24) hx hb dX9_lengthTo_19 (by decide) ?_
    have hf := Option.some.inj hf
    subst hf
    subst hQ
    exact x_iret hx hb hr hlocks hP hS dX9_lengthTo_24

set_option maxRecDepth 20000 in
theorem u_X9_stepTo_X9 : ∀ w ∈ wsX90, w ∈ wsX9_stepTo := xx_pl _ [14, 15, 16, 17, 18, 19, 20, 21, 22, 23] (by decide +kernel)
def f_X9_stepTo_J52 (arrivals : (Nat → Int32)) (v4 : Int32) : Option (Int32) :=
  ck v4 32 (some (arrivals v4.toNatClampNeg))
def f_X9_stepTo_L31 (arrivals : (Nat → Int32)) (previous : (Nat → Int32)) (v2 : Int32) (rec_31 : Int32 → Int32 → Option (Int32)) (v4 : Int32) (v5 : Int32) : Option (Int32) :=
  if v5 ≤ v2 then (f_X9_stepTo_J52 arrivals v4) else (ck v4 32 (lt (previous v4.toNatClampNeg) (fun v4_44 => lt (v5 + (-1)) (fun v5_46 => rec_31 v4_44 v5_46))))
def f_X9_stepTo (arrivals : (Nat → Int32)) (firstPlaces : (Nat → Int32)) (lengths : (Nat → Int32)) (previous : (Nat → Int32)) (v1 : Int32) (v2 : Int32) : Option (Int32) :=
  (f_X9_lengthTo firstPlaces lengths v1).bind (fun r_2 => lt r_2 (fun v3_5 => if v2 < 0 then (some (-2)) else (if v2 < v3_5 then (ck v1 16 (lt (firstPlaces v1.toNatClampNeg) (fun v4_24 => lt (v3_5 - 1) (fun v5_29 => lp (τ := Int32 → Int32 → Option (Int32)) (fun _ _ => none) (f_X9_stepTo_L31 arrivals previous v2) fuel v4_24 v5_29)))) else (some (-2)))))
set_option maxHeartbeats 4000000 in
set_option maxRecDepth 100000 in
theorem k_X9_stepTo (l : Launch) (D : va_G) (G : Nat → ClassId) (h : Nat) (a_objects : Nat) (a_parts : Nat) (a_lengths : Nat) (a_previous : Nat) (a_arrivals : Nat) (a_firstPlaces : Nat) (belowOwn : Int32) (belowEither : Int32) (other : Int32) (places : Int32) (arrivals : (Nat → Int32)) (firstPlaces : (Nat → Int32)) (lengths : (Nat → Int32)) (previous : (Nat → Int32))  (v1 : Int32) (v2 : Int32) (out : Int32) (hf : f_X9_stepTo arrivals firstPlaces lengths previous v1 v2 = some out) : xMet l yX9_stepTo wsX9_stepTo (rM 2 42) D G [.ref h, .int v1, .int v2] [[(h, .inr (9, [.int belowOwn, .int belowEither, .int other, .int places, .ref a_objects, .ref a_parts, .ref a_lengths, .ref a_previous, .ref a_arrivals, .ref a_firstPlaces]))], [(a_arrivals, .inl (G 0, 32, .inl arrivals))], [(a_firstPlaces, .inl (G 0, 16, .inl firstPlaces))], [(a_lengths, .inl (G 0, 32, .inl lengths))], [(a_previous, .inl (G 0, 32, .inl previous))]] (xQi D [[(h, .inr (9, [.int belowOwn, .int belowEither, .int other, .int places, .ref a_objects, .ref a_parts, .ref a_lengths, .ref a_previous, .ref a_arrivals, .ref a_firstPlaces]))], [(a_arrivals, .inl (G 0, 32, .inl arrivals))], [(a_firstPlaces, .inl (G 0, 16, .inl firstPlaces))], [(a_lengths, .inl (G 0, 32, .inl lengths))], [(a_previous, .inl (G 0, 32, .inl previous))]] out) := by
  refine x_ent (cc := cX9_stepTo) (maxL := 6) (by decide) rfl (Nat.le_of_ble_eq_true rfl) ?_
  intro p e s m below meth c aa ls args Q hQ hx hb hr hml hown hts hlocks hE hN hP hl hS
  have hown : s.vm.findClass RX9 = some m.cls := hown
  have hl : lv_has ls 6 [(0, .ref h), (1, .int v1), (2, .int v2)] := hl
  have J52 : ∀ (v4 : Int32) (H : Heap) (locs : List Loc) (ls : Array Slot), xW D aa [[(h, .inr (9, [.int belowOwn, .int belowEither, .int other, .int places, .ref a_objects, .ref a_parts, .ref a_lengths, .ref a_previous, .ref a_arrivals, .ref a_firstPlaces]))], [(a_arrivals, .inl (G 0, 32, .inl arrivals))], [(a_firstPlaces, .inl (G 0, 16, .inl firstPlaces))], [(a_lengths, .inl (G 0, 32, .inl lengths))], [(a_previous, .inl (G 0, 32, .inl previous))]] H → va_S (xA aa) s.heap H locs → lv_has ls 6 [(0, .ref h), (4, .int v4)] → f_X9_stepTo_J52 arrivals v4 = some out → W p l e (rM 2 42) s m args below meth c H locs 0 0 Q (F0 m 52 ls []) := by
    intro v4  H locs ls  hP hS hl hf
    rw [f_X9_stepTo_J52] at hf
    refine lv_aload_n hx hb dX9_stepTo_52 rfl (lv_at hl 0 rfl) ?_
    refine x_get hx hb hts u_X9_stepTo_X9 hown hE hP 0 rfl rfl 8 (by decide) (hts (.fieldLink RX9 37 "DecreasingDiagrams$SidePaths" "arrivals" "[I") (List.mem_of_getElem? (i := 3) rfl)) rfl dX9_stepTo_53 ?_
    refine lv_iload hx hb dX9_stepTo_56 (lv_at hl 1 rfl) ?_
    obtain ⟨hi, hf⟩ := ck_some hf
    refine x_iald hx hb hE hP 1 rfl hi dX9_stepTo_58 ?_
    have hf := Option.some.inj hf
    subst hf
    subst hQ
    exact x_iret hx hb hr hlocks hP hS dX9_stepTo_59
  have L31 : ∀ (n_31 : Nat) (v4 : Int32) (v5 : Int32) (H : Heap) (locs : List Loc) (ls : Array Slot), xW D aa [[(h, .inr (9, [.int belowOwn, .int belowEither, .int other, .int places, .ref a_objects, .ref a_parts, .ref a_lengths, .ref a_previous, .ref a_arrivals, .ref a_firstPlaces]))], [(a_arrivals, .inl (G 0, 32, .inl arrivals))], [(a_firstPlaces, .inl (G 0, 16, .inl firstPlaces))], [(a_lengths, .inl (G 0, 32, .inl lengths))], [(a_previous, .inl (G 0, 32, .inl previous))]] H → va_S (xA aa) s.heap H locs → lv_has ls 6 [(0, .ref h), (2, .int v2), (4, .int v4), (5, .int v5)] → lp (τ := Int32 → Int32 → Option (Int32)) (fun _ _ => none) (f_X9_stepTo_L31 arrivals previous v2) n_31 v4 v5 = some out → W p l e (rM 2 42) s m args below meth c H locs 0 0 Q (F0 m 31 ls []) := by
    intro    n_31
    induction n_31 with
    | zero =>
      intro v4 v5 H locs ls hP hS hl hf
      exact no_some hf
    | succ n_31 ih_31 =>
      intro v4 v5 H locs ls hP hS hl hf
      have hf : f_X9_stepTo_L31 arrivals previous v2 (lp (τ := Int32 → Int32 → Option (Int32)) (fun _ _ => none) (f_X9_stepTo_L31 arrivals previous v2) n_31) v4 v5 = some out := hf
      rw [f_X9_stepTo_L31] at hf
      refine lv_iload hx hb dX9_stepTo_31 (lv_at hl 3 rfl) ?_
      refine lv_iload_n hx hb dX9_stepTo_33 rfl (lv_at hl 1 rfl) ?_
      refine lv_icmp_le (tgt := 52) hx hb dX9_stepTo_34 (by decide) (fun c_34 => ?_) (fun c_34 => ?_)
      · have hf := it_pos c_34 hf
        exact J52 v4  H locs ls  hP hS (lv_sub hl [0, 2] rfl) hf
      · have hf := it_neg c_34 hf
        refine lv_aload_n hx hb dX9_stepTo_37 rfl (lv_at hl 0 rfl) ?_
        refine x_get hx hb hts u_X9_stepTo_X9 hown hE hP 0 rfl rfl 7 (by decide) (hts (.fieldLink RX9 34 "DecreasingDiagrams$SidePaths" "previous" "[I") (List.mem_of_getElem? (i := 2) rfl)) rfl dX9_stepTo_38 ?_
        refine lv_iload hx hb dX9_stepTo_41 (lv_at hl 2 rfl) ?_
        obtain ⟨hi, hf⟩ := ck_some hf
        refine x_iald hx hb hE hP 4 rfl hi dX9_stepTo_43 ?_
        obtain ⟨v4_44, e_v4_44, hf⟩ := lt_some hf
        refine x_istore (v := v4_44) (lv' := [(4, .int v4_44), (0, .ref h), (2, .int v2), (5, .int v5)]) hx hb dX9_stepTo_44 e_v4_44 hl (by decide) rfl (fun ls hl => ?_)
        obtain ⟨v5_46, e_v5_46, hf⟩ := lt_some hf
        refine lv_iinc (v := v5_46) (lv' := [(5, .int v5_46), (4, .int v4_44), (0, .ref h), (2, .int v2)]) hx hb dX9_stepTo_46 hl (k := 3) rfl (by rw [e_v5_46]; rfl) (by decide) rfl (fun ls hl => ?_)
        refine lv_goto (tgt := 31) hx hb dX9_stepTo_49 (by decide) ?_
        exact ih_31 v4_44 v5_46 H locs ls hP hS (lv_sub hl [2, 3, 1, 0] rfl) hf
  rw [f_X9_stepTo] at hf
  obtain ⟨H, hH⟩ : ∃ H : Heap, H = s.heap := ⟨_, rfl⟩
  obtain ⟨locs, hlocs⟩ : ∃ locs : List Loc, locs = [] := ⟨_, rfl⟩
  have hP : xW D aa [[(h, .inr (9, [.int belowOwn, .int belowEither, .int other, .int places, .ref a_objects, .ref a_parts, .ref a_lengths, .ref a_previous, .ref a_arrivals, .ref a_firstPlaces]))], [(a_arrivals, .inl (G 0, 32, .inl arrivals))], [(a_firstPlaces, .inl (G 0, 16, .inl firstPlaces))], [(a_lengths, .inl (G 0, 32, .inl lengths))], [(a_previous, .inl (G 0, 32, .inl previous))]] H := by rw [hH]; exact hP
  have hS : va_S (xA aa) s.heap H locs := by rw [hH, hlocs]; exact hS
  suffices GO : W p l e (rM 2 42) s m args below meth c H locs 0 0 Q (F0 m 0 ls []) by
    rw [hH, hlocs] at GO
    exact GO
  clear hH hlocs
  refine lv_aload_n hx hb dX9_stepTo_0 rfl (lv_at hl 0 rfl) ?_
  refine lv_iload_n hx hb dX9_stepTo_1 rfl (lv_at hl 1 rfl) ?_
  obtain ⟨r_2, hr_2, hf⟩ := bd_some hf
  refine x_goi (ps := [0, 2, 3]) (I' := [[(h, .inr (9, [.int belowOwn, .int belowEither, .int other, .int places, .ref a_objects, .ref a_parts, .ref a_lengths, .ref a_previous, .ref a_arrivals, .ref a_firstPlaces]))], [(a_arrivals, .inl (G 0, 32, .inl arrivals))], [(a_firstPlaces, .inl (G 0, 16, .inl firstPlaces))], [(a_lengths, .inl (G 0, 32, .inl lengths))], [(a_previous, .inl (G 0, 32, .inl previous))]]) (x_runV (As := [.int v1]) (rest := []) (ps := [0, 2, 3]) ⟨hx, hb, hml, hown, hts⟩ (k_X9_lengthTo l D G h a_objects a_parts a_lengths a_previous a_arrivals a_firstPlaces belowOwn belowEither other places firstPlaces lengths v1 r_2 hr_2) (cwV 1 hts gX9_stepTo_X9_lengthTo rfl rfl rfl (by decide +kernel) ⟨Nat.le_of_ble_eq_true rfl, Nat.le_of_ble_eq_true rfl⟩) hE hP hN rfl (by decide) 0 rfl rfl rfl hl.1 (Nat.le_of_ble_eq_true rfl) dX9_stepTo_2 ⟨Nat.zero_le _, Nat.zero_le _⟩) hP hN hS rfl rfl (fun H locs hP hS => ?_)
  obtain ⟨v3_5, e_v3_5, hf⟩ := lt_some hf
  refine x_istore_n (v := v3_5) (lv' := [(3, .int v3_5), (0, .ref h), (1, .int v1), (2, .int v2)]) hx hb dX9_stepTo_5 e_v3_5 rfl hl (by decide) rfl (fun ls hl => ?_)
  refine lv_iload_n hx hb dX9_stepTo_6 rfl (lv_at hl 3 rfl) ?_
  refine lv_if_lt (tgt := 15) hx hb dX9_stepTo_7 (by decide) (fun c_7 => ?_) (fun c_7 => ?_)
  · have hf := it_pos c_7 hf
    refine lv_bipush (v := -2) hx hb dX9_stepTo_15 (by decide) ?_
    have hf := Option.some.inj hf
    subst hf
    subst hQ
    exact x_iret hx hb hr hlocks hP hS dX9_stepTo_17
  · have hf := it_neg c_7 hf
    refine lv_iload_n hx hb dX9_stepTo_10 rfl (lv_at hl 3 rfl) ?_
    refine lv_iload_n hx hb dX9_stepTo_11 rfl (lv_at hl 0 rfl) ?_
    refine lv_icmp_lt (tgt := 18) hx hb dX9_stepTo_12 (by decide) (fun c_12 => ?_) (fun c_12 => ?_)
    · have hf := it_pos c_12 hf
      refine lv_aload_n hx hb dX9_stepTo_18 rfl (lv_at hl 1 rfl) ?_
      refine x_get hx hb hts u_X9_stepTo_X9 hown hE hP 0 rfl rfl 9 (by decide) (hts (.fieldLink RX9 40 "DecreasingDiagrams$SidePaths" "firstPlaces" "[I") (List.mem_of_getElem? (i := 1) rfl)) rfl dX9_stepTo_19 ?_
      refine lv_iload_n hx hb dX9_stepTo_22 rfl (lv_at hl 2 rfl) ?_
      obtain ⟨hi, hf⟩ := ck_some hf
      refine x_iald hx hb hE hP 2 rfl hi dX9_stepTo_23 ?_
      obtain ⟨v4_24, e_v4_24, hf⟩ := lt_some hf
      refine x_istore (v := v4_24) (lv' := [(4, .int v4_24), (3, .int v3_5), (0, .ref h), (1, .int v1), (2, .int v2)]) hx hb dX9_stepTo_24 e_v4_24 hl (by decide) rfl (fun ls hl => ?_)
      refine lv_iload_n hx hb dX9_stepTo_26 rfl (lv_at hl 1 rfl) ?_
      refine lv_iconst (v := 1) hx hb dX9_stepTo_27 (by decide) ?_
      refine lv_isub hx hb dX9_stepTo_28 ?_
      obtain ⟨v5_29, e_v5_29, hf⟩ := lt_some hf
      refine x_istore (v := v5_29) (lv' := [(5, .int v5_29), (4, .int v4_24), (3, .int v3_5), (0, .ref h), (1, .int v1), (2, .int v2)]) hx hb dX9_stepTo_29 e_v5_29 hl (by decide) rfl (fun ls hl => ?_)
      exact L31    fuel v4_24 v5_29 H locs ls hP hS (lv_sub hl [3, 5, 1, 0] rfl) hf
    · have hf := it_neg c_12 hf
      refine lv_bipush (v := -2) hx hb dX9_stepTo_15 (by decide) ?_
      have hf := Option.some.inj hf
      subst hf
      subst hQ
      exact x_iret hx hb hr hlocks hP hS dX9_stepTo_17

set_option maxRecDepth 20000 in
theorem u_X4_begin_X4 : ∀ w ∈ wsX40, w ∈ wsX4_begin := xx_pl _ [24, 25, 26, 27, 28] (by decide +kernel)
set_option maxRecDepth 20000 in
theorem u_X4_begin_X3 : ∀ w ∈ wsX30, w ∈ wsX4_begin := xx_pl _ [29, 30, 31, 32, 33, 34] (by decide +kernel)
def f_X4_begin_L24 (trial_objects : Int32) (trial_steps : Int32) (trialPeaks_count : Int32) (trial_sources : (Nat → Int32)) (trial_targets : (Nat → Int32)) (trial_words : (Nat → Int32)) (trialPeaks_firsts : (Nat → Int32)) (trialPeaks_seconds : (Nat → Int32)) (v2 : Int32) (rec_24 : Int32 → Int32 → (Nat → Int32) → Option (Int32 × Int32 × (Nat → Int32) × (Nat → Int32) × (Nat → Int32) × Int32 × (Nat → Int32) × Int32 × (Nat → Int32) × (Nat → Int32))) (v3 : Int32) (v4 : Int32) (trial_labels : (Nat → Int32)) : Option (Int32 × Int32 × (Nat → Int32) × (Nat → Int32) × (Nat → Int32) × Int32 × (Nat → Int32) × Int32 × (Nat → Int32) × (Nat → Int32)) :=
  if trial_steps ≤ v4 then (some (v3, trialPeaks_count, trialPeaks_firsts, trialPeaks_seconds, trial_labels, trial_objects, trial_sources, trial_steps, trial_targets, trial_words)) else (if 8 ≤ v4 then (some (v3, trialPeaks_count, trialPeaks_firsts, trialPeaks_seconds, trial_labels, trial_objects, trial_sources, trial_steps, trial_targets, trial_words)) else (ck v4 32 (lt (upd trial_labels v4.toNatClampNeg 0) (fun trial_labels_53 => lt (v3 * v2) (fun v3_57 => lt (v4 + 1) (fun v4_58 => rec_24 v3_57 v4_58 trial_labels_53))))))
def f_X4_begin (p1_objects : Int32) (p1_steps : Int32) (p1_labels : (Nat → Int32)) (p1_sources : (Nat → Int32)) (p1_targets : (Nat → Int32)) (p1_words : (Nat → Int32)) (trial_labels : (Nat → Int32)) (trial_sources : (Nat → Int32)) (trial_targets : (Nat → Int32)) (trial_words : (Nat → Int32)) (trialPeaks_firsts : (Nat → Int32)) (trialPeaks_seconds : (Nat → Int32)) (v2 : Int32) : Option (Int32 × Int32 × (Nat → Int32) × (Nat → Int32) × (Nat → Int32) × Int32 × (Nat → Int32) × Int32 × (Nat → Int32) × (Nat → Int32)) :=
  (f_X3_copyFrom p1_objects p1_steps p1_labels p1_sources p1_targets p1_words trial_labels trial_sources trial_targets trial_words).bind (fun r_5 => (f_X7_collect r_5.2.2.2.1 r_5.2.2.1 trialPeaks_firsts trialPeaks_seconds).bind (fun r_16 => lt 1 (fun v3_20 => lt 0 (fun v4_22 => lp (τ := Int32 → Int32 → (Nat → Int32) → Option (Int32 × Int32 × (Nat → Int32) × (Nat → Int32) × (Nat → Int32) × Int32 × (Nat → Int32) × Int32 × (Nat → Int32) × (Nat → Int32))) (fun _ _ _ => none) (f_X4_begin_L24 r_5.2.1 r_5.2.2.2.1 r_16.1 r_5.2.2.1 r_5.2.2.2.2.1 r_5.2.2.2.2.2 r_16.2.1 r_16.2.2 v2) fuel v3_20 v4_22 r_5.1))))
set_option maxHeartbeats 4000000 in
set_option maxRecDepth 100000 in
theorem k_X4_begin (l : Launch) (D : va_G) (G : Nat → ClassId) (h : Nat) (h_p1 : Nat) (a_p1_words : Nat) (a_p1_sources : Nat) (a_p1_targets : Nat) (a_p1_labels : Nat) (h_trial : Nat) (h_natural : Nat) (h_trialPeaks : Nat) (a_found : Nat) (a_trial_words : Nat) (a_trial_sources : Nat) (a_trial_targets : Nat) (a_trial_labels : Nat) (a_trialPeaks_firsts : Nat) (a_trialPeaks_seconds : Nat) (p1_objects : Int32) (p1_steps : Int32) (foundSteps : Int32) (trial_objects : Int32) (trial_steps : Int32) (trialPeaks_count : Int32) (p1_labels : (Nat → Int32)) (p1_sources : (Nat → Int32)) (p1_targets : (Nat → Int32)) (p1_words : (Nat → Int32)) (trial_labels : (Nat → Int32)) (trial_sources : (Nat → Int32)) (trial_targets : (Nat → Int32)) (trial_words : (Nat → Int32)) (trialPeaks_firsts : (Nat → Int32)) (trialPeaks_seconds : (Nat → Int32))  (v2 : Int32) (out : Int32 × Int32 × (Nat → Int32) × (Nat → Int32) × (Nat → Int32) × Int32 × (Nat → Int32) × Int32 × (Nat → Int32) × (Nat → Int32)) (hf : f_X4_begin p1_objects p1_steps p1_labels p1_sources p1_targets p1_words trial_labels trial_sources trial_targets trial_words trialPeaks_firsts trialPeaks_seconds v2 = some out) : xMet l yX4_begin wsX4_begin (rM 2 47) D G [.ref h, .ref h_p1, .int v2] [[(h_p1, .inr (3, [.int p1_objects, .ref a_p1_words, .int p1_steps, .ref a_p1_sources, .ref a_p1_targets, .ref a_p1_labels]))], [(a_p1_labels, .inl (G 0, 32, .inl p1_labels))], [(a_p1_sources, .inl (G 0, 32, .inl p1_sources))], [(a_p1_targets, .inl (G 0, 32, .inl p1_targets))], [(a_p1_words, .inl (G 0, 16, .inl p1_words))], [(h, .inr (4, [.ref h_trial, .ref h_natural, .ref h_trialPeaks, .ref a_found, .int foundSteps]))], [(h_trial, .inr (3, [.int trial_objects, .ref a_trial_words, .int trial_steps, .ref a_trial_sources, .ref a_trial_targets, .ref a_trial_labels]))], [(a_trial_labels, .inl (G 0, 32, .inl trial_labels))], [(a_trial_sources, .inl (G 0, 32, .inl trial_sources))], [(a_trial_targets, .inl (G 0, 32, .inl trial_targets))], [(a_trial_words, .inl (G 0, 16, .inl trial_words))], [(h_trialPeaks, .inr (7, [.int trialPeaks_count, .ref a_trialPeaks_firsts, .ref a_trialPeaks_seconds]))], [(a_trialPeaks_firsts, .inl (G 0, 496, .inl trialPeaks_firsts))], [(a_trialPeaks_seconds, .inl (G 0, 496, .inl trialPeaks_seconds))]] (xQi D [[(h_p1, .inr (3, [.int p1_objects, .ref a_p1_words, .int p1_steps, .ref a_p1_sources, .ref a_p1_targets, .ref a_p1_labels]))], [(a_p1_labels, .inl (G 0, 32, .inl p1_labels))], [(a_p1_sources, .inl (G 0, 32, .inl p1_sources))], [(a_p1_targets, .inl (G 0, 32, .inl p1_targets))], [(a_p1_words, .inl (G 0, 16, .inl p1_words))], [(h, .inr (4, [.ref h_trial, .ref h_natural, .ref h_trialPeaks, .ref a_found, .int foundSteps]))], [(h_trial, .inr (3, [.int out.2.2.2.2.2.1, .ref a_trial_words, .int out.2.2.2.2.2.2.2.1, .ref a_trial_sources, .ref a_trial_targets, .ref a_trial_labels]))], [(a_trial_labels, .inl (G 0, 32, .inl out.2.2.2.2.1))], [(a_trial_sources, .inl (G 0, 32, .inl out.2.2.2.2.2.2.1))], [(a_trial_targets, .inl (G 0, 32, .inl out.2.2.2.2.2.2.2.2.1))], [(a_trial_words, .inl (G 0, 16, .inl out.2.2.2.2.2.2.2.2.2))], [(h_trialPeaks, .inr (7, [.int out.2.1, .ref a_trialPeaks_firsts, .ref a_trialPeaks_seconds]))], [(a_trialPeaks_firsts, .inl (G 0, 496, .inl out.2.2.1))], [(a_trialPeaks_seconds, .inl (G 0, 496, .inl out.2.2.2.1))]] out.1) := by
  refine x_ent (cc := cX4_begin) (maxL := 5) (by decide) rfl (Nat.le_of_ble_eq_true rfl) ?_
  intro p e s m below meth c aa ls args Q hQ hx hb hr hml hown hts hlocks hE hN hP hl hS
  have hown : s.vm.findClass RX4 = some m.cls := hown
  have hl : lv_has ls 5 [(0, .ref h), (1, .ref h_p1), (2, .int v2)] := hl
  have L24 : ∀ (trialPeaks_count : Int32) (trialPeaks_firsts : (Nat → Int32)) (trialPeaks_seconds : (Nat → Int32)) (trial_objects : Int32) (trial_sources : (Nat → Int32)) (trial_steps : Int32) (trial_targets : (Nat → Int32)) (trial_words : (Nat → Int32)), ∀ (n_24 : Nat) (v3 : Int32) (v4 : Int32) (trial_labels : (Nat → Int32)) (H : Heap) (locs : List Loc) (ls : Array Slot), xW D aa [[(h_p1, .inr (3, [.int p1_objects, .ref a_p1_words, .int p1_steps, .ref a_p1_sources, .ref a_p1_targets, .ref a_p1_labels]))], [(a_p1_labels, .inl (G 0, 32, .inl p1_labels))], [(a_p1_sources, .inl (G 0, 32, .inl p1_sources))], [(a_p1_targets, .inl (G 0, 32, .inl p1_targets))], [(a_p1_words, .inl (G 0, 16, .inl p1_words))], [(h, .inr (4, [.ref h_trial, .ref h_natural, .ref h_trialPeaks, .ref a_found, .int foundSteps]))], [(h_trial, .inr (3, [.int trial_objects, .ref a_trial_words, .int trial_steps, .ref a_trial_sources, .ref a_trial_targets, .ref a_trial_labels]))], [(a_trial_labels, .inl (G 0, 32, .inl trial_labels))], [(a_trial_sources, .inl (G 0, 32, .inl trial_sources))], [(a_trial_targets, .inl (G 0, 32, .inl trial_targets))], [(a_trial_words, .inl (G 0, 16, .inl trial_words))], [(h_trialPeaks, .inr (7, [.int trialPeaks_count, .ref a_trialPeaks_firsts, .ref a_trialPeaks_seconds]))], [(a_trialPeaks_firsts, .inl (G 0, 496, .inl trialPeaks_firsts))], [(a_trialPeaks_seconds, .inl (G 0, 496, .inl trialPeaks_seconds))]] H → va_S (xA aa) s.heap H locs → lv_has ls 5 [(0, .ref h), (2, .int v2), (3, .int v3), (4, .int v4)] → lp (τ := Int32 → Int32 → (Nat → Int32) → Option (Int32 × Int32 × (Nat → Int32) × (Nat → Int32) × (Nat → Int32) × Int32 × (Nat → Int32) × Int32 × (Nat → Int32) × (Nat → Int32))) (fun _ _ _ => none) (f_X4_begin_L24 trial_objects trial_steps trialPeaks_count trial_sources trial_targets trial_words trialPeaks_firsts trialPeaks_seconds v2) n_24 v3 v4 trial_labels = some out → W p l e (rM 2 47) s m args below meth c H locs 0 0 Q (F0 m 24 ls []) := by
    intro trialPeaks_count trialPeaks_firsts trialPeaks_seconds trial_objects trial_sources trial_steps trial_targets trial_words   n_24
    induction n_24 with
    | zero =>
      intro v3 v4 trial_labels H locs ls hP hS hl hf
      exact no_some hf
    | succ n_24 ih_24 =>
      intro v3 v4 trial_labels H locs ls hP hS hl hf
      have hf : f_X4_begin_L24 trial_objects trial_steps trialPeaks_count trial_sources trial_targets trial_words trialPeaks_firsts trialPeaks_seconds v2 (lp (τ := Int32 → Int32 → (Nat → Int32) → Option (Int32 × Int32 × (Nat → Int32) × (Nat → Int32) × (Nat → Int32) × Int32 × (Nat → Int32) × Int32 × (Nat → Int32) × (Nat → Int32))) (fun _ _ _ => none) (f_X4_begin_L24 trial_objects trial_steps trialPeaks_count trial_sources trial_targets trial_words trialPeaks_firsts trialPeaks_seconds v2) n_24) v3 v4 trial_labels = some out := hf
      rw [f_X4_begin_L24] at hf
      refine lv_iload hx hb dX4_begin_24 (lv_at hl 3 rfl) ?_
      refine lv_aload_n hx hb dX4_begin_26 rfl (lv_at hl 0 rfl) ?_
      refine x_get hx hb hts u_X4_begin_X4 hown hE hP 5 rfl rfl 0 (by decide) (hts (.fieldLink RX4 12 "DecreasingDiagrams$LabellingSearch" "trial" "LDecreasingDiagrams$LabelledSystem;") (List.mem_of_getElem? (i := 1) rfl)) rfl dX4_begin_27 ?_
      refine x_getN hx hb hts u_X4_begin_X3 hown hE hP 6 rfl rfl 2 (by decide) (hE.2 (.fieldLinkNest RX4 60 "DecreasingDiagrams$LabelledSystem" "steps" "I" RX11) (List.mem_of_getElem? (i := 9) rfl)) rfl dX4_begin_30 ?_
      refine lv_icmp_ge (tgt := 64) hx hb dX4_begin_33 (by decide) (fun c_33 => ?_) (fun c_33 => ?_)
      · have hf := it_pos c_33 hf
        refine lv_iload_n hx hb dX4_begin_64 rfl (lv_at hl 2 rfl) ?_
        have hf := Option.some.inj hf
        subst hf
        subst hQ
        exact x_iret hx hb hr hlocks hP hS dX4_begin_65
      · have hf := it_neg c_33 hf
        refine lv_iload hx hb dX4_begin_36 (lv_at hl 3 rfl) ?_
        refine lv_bipush (v := 8) hx hb dX4_begin_38 (by decide) ?_
        refine lv_icmp_ge (tgt := 64) hx hb dX4_begin_40 (by decide) (fun c_40 => ?_) (fun c_40 => ?_)
        · have hf := it_pos c_40 hf
          refine lv_iload_n hx hb dX4_begin_64 rfl (lv_at hl 2 rfl) ?_
          have hf := Option.some.inj hf
          subst hf
          subst hQ
          exact x_iret hx hb hr hlocks hP hS dX4_begin_65
        · have hf := it_neg c_40 hf
          refine lv_aload_n hx hb dX4_begin_43 rfl (lv_at hl 0 rfl) ?_
          refine x_get hx hb hts u_X4_begin_X4 hown hE hP 5 rfl rfl 0 (by decide) (hts (.fieldLink RX4 12 "DecreasingDiagrams$LabellingSearch" "trial" "LDecreasingDiagrams$LabelledSystem;") (List.mem_of_getElem? (i := 1) rfl)) rfl dX4_begin_44 ?_
          refine x_getN hx hb hts u_X4_begin_X3 hown hE hP 6 rfl rfl 5 (by decide) (hE.2 (.fieldLinkNest RX4 51 "DecreasingDiagrams$LabelledSystem" "labels" "[I" RX11) (List.mem_of_getElem? (i := 19) rfl)) rfl dX4_begin_47 ?_
          refine lv_iload hx hb dX4_begin_50 (lv_at hl 3 rfl) ?_
          refine lv_iconst (v := 0) hx hb dX4_begin_52 (by decide) ?_
          obtain ⟨hi, hf⟩ := ck_some hf
          obtain ⟨trial_labels_53, e_trial_labels_53, hf⟩ := lt_some hf
          refine x_iast (I' := [[(h_p1, .inr (3, [.int p1_objects, .ref a_p1_words, .int p1_steps, .ref a_p1_sources, .ref a_p1_targets, .ref a_p1_labels]))], [(a_p1_labels, .inl (G 0, 32, .inl p1_labels))], [(a_p1_sources, .inl (G 0, 32, .inl p1_sources))], [(a_p1_targets, .inl (G 0, 32, .inl p1_targets))], [(a_p1_words, .inl (G 0, 16, .inl p1_words))], [(h, .inr (4, [.ref h_trial, .ref h_natural, .ref h_trialPeaks, .ref a_found, .int foundSteps]))], [(h_trial, .inr (3, [.int trial_objects, .ref a_trial_words, .int trial_steps, .ref a_trial_sources, .ref a_trial_targets, .ref a_trial_labels]))], [(a_trial_labels, .inl (G 0, 32, .inl trial_labels_53))], [(a_trial_sources, .inl (G 0, 32, .inl trial_sources))], [(a_trial_targets, .inl (G 0, 32, .inl trial_targets))], [(a_trial_words, .inl (G 0, 16, .inl trial_words))], [(h_trialPeaks, .inr (7, [.int trialPeaks_count, .ref a_trialPeaks_firsts, .ref a_trialPeaks_seconds]))], [(a_trialPeaks_firsts, .inl (G 0, 496, .inl trialPeaks_firsts))], [(a_trialPeaks_seconds, .inl (G 0, 496, .inl trialPeaks_seconds))]]) hx hb hE hP hN hS 7 rfl hi e_trial_labels_53 rfl dX4_begin_53 (fun H locs hP hS => ?_)
          refine lv_iload_n hx hb dX4_begin_54 rfl (lv_at hl 2 rfl) ?_
          refine lv_iload_n hx hb dX4_begin_55 rfl (lv_at hl 1 rfl) ?_
          refine lv_imul hx hb dX4_begin_56 ?_
          obtain ⟨v3_57, e_v3_57, hf⟩ := lt_some hf
          refine x_istore_n (v := v3_57) (lv' := [(3, .int v3_57), (0, .ref h), (2, .int v2), (4, .int v4)]) hx hb dX4_begin_57 e_v3_57 rfl hl (by decide) rfl (fun ls hl => ?_)
          obtain ⟨v4_58, e_v4_58, hf⟩ := lt_some hf
          refine lv_iinc (v := v4_58) (lv' := [(4, .int v4_58), (3, .int v3_57), (0, .ref h), (2, .int v2)]) hx hb dX4_begin_58 hl (k := 3) rfl (by rw [e_v4_58]; rfl) (by decide) rfl (fun ls hl => ?_)
          refine lv_goto (tgt := 24) hx hb dX4_begin_61 (by decide) ?_
          exact ih_24 v3_57 v4_58 trial_labels_53 H locs ls hP hS (lv_sub hl [2, 3, 1, 0] rfl) hf
  rw [f_X4_begin] at hf
  obtain ⟨H, hH⟩ : ∃ H : Heap, H = s.heap := ⟨_, rfl⟩
  obtain ⟨locs, hlocs⟩ : ∃ locs : List Loc, locs = [] := ⟨_, rfl⟩
  have hP : xW D aa [[(h_p1, .inr (3, [.int p1_objects, .ref a_p1_words, .int p1_steps, .ref a_p1_sources, .ref a_p1_targets, .ref a_p1_labels]))], [(a_p1_labels, .inl (G 0, 32, .inl p1_labels))], [(a_p1_sources, .inl (G 0, 32, .inl p1_sources))], [(a_p1_targets, .inl (G 0, 32, .inl p1_targets))], [(a_p1_words, .inl (G 0, 16, .inl p1_words))], [(h, .inr (4, [.ref h_trial, .ref h_natural, .ref h_trialPeaks, .ref a_found, .int foundSteps]))], [(h_trial, .inr (3, [.int trial_objects, .ref a_trial_words, .int trial_steps, .ref a_trial_sources, .ref a_trial_targets, .ref a_trial_labels]))], [(a_trial_labels, .inl (G 0, 32, .inl trial_labels))], [(a_trial_sources, .inl (G 0, 32, .inl trial_sources))], [(a_trial_targets, .inl (G 0, 32, .inl trial_targets))], [(a_trial_words, .inl (G 0, 16, .inl trial_words))], [(h_trialPeaks, .inr (7, [.int trialPeaks_count, .ref a_trialPeaks_firsts, .ref a_trialPeaks_seconds]))], [(a_trialPeaks_firsts, .inl (G 0, 496, .inl trialPeaks_firsts))], [(a_trialPeaks_seconds, .inl (G 0, 496, .inl trialPeaks_seconds))]] H := by rw [hH]; exact hP
  have hS : va_S (xA aa) s.heap H locs := by rw [hH, hlocs]; exact hS
  suffices GO : W p l e (rM 2 47) s m args below meth c H locs 0 0 Q (F0 m 0 ls []) by
    rw [hH, hlocs] at GO
    exact GO
  clear hH hlocs
  refine lv_aload_n hx hb dX4_begin_0 rfl (lv_at hl 0 rfl) ?_
  refine x_get hx hb hts u_X4_begin_X4 hown hE hP 5 rfl rfl 0 (by decide) (hts (.fieldLink RX4 12 "DecreasingDiagrams$LabellingSearch" "trial" "LDecreasingDiagrams$LabelledSystem;") (List.mem_of_getElem? (i := 1) rfl)) rfl dX4_begin_1 ?_
  refine lv_aload_n hx hb dX4_begin_4 rfl (lv_at hl 1 rfl) ?_
  obtain ⟨r_5, hr_5, hf⟩ := bd_some hf
  refine x_gov (ps := [0, 1, 2, 3, 4, 6, 7, 8, 9, 10]) (I' := [[(h_p1, .inr (3, [.int p1_objects, .ref a_p1_words, .int p1_steps, .ref a_p1_sources, .ref a_p1_targets, .ref a_p1_labels]))], [(a_p1_labels, .inl (G 0, 32, .inl p1_labels))], [(a_p1_sources, .inl (G 0, 32, .inl p1_sources))], [(a_p1_targets, .inl (G 0, 32, .inl p1_targets))], [(a_p1_words, .inl (G 0, 16, .inl p1_words))], [(h, .inr (4, [.ref h_trial, .ref h_natural, .ref h_trialPeaks, .ref a_found, .int foundSteps]))], [(h_trial, .inr (3, [.int r_5.2.1, .ref a_trial_words, .int r_5.2.2.2.1, .ref a_trial_sources, .ref a_trial_targets, .ref a_trial_labels]))], [(a_trial_labels, .inl (G 0, 32, .inl r_5.1))], [(a_trial_sources, .inl (G 0, 32, .inl r_5.2.2.1))], [(a_trial_targets, .inl (G 0, 32, .inl r_5.2.2.2.2.1))], [(a_trial_words, .inl (G 0, 16, .inl r_5.2.2.2.2.2))], [(h_trialPeaks, .inr (7, [.int trialPeaks_count, .ref a_trialPeaks_firsts, .ref a_trialPeaks_seconds]))], [(a_trialPeaks_firsts, .inl (G 0, 496, .inl trialPeaks_firsts))], [(a_trialPeaks_seconds, .inl (G 0, 496, .inl trialPeaks_seconds))]]) (x_runVN (As := [.ref h_p1]) (rest := []) (ps := [0, 1, 2, 3, 4, 6, 7, 8, 9, 10]) ⟨hx, hb, hml, hown, hts⟩ (k_X3_copyFrom l D G h_trial h_p1 a_p1_words a_p1_sources a_p1_targets a_p1_labels a_trial_words a_trial_sources a_trial_targets a_trial_labels p1_objects p1_steps trial_objects trial_steps p1_labels p1_sources p1_targets p1_words trial_labels trial_sources trial_targets trial_words r_5 hr_5) ⟨va_cnB 1 hts gX4_begin_X3_copyFrom_n67 rfl rfl rfl (hE.2 (.methodLinkNest RX4 67 yX3_copyFrom RX11) (List.mem_of_getElem? (i := 88) rfl)) (hts (.initialized RX3) (List.mem_of_getElem? (i := 4) rfl)) (by decide +kernel) ⟨Nat.le_of_ble_eq_true rfl, Nat.le_of_ble_eq_true rfl⟩, (hts (.instanceMethod yX3_copyFrom) (List.mem_of_getElem? (i := 3) rfl)), (hts (.selects RX3 yX3_copyFrom yX3_copyFrom) (List.mem_of_getElem? (i := 5) rfl))⟩ hE hP hN rfl (by decide) 6 rfl rfl rfl hl.1 (Nat.le_of_ble_eq_true rfl) dX4_begin_5 ⟨Nat.zero_le _, Nat.zero_le _⟩) hP hN hS rfl rfl (fun H locs hP hS => ?_)
  refine lv_aload_n hx hb dX4_begin_8 rfl (lv_at hl 0 rfl) ?_
  refine x_get hx hb hts u_X4_begin_X4 hown hE hP 5 rfl rfl 2 (by decide) (hts (.fieldLink RX4 28 "DecreasingDiagrams$LabellingSearch" "trialPeaks" "LDecreasingDiagrams$Peaks;") (List.mem_of_getElem? (i := 2) rfl)) rfl dX4_begin_9 ?_
  refine lv_aload_n hx hb dX4_begin_12 rfl (lv_at hl 0 rfl) ?_
  refine x_get hx hb hts u_X4_begin_X4 hown hE hP 5 rfl rfl 0 (by decide) (hts (.fieldLink RX4 12 "DecreasingDiagrams$LabellingSearch" "trial" "LDecreasingDiagrams$LabelledSystem;") (List.mem_of_getElem? (i := 1) rfl)) rfl dX4_begin_13 ?_
  obtain ⟨r_16, hr_16, hf⟩ := bd_some hf
  refine x_gov (ps := [6, 8, 11, 12, 13]) (I' := [[(h_p1, .inr (3, [.int p1_objects, .ref a_p1_words, .int p1_steps, .ref a_p1_sources, .ref a_p1_targets, .ref a_p1_labels]))], [(a_p1_labels, .inl (G 0, 32, .inl p1_labels))], [(a_p1_sources, .inl (G 0, 32, .inl p1_sources))], [(a_p1_targets, .inl (G 0, 32, .inl p1_targets))], [(a_p1_words, .inl (G 0, 16, .inl p1_words))], [(h, .inr (4, [.ref h_trial, .ref h_natural, .ref h_trialPeaks, .ref a_found, .int foundSteps]))], [(h_trial, .inr (3, [.int r_5.2.1, .ref a_trial_words, .int r_5.2.2.2.1, .ref a_trial_sources, .ref a_trial_targets, .ref a_trial_labels]))], [(a_trial_labels, .inl (G 0, 32, .inl r_5.1))], [(a_trial_sources, .inl (G 0, 32, .inl r_5.2.2.1))], [(a_trial_targets, .inl (G 0, 32, .inl r_5.2.2.2.2.1))], [(a_trial_words, .inl (G 0, 16, .inl r_5.2.2.2.2.2))], [(h_trialPeaks, .inr (7, [.int r_16.1, .ref a_trialPeaks_firsts, .ref a_trialPeaks_seconds]))], [(a_trialPeaks_firsts, .inl (G 0, 496, .inl r_16.2.1))], [(a_trialPeaks_seconds, .inl (G 0, 496, .inl r_16.2.2))]]) (x_runVN (As := [.ref h_trial]) (rest := []) (ps := [6, 8, 11, 12, 13]) ⟨hx, hb, hml, hown, hts⟩ (k_X7_collect l D G h_trialPeaks h_trial a_trial_words a_trial_sources a_trial_targets a_trial_labels a_trialPeaks_firsts a_trialPeaks_seconds r_5.2.1 r_5.2.2.2.1 trialPeaks_count r_5.2.2.1 trialPeaks_firsts trialPeaks_seconds r_16 hr_16) ⟨va_cnB 1 hts gX4_begin_X7_collect_n71 rfl rfl rfl (hE.2 (.methodLinkNest RX4 71 yX7_collect RX11) (List.mem_of_getElem? (i := 89) rfl)) (hts (.initialized RX7) (List.mem_of_getElem? (i := 18) rfl)) (by decide +kernel) ⟨Nat.le_of_ble_eq_true rfl, Nat.le_of_ble_eq_true rfl⟩, (hts (.instanceMethod yX7_collect) (List.mem_of_getElem? (i := 17) rfl)), (hts (.selects RX7 yX7_collect yX7_collect) (List.mem_of_getElem? (i := 19) rfl))⟩ hE hP hN rfl (by decide) 11 rfl rfl rfl hl.1 (Nat.le_of_ble_eq_true rfl) dX4_begin_16 ⟨Nat.zero_le _, Nat.zero_le _⟩) hP hN hS rfl rfl (fun H locs hP hS => ?_)
  refine lv_iconst (v := 1) hx hb dX4_begin_19 (by decide) ?_
  obtain ⟨v3_20, e_v3_20, hf⟩ := lt_some hf
  refine x_istore_n (v := v3_20) (lv' := [(3, .int v3_20), (0, .ref h), (1, .ref h_p1), (2, .int v2)]) hx hb dX4_begin_20 e_v3_20 rfl hl (by decide) rfl (fun ls hl => ?_)
  refine lv_iconst (v := 0) hx hb dX4_begin_21 (by decide) ?_
  obtain ⟨v4_22, e_v4_22, hf⟩ := lt_some hf
  refine x_istore (v := v4_22) (lv' := [(4, .int v4_22), (3, .int v3_20), (0, .ref h), (1, .ref h_p1), (2, .int v2)]) hx hb dX4_begin_22 e_v4_22 hl (by decide) rfl (fun ls hl => ?_)
  exact L24 r_16.1 r_16.2.1 r_16.2.2 r_5.2.1 r_5.2.2.1 r_5.2.2.2.1 r_5.2.2.2.2.1 r_5.2.2.2.2.2   fuel v3_20 v4_22 r_5.1 H locs ls hP hS (lv_sub hl [2, 4, 1, 0] rfl) hf

set_option maxRecDepth 20000 in
theorem u_X4_advance_X4 : ∀ w ∈ wsX40, w ∈ wsX4_advance := xx_pl _ [2, 3, 4, 5, 6] (by decide +kernel)
set_option maxRecDepth 20000 in
theorem u_X4_advance_X3 : ∀ w ∈ wsX30, w ∈ wsX4_advance := xx_pl _ [7, 8, 9, 10, 11, 12] (by decide +kernel)
def f_X4_advance_J29  (v2 : Int32) (trial_labels : (Nat → Int32)) : Option ((Nat → Int32)) :=
  ck v2 32 (ck v2 32 (lt (upd trial_labels v2.toNatClampNeg ((trial_labels v2.toNatClampNeg) + 1)) (fun trial_labels_41 => some trial_labels_41)))
def f_X4_advance_L10 (v1 : Int32) (rec_10 : Int32 → (Nat → Int32) → Option ((Nat → Int32))) (v2 : Int32) (trial_labels : (Nat → Int32)) : Option ((Nat → Int32)) :=
  if v2 < 0 then (some trial_labels) else (ck v2 32 (if v1 ≤ ((trial_labels v2.toNatClampNeg) + 1) then (ck v2 32 (lt (upd trial_labels v2.toNatClampNeg 0) (fun trial_labels_52 => lt (v2 + (-1)) (fun v2_53 => rec_10 v2_53 trial_labels_52)))) else (f_X4_advance_J29 v2 trial_labels)))
def f_X4_advance (trial_steps : Int32) (trial_labels : (Nat → Int32)) (v1 : Int32) : Option ((Nat → Int32)) :=
  lt (trial_steps - 1) (fun v2_9 => lp (τ := Int32 → (Nat → Int32) → Option ((Nat → Int32))) (fun _ _ => none) (f_X4_advance_L10 v1) fuel v2_9 trial_labels)
set_option maxHeartbeats 4000000 in
set_option maxRecDepth 100000 in
theorem k_X4_advance (l : Launch) (D : va_G) (G : Nat → ClassId) (h : Nat) (h_trial : Nat) (h_natural : Nat) (h_trialPeaks : Nat) (a_found : Nat) (a_trial_words : Nat) (a_trial_sources : Nat) (a_trial_targets : Nat) (a_trial_labels : Nat) (foundSteps : Int32) (trial_objects : Int32) (trial_steps : Int32) (trial_labels : (Nat → Int32))  (v1 : Int32) (out : (Nat → Int32)) (hf : f_X4_advance trial_steps trial_labels v1 = some out) : xMet l yX4_advance wsX4_advance (rM 0 0) D G [.ref h, .int v1] [[(h, .inr (4, [.ref h_trial, .ref h_natural, .ref h_trialPeaks, .ref a_found, .int foundSteps]))], [(h_trial, .inr (3, [.int trial_objects, .ref a_trial_words, .int trial_steps, .ref a_trial_sources, .ref a_trial_targets, .ref a_trial_labels]))], [(a_trial_labels, .inl (G 0, 32, .inl trial_labels))]] (xQv D [[(h, .inr (4, [.ref h_trial, .ref h_natural, .ref h_trialPeaks, .ref a_found, .int foundSteps]))], [(h_trial, .inr (3, [.int trial_objects, .ref a_trial_words, .int trial_steps, .ref a_trial_sources, .ref a_trial_targets, .ref a_trial_labels]))], [(a_trial_labels, .inl (G 0, 32, .inl out))]]) := by
  refine x_ent (cc := cX4_advance) (maxL := 3) (by decide) rfl (Nat.le_of_ble_eq_true rfl) ?_
  intro p e s m below meth c aa ls args Q hQ hx hb hr hml hown hts hlocks hE hN hP hl hS
  have hown : s.vm.findClass RX4 = some m.cls := hown
  have hl : lv_has ls 3 [(0, .ref h), (1, .int v1)] := hl
  have J29 : ∀ (v2 : Int32) (trial_labels : (Nat → Int32)) (H : Heap) (locs : List Loc) (ls : Array Slot), xW D aa [[(h, .inr (4, [.ref h_trial, .ref h_natural, .ref h_trialPeaks, .ref a_found, .int foundSteps]))], [(h_trial, .inr (3, [.int trial_objects, .ref a_trial_words, .int trial_steps, .ref a_trial_sources, .ref a_trial_targets, .ref a_trial_labels]))], [(a_trial_labels, .inl (G 0, 32, .inl trial_labels))]] H → va_S (xA aa) s.heap H locs → lv_has ls 3 [(0, .ref h), (2, .int v2)] → f_X4_advance_J29  v2 trial_labels = some out → W p l e (rM 0 0) s m args below meth c H locs 0 0 Q (F0 m 29 ls []) := by
    intro v2 trial_labels  H locs ls  hP hS hl hf
    rw [f_X4_advance_J29] at hf
    refine lv_aload_n hx hb dX4_advance_29 rfl (lv_at hl 0 rfl) ?_
    refine x_get hx hb hts u_X4_advance_X4 hown hE hP 0 rfl rfl 0 (by decide) (hts (.fieldLink RX4 12 "DecreasingDiagrams$LabellingSearch" "trial" "LDecreasingDiagrams$LabelledSystem;") (List.mem_of_getElem? (i := 1) rfl)) rfl dX4_advance_30 ?_
    refine x_getN hx hb hts u_X4_advance_X3 hown hE hP 1 rfl rfl 5 (by decide) (hE.2 (.fieldLinkNest RX4 51 "DecreasingDiagrams$LabelledSystem" "labels" "[I" RX11) (List.mem_of_getElem? (i := 19) rfl)) rfl dX4_advance_33 ?_
    refine lv_iload_n hx hb dX4_advance_36 rfl (lv_at hl 1 rfl) ?_
    refine lv_dup2_11 hx hb dX4_advance_37 rfl rfl ?_
    obtain ⟨hi, hf⟩ := ck_some hf
    refine x_iald hx hb hE hP 2 rfl hi dX4_advance_38 ?_
    refine lv_iconst (v := 1) hx hb dX4_advance_39 (by decide) ?_
    refine lv_iadd hx hb dX4_advance_40 ?_
    obtain ⟨hi, hf⟩ := ck_some hf
    obtain ⟨trial_labels_41, e_trial_labels_41, hf⟩ := lt_some hf
    refine x_iast (I' := [[(h, .inr (4, [.ref h_trial, .ref h_natural, .ref h_trialPeaks, .ref a_found, .int foundSteps]))], [(h_trial, .inr (3, [.int trial_objects, .ref a_trial_words, .int trial_steps, .ref a_trial_sources, .ref a_trial_targets, .ref a_trial_labels]))], [(a_trial_labels, .inl (G 0, 32, .inl trial_labels_41))]]) hx hb hE hP hN hS 2 rfl hi e_trial_labels_41 rfl dX4_advance_41 (fun H locs hP hS => ?_)
    have hf := Option.some.inj hf
    subst hf
    subst hQ
    exact x_vret hx hb hr hlocks hP hS dX4_advance_42
  have L10 : ∀ (n_10 : Nat) (v2 : Int32) (trial_labels : (Nat → Int32)) (H : Heap) (locs : List Loc) (ls : Array Slot), xW D aa [[(h, .inr (4, [.ref h_trial, .ref h_natural, .ref h_trialPeaks, .ref a_found, .int foundSteps]))], [(h_trial, .inr (3, [.int trial_objects, .ref a_trial_words, .int trial_steps, .ref a_trial_sources, .ref a_trial_targets, .ref a_trial_labels]))], [(a_trial_labels, .inl (G 0, 32, .inl trial_labels))]] H → va_S (xA aa) s.heap H locs → lv_has ls 3 [(0, .ref h), (1, .int v1), (2, .int v2)] → lp (τ := Int32 → (Nat → Int32) → Option ((Nat → Int32))) (fun _ _ => none) (f_X4_advance_L10 v1) n_10 v2 trial_labels = some out → W p l e (rM 0 0) s m args below meth c H locs 0 0 Q (F0 m 10 ls []) := by
    intro    n_10
    induction n_10 with
    | zero =>
      intro v2 trial_labels H locs ls hP hS hl hf
      exact no_some hf
    | succ n_10 ih_10 =>
      intro v2 trial_labels H locs ls hP hS hl hf
      have hf : f_X4_advance_L10 v1 (lp (τ := Int32 → (Nat → Int32) → Option ((Nat → Int32))) (fun _ _ => none) (f_X4_advance_L10 v1) n_10) v2 trial_labels = some out := hf
      rw [f_X4_advance_L10] at hf
      refine lv_iload_n hx hb dX4_advance_10 rfl (lv_at hl 2 rfl) ?_
      refine lv_if_lt (tgt := 59) hx hb dX4_advance_11 (by decide) (fun c_11 => ?_) (fun c_11 => ?_)
      · have hf := it_pos c_11 hf
        have hf := Option.some.inj hf
        subst hf
        subst hQ
        exact x_vret hx hb hr hlocks hP hS dX4_advance_59
      · have hf := it_neg c_11 hf
        refine lv_aload_n hx hb dX4_advance_14 rfl (lv_at hl 0 rfl) ?_
        refine x_get hx hb hts u_X4_advance_X4 hown hE hP 0 rfl rfl 0 (by decide) (hts (.fieldLink RX4 12 "DecreasingDiagrams$LabellingSearch" "trial" "LDecreasingDiagrams$LabelledSystem;") (List.mem_of_getElem? (i := 1) rfl)) rfl dX4_advance_15 ?_
        refine x_getN hx hb hts u_X4_advance_X3 hown hE hP 1 rfl rfl 5 (by decide) (hE.2 (.fieldLinkNest RX4 51 "DecreasingDiagrams$LabelledSystem" "labels" "[I" RX11) (List.mem_of_getElem? (i := 19) rfl)) rfl dX4_advance_18 ?_
        refine lv_iload_n hx hb dX4_advance_21 rfl (lv_at hl 2 rfl) ?_
        obtain ⟨hi, hf⟩ := ck_some hf
        refine x_iald hx hb hE hP 2 rfl hi dX4_advance_22 ?_
        refine lv_iconst (v := 1) hx hb dX4_advance_23 (by decide) ?_
        refine lv_iadd hx hb dX4_advance_24 ?_
        refine lv_iload_n hx hb dX4_advance_25 rfl (lv_at hl 1 rfl) ?_
        refine lv_icmp_ge (tgt := 43) hx hb dX4_advance_26 (by decide) (fun c_26 => ?_) (fun c_26 => ?_)
        · have hf := it_pos c_26 hf
          refine lv_aload_n hx hb dX4_advance_43 rfl (lv_at hl 0 rfl) ?_
          refine x_get hx hb hts u_X4_advance_X4 hown hE hP 0 rfl rfl 0 (by decide) (hts (.fieldLink RX4 12 "DecreasingDiagrams$LabellingSearch" "trial" "LDecreasingDiagrams$LabelledSystem;") (List.mem_of_getElem? (i := 1) rfl)) rfl dX4_advance_44 ?_
          refine x_getN hx hb hts u_X4_advance_X3 hown hE hP 1 rfl rfl 5 (by decide) (hE.2 (.fieldLinkNest RX4 51 "DecreasingDiagrams$LabelledSystem" "labels" "[I" RX11) (List.mem_of_getElem? (i := 19) rfl)) rfl dX4_advance_47 ?_
          refine lv_iload_n hx hb dX4_advance_50 rfl (lv_at hl 2 rfl) ?_
          refine lv_iconst (v := 0) hx hb dX4_advance_51 (by decide) ?_
          obtain ⟨hi, hf⟩ := ck_some hf
          obtain ⟨trial_labels_52, e_trial_labels_52, hf⟩ := lt_some hf
          refine x_iast (I' := [[(h, .inr (4, [.ref h_trial, .ref h_natural, .ref h_trialPeaks, .ref a_found, .int foundSteps]))], [(h_trial, .inr (3, [.int trial_objects, .ref a_trial_words, .int trial_steps, .ref a_trial_sources, .ref a_trial_targets, .ref a_trial_labels]))], [(a_trial_labels, .inl (G 0, 32, .inl trial_labels_52))]]) hx hb hE hP hN hS 2 rfl hi e_trial_labels_52 rfl dX4_advance_52 (fun H locs hP hS => ?_)
          obtain ⟨v2_53, e_v2_53, hf⟩ := lt_some hf
          refine lv_iinc (v := v2_53) (lv' := [(2, .int v2_53), (0, .ref h), (1, .int v1)]) hx hb dX4_advance_53 hl (k := 2) rfl (by rw [e_v2_53]; rfl) (by decide) rfl (fun ls hl => ?_)
          refine lv_goto (tgt := 10) hx hb dX4_advance_56 (by decide) ?_
          exact ih_10 v2_53 trial_labels_52 H locs ls hP hS (lv_sub hl [1, 2, 0] rfl) hf
        · have hf := it_neg c_26 hf
          exact J29 v2 trial_labels  H locs ls  hP hS (lv_sub hl [0, 2] rfl) hf
  rw [f_X4_advance] at hf
  obtain ⟨H, hH⟩ : ∃ H : Heap, H = s.heap := ⟨_, rfl⟩
  obtain ⟨locs, hlocs⟩ : ∃ locs : List Loc, locs = [] := ⟨_, rfl⟩
  have hP : xW D aa [[(h, .inr (4, [.ref h_trial, .ref h_natural, .ref h_trialPeaks, .ref a_found, .int foundSteps]))], [(h_trial, .inr (3, [.int trial_objects, .ref a_trial_words, .int trial_steps, .ref a_trial_sources, .ref a_trial_targets, .ref a_trial_labels]))], [(a_trial_labels, .inl (G 0, 32, .inl trial_labels))]] H := by rw [hH]; exact hP
  have hS : va_S (xA aa) s.heap H locs := by rw [hH, hlocs]; exact hS
  suffices GO : W p l e (rM 0 0) s m args below meth c H locs 0 0 Q (F0 m 0 ls []) by
    rw [hH, hlocs] at GO
    exact GO
  clear hH hlocs
  refine lv_aload_n hx hb dX4_advance_0 rfl (lv_at hl 0 rfl) ?_
  refine x_get hx hb hts u_X4_advance_X4 hown hE hP 0 rfl rfl 0 (by decide) (hts (.fieldLink RX4 12 "DecreasingDiagrams$LabellingSearch" "trial" "LDecreasingDiagrams$LabelledSystem;") (List.mem_of_getElem? (i := 1) rfl)) rfl dX4_advance_1 ?_
  refine x_getN hx hb hts u_X4_advance_X3 hown hE hP 1 rfl rfl 2 (by decide) (hE.2 (.fieldLinkNest RX4 60 "DecreasingDiagrams$LabelledSystem" "steps" "I" RX11) (List.mem_of_getElem? (i := 9) rfl)) rfl dX4_advance_4 ?_
  refine lv_iconst (v := 1) hx hb dX4_advance_7 (by decide) ?_
  refine lv_isub hx hb dX4_advance_8 ?_
  obtain ⟨v2_9, e_v2_9, hf⟩ := lt_some hf
  refine x_istore_n (v := v2_9) (lv' := [(2, .int v2_9), (0, .ref h), (1, .int v1)]) hx hb dX4_advance_9 e_v2_9 rfl hl (by decide) rfl (fun ls hl => ?_)
  exact L10    fuel v2_9 trial_labels H locs ls hP hS (lv_sub hl [1, 2, 0] rfl) hf

set_option maxRecDepth 20000 in
theorem u_X4_findFirst_X4 : ∀ w ∈ wsX40, w ∈ wsX4_findFirst := xx_pl _ [54, 55, 56, 57, 58] (by decide +kernel)
set_option maxRecDepth 20000 in
theorem u_X4_findFirst_X3 : ∀ w ∈ wsX30, w ∈ wsX4_findFirst := xx_pl _ [59, 60, 61, 62, 63, 64] (by decide +kernel)
def f_X4_findFirst_J36  (found : (Nat → Int32)) (foundSteps : Int32) (trialPeaks_count : Int32) (trialPeaks_firsts : (Nat → Int32)) (trialPeaks_seconds : (Nat → Int32)) (trial_labels : (Nat → Int32)) (trial_objects : Int32) (trial_sources : (Nat → Int32)) (trial_steps : Int32) (trial_targets : (Nat → Int32)) (trial_words : (Nat → Int32)) : Option (Int32 × (Nat → Int32) × Int32 × Int32 × (Nat → Int32) × (Nat → Int32) × (Nat → Int32) × Int32 × (Nat → Int32) × Int32 × (Nat → Int32) × (Nat → Int32)) :=
  lt (va_cpy trial_labels found 0 0 8) (fun found_51 => lt trial_steps (fun foundSteps_62 => some (1, found_51, foundSteps_62, trialPeaks_count, trialPeaks_firsts, trialPeaks_seconds, trial_labels, trial_objects, trial_sources, trial_steps, trial_targets, trial_words)))
def f_X4_findFirst_L10 (foundSteps : Int32) (trial_objects : Int32) (trial_steps : Int32) (trialPeaks_count : Int32) (found : (Nat → Int32)) (natural_below : (Nat → Int32)) (trial_sources : (Nat → Int32)) (trial_targets : (Nat → Int32)) (trial_words : (Nat → Int32)) (trialPeaks_firsts : (Nat → Int32)) (trialPeaks_seconds : (Nat → Int32)) (v2 : Int32) (v3 : Int32) (rec_10 : Int32 → (Nat → Int32) → Option (Int32 × (Nat → Int32) × Int32 × Int32 × (Nat → Int32) × (Nat → Int32) × (Nat → Int32) × Int32 × (Nat → Int32) × Int32 × (Nat → Int32) × (Nat → Int32))) (v4 : Int32) (trial_labels : (Nat → Int32)) : Option (Int32 × (Nat → Int32) × Int32 × Int32 × (Nat → Int32) × (Nat → Int32) × (Nat → Int32) × Int32 × (Nat → Int32) × Int32 × (Nat → Int32) × (Nat → Int32)) :=
  if v3 ≤ v4 then (some (0, found, foundSteps, trialPeaks_count, trialPeaks_firsts, trialPeaks_seconds, trial_labels, trial_objects, trial_sources, trial_steps, trial_targets, trial_words)) else ((f_X7_firstFailing trial_objects trial_steps trialPeaks_count trial_labels trial_sources trial_targets natural_below trialPeaks_firsts trialPeaks_seconds).bind (fun r_28 => if ¬ r_28 = (-2) then ((f_X4_advance trial_steps trial_labels v2).bind (fun r_69 => lt (v4 + 1) (fun v4_72 => rec_10 v4_72 r_69))) else (f_X4_findFirst_J36 found foundSteps trialPeaks_count trialPeaks_firsts trialPeaks_seconds trial_labels trial_objects trial_sources trial_steps trial_targets trial_words)))
def f_X4_findFirst (p1_objects : Int32) (p1_steps : Int32) (foundSteps : Int32) (p1_labels : (Nat → Int32)) (p1_sources : (Nat → Int32)) (p1_targets : (Nat → Int32)) (p1_words : (Nat → Int32)) (found : (Nat → Int32)) (natural_below : (Nat → Int32)) (trial_labels : (Nat → Int32)) (trial_sources : (Nat → Int32)) (trial_targets : (Nat → Int32)) (trial_words : (Nat → Int32)) (trialPeaks_firsts : (Nat → Int32)) (trialPeaks_seconds : (Nat → Int32)) (v2 : Int32) : Option (Int32 × (Nat → Int32) × Int32 × Int32 × (Nat → Int32) × (Nat → Int32) × (Nat → Int32) × Int32 × (Nat → Int32) × Int32 × (Nat → Int32) × (Nat → Int32)) :=
  (f_X4_begin p1_objects p1_steps p1_labels p1_sources p1_targets p1_words trial_labels trial_sources trial_targets trial_words trialPeaks_firsts trialPeaks_seconds v2).bind (fun r_3 => lt r_3.1 (fun v3_6 => lt 0 (fun v4_8 => lp (τ := Int32 → (Nat → Int32) → Option (Int32 × (Nat → Int32) × Int32 × Int32 × (Nat → Int32) × (Nat → Int32) × (Nat → Int32) × Int32 × (Nat → Int32) × Int32 × (Nat → Int32) × (Nat → Int32))) (fun _ _ => none) (f_X4_findFirst_L10 foundSteps r_3.2.2.2.2.2.1 r_3.2.2.2.2.2.2.2.1 r_3.2.1 found natural_below r_3.2.2.2.2.2.2.1 r_3.2.2.2.2.2.2.2.2.1 r_3.2.2.2.2.2.2.2.2.2 r_3.2.2.1 r_3.2.2.2.1 v2 v3_6) fuel v4_8 r_3.2.2.2.2.1)))
set_option maxHeartbeats 4000000 in
set_option maxRecDepth 100000 in
theorem k_X4_findFirst (l : Launch) (D : va_G) (G : Nat → ClassId) (h : Nat) (h_p1 : Nat) (a_p1_words : Nat) (a_p1_sources : Nat) (a_p1_targets : Nat) (a_p1_labels : Nat) (h_trial : Nat) (h_natural : Nat) (h_trialPeaks : Nat) (a_found : Nat) (a_natural_pairs : Nat) (a_natural_below : Nat) (a_trial_words : Nat) (a_trial_sources : Nat) (a_trial_targets : Nat) (a_trial_labels : Nat) (a_trialPeaks_firsts : Nat) (a_trialPeaks_seconds : Nat) (p1_objects : Int32) (p1_steps : Int32) (foundSteps : Int32) (trial_objects : Int32) (trial_steps : Int32) (trialPeaks_count : Int32) (p1_labels : (Nat → Int32)) (p1_sources : (Nat → Int32)) (p1_targets : (Nat → Int32)) (p1_words : (Nat → Int32)) (found : (Nat → Int32)) (natural_below : (Nat → Int32)) (trial_labels : (Nat → Int32)) (trial_sources : (Nat → Int32)) (trial_targets : (Nat → Int32)) (trial_words : (Nat → Int32)) (trialPeaks_firsts : (Nat → Int32)) (trialPeaks_seconds : (Nat → Int32))  (v2 : Int32) (out : Int32 × (Nat → Int32) × Int32 × Int32 × (Nat → Int32) × (Nat → Int32) × (Nat → Int32) × Int32 × (Nat → Int32) × Int32 × (Nat → Int32) × (Nat → Int32)) (hf : f_X4_findFirst p1_objects p1_steps foundSteps p1_labels p1_sources p1_targets p1_words found natural_below trial_labels trial_sources trial_targets trial_words trialPeaks_firsts trialPeaks_seconds v2 = some out) : xMet l yX4_findFirst wsX4_findFirst (rM 5 125) D G [.ref h, .ref h_p1, .int v2] [[(h_p1, .inr (3, [.int p1_objects, .ref a_p1_words, .int p1_steps, .ref a_p1_sources, .ref a_p1_targets, .ref a_p1_labels]))], [(a_p1_labels, .inl (G 0, 32, .inl p1_labels))], [(a_p1_sources, .inl (G 0, 32, .inl p1_sources))], [(a_p1_targets, .inl (G 0, 32, .inl p1_targets))], [(a_p1_words, .inl (G 0, 16, .inl p1_words))], [(h, .inr (4, [.ref h_trial, .ref h_natural, .ref h_trialPeaks, .ref a_found, .int foundSteps]))], [(a_found, .inl (G 0, 8, .inl found))], [(h_natural, .inr (2, [.ref a_natural_pairs, .ref a_natural_below]))], [(a_natural_below, .inl (G 0, 8, .inl natural_below))], [(h_trial, .inr (3, [.int trial_objects, .ref a_trial_words, .int trial_steps, .ref a_trial_sources, .ref a_trial_targets, .ref a_trial_labels]))], [(a_trial_labels, .inl (G 0, 32, .inl trial_labels))], [(a_trial_sources, .inl (G 0, 32, .inl trial_sources))], [(a_trial_targets, .inl (G 0, 32, .inl trial_targets))], [(a_trial_words, .inl (G 0, 16, .inl trial_words))], [(h_trialPeaks, .inr (7, [.int trialPeaks_count, .ref a_trialPeaks_firsts, .ref a_trialPeaks_seconds]))], [(a_trialPeaks_firsts, .inl (G 0, 496, .inl trialPeaks_firsts))], [(a_trialPeaks_seconds, .inl (G 0, 496, .inl trialPeaks_seconds))]] (xQi D [[(h_p1, .inr (3, [.int p1_objects, .ref a_p1_words, .int p1_steps, .ref a_p1_sources, .ref a_p1_targets, .ref a_p1_labels]))], [(a_p1_labels, .inl (G 0, 32, .inl p1_labels))], [(a_p1_sources, .inl (G 0, 32, .inl p1_sources))], [(a_p1_targets, .inl (G 0, 32, .inl p1_targets))], [(a_p1_words, .inl (G 0, 16, .inl p1_words))], [(h, .inr (4, [.ref h_trial, .ref h_natural, .ref h_trialPeaks, .ref a_found, .int out.2.2.1]))], [(a_found, .inl (G 0, 8, .inl out.2.1))], [(h_natural, .inr (2, [.ref a_natural_pairs, .ref a_natural_below]))], [(a_natural_below, .inl (G 0, 8, .inl natural_below))], [(h_trial, .inr (3, [.int out.2.2.2.2.2.2.2.1, .ref a_trial_words, .int out.2.2.2.2.2.2.2.2.2.1, .ref a_trial_sources, .ref a_trial_targets, .ref a_trial_labels]))], [(a_trial_labels, .inl (G 0, 32, .inl out.2.2.2.2.2.2.1))], [(a_trial_sources, .inl (G 0, 32, .inl out.2.2.2.2.2.2.2.2.1))], [(a_trial_targets, .inl (G 0, 32, .inl out.2.2.2.2.2.2.2.2.2.2.1))], [(a_trial_words, .inl (G 0, 16, .inl out.2.2.2.2.2.2.2.2.2.2.2))], [(h_trialPeaks, .inr (7, [.int out.2.2.2.1, .ref a_trialPeaks_firsts, .ref a_trialPeaks_seconds]))], [(a_trialPeaks_firsts, .inl (G 0, 496, .inl out.2.2.2.2.1))], [(a_trialPeaks_seconds, .inl (G 0, 496, .inl out.2.2.2.2.2.1))]] out.1) := by
  refine x_ent (cc := cX4_findFirst) (maxL := 5) (by decide) rfl (Nat.le_of_ble_eq_true rfl) ?_
  intro p e s m below meth c aa ls args Q hQ hx hb hr hml hown hts hlocks hE hN hP hl hS
  have hown : s.vm.findClass RX4 = some m.cls := hown
  have hl : lv_has ls 5 [(0, .ref h), (1, .ref h_p1), (2, .int v2)] := hl
  have J36 : ∀ (found : (Nat → Int32)) (foundSteps : Int32) (trialPeaks_count : Int32) (trialPeaks_firsts : (Nat → Int32)) (trialPeaks_seconds : (Nat → Int32)) (trial_labels : (Nat → Int32)) (trial_objects : Int32) (trial_sources : (Nat → Int32)) (trial_steps : Int32) (trial_targets : (Nat → Int32)) (trial_words : (Nat → Int32)) (H : Heap) (locs : List Loc) (ls : Array Slot), xW D aa [[(h_p1, .inr (3, [.int p1_objects, .ref a_p1_words, .int p1_steps, .ref a_p1_sources, .ref a_p1_targets, .ref a_p1_labels]))], [(a_p1_labels, .inl (G 0, 32, .inl p1_labels))], [(a_p1_sources, .inl (G 0, 32, .inl p1_sources))], [(a_p1_targets, .inl (G 0, 32, .inl p1_targets))], [(a_p1_words, .inl (G 0, 16, .inl p1_words))], [(h, .inr (4, [.ref h_trial, .ref h_natural, .ref h_trialPeaks, .ref a_found, .int foundSteps]))], [(a_found, .inl (G 0, 8, .inl found))], [(h_natural, .inr (2, [.ref a_natural_pairs, .ref a_natural_below]))], [(a_natural_below, .inl (G 0, 8, .inl natural_below))], [(h_trial, .inr (3, [.int trial_objects, .ref a_trial_words, .int trial_steps, .ref a_trial_sources, .ref a_trial_targets, .ref a_trial_labels]))], [(a_trial_labels, .inl (G 0, 32, .inl trial_labels))], [(a_trial_sources, .inl (G 0, 32, .inl trial_sources))], [(a_trial_targets, .inl (G 0, 32, .inl trial_targets))], [(a_trial_words, .inl (G 0, 16, .inl trial_words))], [(h_trialPeaks, .inr (7, [.int trialPeaks_count, .ref a_trialPeaks_firsts, .ref a_trialPeaks_seconds]))], [(a_trialPeaks_firsts, .inl (G 0, 496, .inl trialPeaks_firsts))], [(a_trialPeaks_seconds, .inl (G 0, 496, .inl trialPeaks_seconds))]] H → va_S (xA aa) s.heap H locs → lv_has ls 5 [(0, .ref h)] → f_X4_findFirst_J36  found foundSteps trialPeaks_count trialPeaks_firsts trialPeaks_seconds trial_labels trial_objects trial_sources trial_steps trial_targets trial_words = some out → W p l e (rM 5 125) s m args below meth c H locs 0 0 Q (F0 m 36 ls []) := by
    intro found foundSteps trialPeaks_count trialPeaks_firsts trialPeaks_seconds trial_labels trial_objects trial_sources trial_steps trial_targets trial_words  H locs ls  hP hS hl hf
    rw [f_X4_findFirst_J36] at hf
    refine lv_aload_n hx hb dX4_findFirst_36 rfl (lv_at hl 0 rfl) ?_
    refine x_get hx hb hts u_X4_findFirst_X4 hown hE hP 5 rfl rfl 0 (by decide) (hts (.fieldLink RX4 12 "DecreasingDiagrams$LabellingSearch" "trial" "LDecreasingDiagrams$LabelledSystem;") (List.mem_of_getElem? (i := 2) rfl)) rfl dX4_findFirst_37 ?_
    refine x_getN hx hb hts u_X4_findFirst_X3 hown hE hP 9 rfl rfl 5 (by decide) (hE.2 (.fieldLinkNest RX4 51 "DecreasingDiagrams$LabelledSystem" "labels" "[I" RX11) (List.mem_of_getElem? (i := 19) rfl)) rfl dX4_findFirst_40 ?_
    refine lv_iconst (v := 0) hx hb dX4_findFirst_43 (by decide) ?_
    refine lv_aload_n hx hb dX4_findFirst_44 rfl (lv_at hl 0 rfl) ?_
    refine x_get hx hb hts u_X4_findFirst_X4 hown hE hP 5 rfl rfl 3 (by decide) (hts (.fieldLink RX4 32 "DecreasingDiagrams$LabellingSearch" "found" "[I") (List.mem_of_getElem? (i := 4) rfl)) rfl dX4_findFirst_45 ?_
    refine lv_iconst (v := 0) hx hb dX4_findFirst_48 (by decide) ?_
    refine lv_bipush (v := 8) hx hb dX4_findFirst_49 (by decide) ?_
    obtain ⟨found_51, e_found_51, hf⟩ := lt_some hf
    refine x_copyi (I' := [[(h_p1, .inr (3, [.int p1_objects, .ref a_p1_words, .int p1_steps, .ref a_p1_sources, .ref a_p1_targets, .ref a_p1_labels]))], [(a_p1_labels, .inl (G 0, 32, .inl p1_labels))], [(a_p1_sources, .inl (G 0, 32, .inl p1_sources))], [(a_p1_targets, .inl (G 0, 32, .inl p1_targets))], [(a_p1_words, .inl (G 0, 16, .inl p1_words))], [(h, .inr (4, [.ref h_trial, .ref h_natural, .ref h_trialPeaks, .ref a_found, .int foundSteps]))], [(a_found, .inl (G 0, 8, .inl found_51))], [(h_natural, .inr (2, [.ref a_natural_pairs, .ref a_natural_below]))], [(a_natural_below, .inl (G 0, 8, .inl natural_below))], [(h_trial, .inr (3, [.int trial_objects, .ref a_trial_words, .int trial_steps, .ref a_trial_sources, .ref a_trial_targets, .ref a_trial_labels]))], [(a_trial_labels, .inl (G 0, 32, .inl trial_labels))], [(a_trial_sources, .inl (G 0, 32, .inl trial_sources))], [(a_trial_targets, .inl (G 0, 32, .inl trial_targets))], [(a_trial_words, .inl (G 0, 16, .inl trial_words))], [(h_trialPeaks, .inr (7, [.int trialPeaks_count, .ref a_trialPeaks_firsts, .ref a_trialPeaks_seconds]))], [(a_trialPeaks_firsts, .inl (G 0, 496, .inl trialPeaks_firsts))], [(a_trialPeaks_seconds, .inl (G 0, 496, .inl trialPeaks_seconds))]]) hx hb (hml.trans hl.1.symm) hown (hts (.methodLink RX4 54 arraycopyName) (List.mem_of_getElem? (i := 5) rfl)) (hts (.native arraycopyName) (List.mem_of_getElem? (i := 6) rfl)) (hts (.static arraycopyName) (List.mem_of_getElem? (i := 7) rfl)) (hts (.initialized RJ10) (List.mem_of_getElem? (i := 8) rfl)) hE hP hN hS 10 6 rfl rfl (by decide) (by decide) (by decide) (by decide) (by decide) (by decide) (by decide) (by rw [e_found_51]; rfl) rfl dX4_findFirst_51 (fun H locs hP hS => ?_)
    refine lv_aload_n hx hb dX4_findFirst_54 rfl (lv_at hl 0 rfl) ?_
    refine lv_aload_n hx hb dX4_findFirst_55 rfl (lv_at hl 0 rfl) ?_
    refine x_get hx hb hts u_X4_findFirst_X4 hown hE hP 5 rfl rfl 0 (by decide) (hts (.fieldLink RX4 12 "DecreasingDiagrams$LabellingSearch" "trial" "LDecreasingDiagrams$LabelledSystem;") (List.mem_of_getElem? (i := 2) rfl)) rfl dX4_findFirst_56 ?_
    refine x_getN hx hb hts u_X4_findFirst_X3 hown hE hP 9 rfl rfl 2 (by decide) (hE.2 (.fieldLinkNest RX4 60 "DecreasingDiagrams$LabelledSystem" "steps" "I" RX11) (List.mem_of_getElem? (i := 9) rfl)) rfl dX4_findFirst_59 ?_
    obtain ⟨foundSteps_62, e_foundSteps_62, hf⟩ := lt_some hf
    refine x_put (w := .int foundSteps_62) (ty := .int) (I' := [[(h_p1, .inr (3, [.int p1_objects, .ref a_p1_words, .int p1_steps, .ref a_p1_sources, .ref a_p1_targets, .ref a_p1_labels]))], [(a_p1_labels, .inl (G 0, 32, .inl p1_labels))], [(a_p1_sources, .inl (G 0, 32, .inl p1_sources))], [(a_p1_targets, .inl (G 0, 32, .inl p1_targets))], [(a_p1_words, .inl (G 0, 16, .inl p1_words))], [(h, .inr (4, [.ref h_trial, .ref h_natural, .ref h_trialPeaks, .ref a_found, .int foundSteps_62]))], [(a_found, .inl (G 0, 8, .inl found_51))], [(h_natural, .inr (2, [.ref a_natural_pairs, .ref a_natural_below]))], [(a_natural_below, .inl (G 0, 8, .inl natural_below))], [(h_trial, .inr (3, [.int trial_objects, .ref a_trial_words, .int trial_steps, .ref a_trial_sources, .ref a_trial_targets, .ref a_trial_labels]))], [(a_trial_labels, .inl (G 0, 32, .inl trial_labels))], [(a_trial_sources, .inl (G 0, 32, .inl trial_sources))], [(a_trial_targets, .inl (G 0, 32, .inl trial_targets))], [(a_trial_words, .inl (G 0, 16, .inl trial_words))], [(h_trialPeaks, .inr (7, [.int trialPeaks_count, .ref a_trialPeaks_firsts, .ref a_trialPeaks_seconds]))], [(a_trialPeaks_firsts, .inl (G 0, 496, .inl trialPeaks_firsts))], [(a_trialPeaks_seconds, .inl (G 0, 496, .inl trialPeaks_seconds))]]) hx hb hts u_X4_findFirst_X4 tyX4 tyX4_ok nmX4 hown hE hP hN hS 5 rfl rfl 4 (by decide) (hts (.fieldLink RX4 36 "DecreasingDiagrams$LabellingSearch" "foundSteps" "I") (List.mem_of_getElem? (i := 9) rfl)) rfl (congrArg Value.int e_foundSteps_62) (by decide +kernel) rfl rfl (Nat.le_of_ble_eq_true rfl) rfl dX4_findFirst_62 (fun H locs hP hS => ?_)
    refine lv_iconst (v := 1) hx hb dX4_findFirst_65 (by decide) ?_
    have hf := Option.some.inj hf
    subst hf
    subst hQ
    exact x_zret hx hb hr hlocks rfl hP hS dX4_findFirst_66
  have L10 : ∀ (v3 : Int32) (found : (Nat → Int32)) (foundSteps : Int32) (trialPeaks_count : Int32) (trialPeaks_firsts : (Nat → Int32)) (trialPeaks_seconds : (Nat → Int32)) (trial_objects : Int32) (trial_sources : (Nat → Int32)) (trial_steps : Int32) (trial_targets : (Nat → Int32)) (trial_words : (Nat → Int32)), ∀ (n_10 : Nat) (v4 : Int32) (trial_labels : (Nat → Int32)) (H : Heap) (locs : List Loc) (ls : Array Slot), xW D aa [[(h_p1, .inr (3, [.int p1_objects, .ref a_p1_words, .int p1_steps, .ref a_p1_sources, .ref a_p1_targets, .ref a_p1_labels]))], [(a_p1_labels, .inl (G 0, 32, .inl p1_labels))], [(a_p1_sources, .inl (G 0, 32, .inl p1_sources))], [(a_p1_targets, .inl (G 0, 32, .inl p1_targets))], [(a_p1_words, .inl (G 0, 16, .inl p1_words))], [(h, .inr (4, [.ref h_trial, .ref h_natural, .ref h_trialPeaks, .ref a_found, .int foundSteps]))], [(a_found, .inl (G 0, 8, .inl found))], [(h_natural, .inr (2, [.ref a_natural_pairs, .ref a_natural_below]))], [(a_natural_below, .inl (G 0, 8, .inl natural_below))], [(h_trial, .inr (3, [.int trial_objects, .ref a_trial_words, .int trial_steps, .ref a_trial_sources, .ref a_trial_targets, .ref a_trial_labels]))], [(a_trial_labels, .inl (G 0, 32, .inl trial_labels))], [(a_trial_sources, .inl (G 0, 32, .inl trial_sources))], [(a_trial_targets, .inl (G 0, 32, .inl trial_targets))], [(a_trial_words, .inl (G 0, 16, .inl trial_words))], [(h_trialPeaks, .inr (7, [.int trialPeaks_count, .ref a_trialPeaks_firsts, .ref a_trialPeaks_seconds]))], [(a_trialPeaks_firsts, .inl (G 0, 496, .inl trialPeaks_firsts))], [(a_trialPeaks_seconds, .inl (G 0, 496, .inl trialPeaks_seconds))]] H → va_S (xA aa) s.heap H locs → lv_has ls 5 [(0, .ref h), (2, .int v2), (3, .int v3), (4, .int v4)] → lp (τ := Int32 → (Nat → Int32) → Option (Int32 × (Nat → Int32) × Int32 × Int32 × (Nat → Int32) × (Nat → Int32) × (Nat → Int32) × Int32 × (Nat → Int32) × Int32 × (Nat → Int32) × (Nat → Int32))) (fun _ _ => none) (f_X4_findFirst_L10 foundSteps trial_objects trial_steps trialPeaks_count found natural_below trial_sources trial_targets trial_words trialPeaks_firsts trialPeaks_seconds v2 v3) n_10 v4 trial_labels = some out → W p l e (rM 5 125) s m args below meth c H locs 0 0 Q (F0 m 10 ls []) := by
    intro v3 found foundSteps trialPeaks_count trialPeaks_firsts trialPeaks_seconds trial_objects trial_sources trial_steps trial_targets trial_words   n_10
    induction n_10 with
    | zero =>
      intro v4 trial_labels H locs ls hP hS hl hf
      exact no_some hf
    | succ n_10 ih_10 =>
      intro v4 trial_labels H locs ls hP hS hl hf
      have hf : f_X4_findFirst_L10 foundSteps trial_objects trial_steps trialPeaks_count found natural_below trial_sources trial_targets trial_words trialPeaks_firsts trialPeaks_seconds v2 v3 (lp (τ := Int32 → (Nat → Int32) → Option (Int32 × (Nat → Int32) × Int32 × Int32 × (Nat → Int32) × (Nat → Int32) × (Nat → Int32) × Int32 × (Nat → Int32) × Int32 × (Nat → Int32) × (Nat → Int32))) (fun _ _ => none) (f_X4_findFirst_L10 foundSteps trial_objects trial_steps trialPeaks_count found natural_below trial_sources trial_targets trial_words trialPeaks_firsts trialPeaks_seconds v2 v3) n_10) v4 trial_labels = some out := hf
      rw [f_X4_findFirst_L10] at hf
      refine lv_iload hx hb dX4_findFirst_10 (lv_at hl 3 rfl) ?_
      refine lv_iload_n hx hb dX4_findFirst_12 rfl (lv_at hl 2 rfl) ?_
      refine lv_icmp_ge (tgt := 78) hx hb dX4_findFirst_13 (by decide) (fun c_13 => ?_) (fun c_13 => ?_)
      · have hf := it_pos c_13 hf
        refine lv_iconst (v := 0) hx hb dX4_findFirst_78 (by decide) ?_
        have hf := Option.some.inj hf
        subst hf
        subst hQ
        exact x_zret hx hb hr hlocks rfl hP hS dX4_findFirst_79
      · have hf := it_neg c_13 hf
        refine lv_aload_n hx hb dX4_findFirst_16 rfl (lv_at hl 0 rfl) ?_
        refine x_get hx hb hts u_X4_findFirst_X4 hown hE hP 5 rfl rfl 2 (by decide) (hts (.fieldLink RX4 28 "DecreasingDiagrams$LabellingSearch" "trialPeaks" "LDecreasingDiagrams$Peaks;") (List.mem_of_getElem? (i := 1) rfl)) rfl dX4_findFirst_17 ?_
        refine lv_aload_n hx hb dX4_findFirst_20 rfl (lv_at hl 0 rfl) ?_
        refine x_get hx hb hts u_X4_findFirst_X4 hown hE hP 5 rfl rfl 0 (by decide) (hts (.fieldLink RX4 12 "DecreasingDiagrams$LabellingSearch" "trial" "LDecreasingDiagrams$LabelledSystem;") (List.mem_of_getElem? (i := 2) rfl)) rfl dX4_findFirst_21 ?_
        refine lv_aload_n hx hb dX4_findFirst_24 rfl (lv_at hl 0 rfl) ?_
        refine x_get hx hb hts u_X4_findFirst_X4 hown hE hP 5 rfl rfl 1 (by decide) (hts (.fieldLink RX4 21 "DecreasingDiagrams$LabellingSearch" "natural" "LDecreasingDiagrams$LabelOrder;") (List.mem_of_getElem? (i := 3) rfl)) rfl dX4_findFirst_25 ?_
        obtain ⟨r_28, hr_28, hf⟩ := bd_some hf
        refine x_goi (ps := [9, 10, 11, 12, 7, 8, 14, 15, 16]) (I' := [[(h_p1, .inr (3, [.int p1_objects, .ref a_p1_words, .int p1_steps, .ref a_p1_sources, .ref a_p1_targets, .ref a_p1_labels]))], [(a_p1_labels, .inl (G 0, 32, .inl p1_labels))], [(a_p1_sources, .inl (G 0, 32, .inl p1_sources))], [(a_p1_targets, .inl (G 0, 32, .inl p1_targets))], [(a_p1_words, .inl (G 0, 16, .inl p1_words))], [(h, .inr (4, [.ref h_trial, .ref h_natural, .ref h_trialPeaks, .ref a_found, .int foundSteps]))], [(a_found, .inl (G 0, 8, .inl found))], [(h_natural, .inr (2, [.ref a_natural_pairs, .ref a_natural_below]))], [(a_natural_below, .inl (G 0, 8, .inl natural_below))], [(h_trial, .inr (3, [.int trial_objects, .ref a_trial_words, .int trial_steps, .ref a_trial_sources, .ref a_trial_targets, .ref a_trial_labels]))], [(a_trial_labels, .inl (G 0, 32, .inl trial_labels))], [(a_trial_sources, .inl (G 0, 32, .inl trial_sources))], [(a_trial_targets, .inl (G 0, 32, .inl trial_targets))], [(a_trial_words, .inl (G 0, 16, .inl trial_words))], [(h_trialPeaks, .inr (7, [.int trialPeaks_count, .ref a_trialPeaks_firsts, .ref a_trialPeaks_seconds]))], [(a_trialPeaks_firsts, .inl (G 0, 496, .inl trialPeaks_firsts))], [(a_trialPeaks_seconds, .inl (G 0, 496, .inl trialPeaks_seconds))]]) (x_runVN (As := [.ref h_trial, .ref h_natural]) (rest := []) (ps := [9, 10, 11, 12, 7, 8, 14, 15, 16]) ⟨hx, hb, hml, hown, hts⟩ (k_X7_firstFailing l D G h_trialPeaks h_trial h_natural a_trial_words a_trial_sources a_trial_targets a_trial_labels a_natural_pairs a_natural_below a_trialPeaks_firsts a_trialPeaks_seconds trial_objects trial_steps trialPeaks_count trial_labels trial_sources trial_targets natural_below trialPeaks_firsts trialPeaks_seconds r_28 hr_28) ⟨va_cnB 2 hts gX4_findFirst_X7_firstFailing_n47 rfl rfl rfl (hE.2 (.methodLinkNest RX4 47 yX7_firstFailing RX11) (List.mem_of_getElem? (i := 90) rfl)) (hts (.initialized RX7) (List.mem_of_getElem? (i := 27) rfl)) (by decide +kernel) ⟨Nat.le_of_ble_eq_true rfl, Nat.le_of_ble_eq_true rfl⟩, (hts (.instanceMethod yX7_firstFailing) (List.mem_of_getElem? (i := 33) rfl)), (hts (.selects RX7 yX7_firstFailing yX7_firstFailing) (List.mem_of_getElem? (i := 34) rfl))⟩ hE hP hN rfl (by decide) 14 rfl rfl rfl hl.1 (Nat.le_of_ble_eq_true rfl) dX4_findFirst_28 ⟨Nat.zero_le _, Nat.zero_le _⟩) hP hN hS rfl rfl (fun H locs hP hS => ?_)
        refine lv_bipush (v := -2) hx hb dX4_findFirst_31 (by decide) ?_
        refine lv_icmp_ne (tgt := 67) hx hb dX4_findFirst_33 (by decide) (fun c_33 => ?_) (fun c_33 => ?_)
        · have hf := it_pos c_33 hf
          refine lv_aload_n hx hb dX4_findFirst_67 rfl (lv_at hl 0 rfl) ?_
          refine lv_iload_n hx hb dX4_findFirst_68 rfl (lv_at hl 1 rfl) ?_
          obtain ⟨r_69, hr_69, hf⟩ := bd_some hf
          refine x_gov (ps := [5, 9, 10]) (I' := [[(h_p1, .inr (3, [.int p1_objects, .ref a_p1_words, .int p1_steps, .ref a_p1_sources, .ref a_p1_targets, .ref a_p1_labels]))], [(a_p1_labels, .inl (G 0, 32, .inl p1_labels))], [(a_p1_sources, .inl (G 0, 32, .inl p1_sources))], [(a_p1_targets, .inl (G 0, 32, .inl p1_targets))], [(a_p1_words, .inl (G 0, 16, .inl p1_words))], [(h, .inr (4, [.ref h_trial, .ref h_natural, .ref h_trialPeaks, .ref a_found, .int foundSteps]))], [(a_found, .inl (G 0, 8, .inl found))], [(h_natural, .inr (2, [.ref a_natural_pairs, .ref a_natural_below]))], [(a_natural_below, .inl (G 0, 8, .inl natural_below))], [(h_trial, .inr (3, [.int trial_objects, .ref a_trial_words, .int trial_steps, .ref a_trial_sources, .ref a_trial_targets, .ref a_trial_labels]))], [(a_trial_labels, .inl (G 0, 32, .inl r_69))], [(a_trial_sources, .inl (G 0, 32, .inl trial_sources))], [(a_trial_targets, .inl (G 0, 32, .inl trial_targets))], [(a_trial_words, .inl (G 0, 16, .inl trial_words))], [(h_trialPeaks, .inr (7, [.int trialPeaks_count, .ref a_trialPeaks_firsts, .ref a_trialPeaks_seconds]))], [(a_trialPeaks_firsts, .inl (G 0, 496, .inl trialPeaks_firsts))], [(a_trialPeaks_seconds, .inl (G 0, 496, .inl trialPeaks_seconds))]]) (x_runV (As := [.int v2]) (rest := []) (ps := [5, 9, 10]) ⟨hx, hb, hml, hown, hts⟩ (k_X4_advance l D G h h_trial h_natural h_trialPeaks a_found a_trial_words a_trial_sources a_trial_targets a_trial_labels foundSteps trial_objects trial_steps trial_labels v2 r_69 hr_69) (cwV 1 hts gX4_findFirst_X4_advance rfl rfl rfl (by decide +kernel) ⟨Nat.le_of_ble_eq_true rfl, Nat.le_of_ble_eq_true rfl⟩) hE hP hN rfl (by decide) 5 rfl rfl rfl hl.1 (Nat.le_of_ble_eq_true rfl) dX4_findFirst_69 ⟨Nat.zero_le _, Nat.zero_le _⟩) hP hN hS rfl rfl (fun H locs hP hS => ?_)
          obtain ⟨v4_72, e_v4_72, hf⟩ := lt_some hf
          refine lv_iinc (v := v4_72) (lv' := [(4, .int v4_72), (0, .ref h), (2, .int v2), (3, .int v3)]) hx hb dX4_findFirst_72 hl (k := 3) rfl (by rw [e_v4_72]; rfl) (by decide) rfl (fun ls hl => ?_)
          refine lv_goto (tgt := 10) hx hb dX4_findFirst_75 (by decide) ?_
          exact ih_10 v4_72 r_69 H locs ls hP hS (lv_sub hl [1, 2, 3, 0] rfl) hf
        · have hf := it_neg (fun h => h c_33) hf
          exact J36 found foundSteps trialPeaks_count trialPeaks_firsts trialPeaks_seconds trial_labels trial_objects trial_sources trial_steps trial_targets trial_words  H locs ls  hP hS (lv_sub hl [0] rfl) hf
  rw [f_X4_findFirst] at hf
  obtain ⟨H, hH⟩ : ∃ H : Heap, H = s.heap := ⟨_, rfl⟩
  obtain ⟨locs, hlocs⟩ : ∃ locs : List Loc, locs = [] := ⟨_, rfl⟩
  have hP : xW D aa [[(h_p1, .inr (3, [.int p1_objects, .ref a_p1_words, .int p1_steps, .ref a_p1_sources, .ref a_p1_targets, .ref a_p1_labels]))], [(a_p1_labels, .inl (G 0, 32, .inl p1_labels))], [(a_p1_sources, .inl (G 0, 32, .inl p1_sources))], [(a_p1_targets, .inl (G 0, 32, .inl p1_targets))], [(a_p1_words, .inl (G 0, 16, .inl p1_words))], [(h, .inr (4, [.ref h_trial, .ref h_natural, .ref h_trialPeaks, .ref a_found, .int foundSteps]))], [(a_found, .inl (G 0, 8, .inl found))], [(h_natural, .inr (2, [.ref a_natural_pairs, .ref a_natural_below]))], [(a_natural_below, .inl (G 0, 8, .inl natural_below))], [(h_trial, .inr (3, [.int trial_objects, .ref a_trial_words, .int trial_steps, .ref a_trial_sources, .ref a_trial_targets, .ref a_trial_labels]))], [(a_trial_labels, .inl (G 0, 32, .inl trial_labels))], [(a_trial_sources, .inl (G 0, 32, .inl trial_sources))], [(a_trial_targets, .inl (G 0, 32, .inl trial_targets))], [(a_trial_words, .inl (G 0, 16, .inl trial_words))], [(h_trialPeaks, .inr (7, [.int trialPeaks_count, .ref a_trialPeaks_firsts, .ref a_trialPeaks_seconds]))], [(a_trialPeaks_firsts, .inl (G 0, 496, .inl trialPeaks_firsts))], [(a_trialPeaks_seconds, .inl (G 0, 496, .inl trialPeaks_seconds))]] H := by rw [hH]; exact hP
  have hS : va_S (xA aa) s.heap H locs := by rw [hH, hlocs]; exact hS
  suffices GO : W p l e (rM 5 125) s m args below meth c H locs 0 0 Q (F0 m 0 ls []) by
    rw [hH, hlocs] at GO
    exact GO
  clear hH hlocs
  refine lv_aload_n hx hb dX4_findFirst_0 rfl (lv_at hl 0 rfl) ?_
  refine lv_aload_n hx hb dX4_findFirst_1 rfl (lv_at hl 1 rfl) ?_
  refine lv_iload_n hx hb dX4_findFirst_2 rfl (lv_at hl 2 rfl) ?_
  obtain ⟨r_3, hr_3, hf⟩ := bd_some hf
  refine x_goi (ps := [0, 1, 2, 3, 4, 5, 9, 10, 11, 12, 13, 14, 15, 16]) (I' := [[(h_p1, .inr (3, [.int p1_objects, .ref a_p1_words, .int p1_steps, .ref a_p1_sources, .ref a_p1_targets, .ref a_p1_labels]))], [(a_p1_labels, .inl (G 0, 32, .inl p1_labels))], [(a_p1_sources, .inl (G 0, 32, .inl p1_sources))], [(a_p1_targets, .inl (G 0, 32, .inl p1_targets))], [(a_p1_words, .inl (G 0, 16, .inl p1_words))], [(h, .inr (4, [.ref h_trial, .ref h_natural, .ref h_trialPeaks, .ref a_found, .int foundSteps]))], [(a_found, .inl (G 0, 8, .inl found))], [(h_natural, .inr (2, [.ref a_natural_pairs, .ref a_natural_below]))], [(a_natural_below, .inl (G 0, 8, .inl natural_below))], [(h_trial, .inr (3, [.int r_3.2.2.2.2.2.1, .ref a_trial_words, .int r_3.2.2.2.2.2.2.2.1, .ref a_trial_sources, .ref a_trial_targets, .ref a_trial_labels]))], [(a_trial_labels, .inl (G 0, 32, .inl r_3.2.2.2.2.1))], [(a_trial_sources, .inl (G 0, 32, .inl r_3.2.2.2.2.2.2.1))], [(a_trial_targets, .inl (G 0, 32, .inl r_3.2.2.2.2.2.2.2.2.1))], [(a_trial_words, .inl (G 0, 16, .inl r_3.2.2.2.2.2.2.2.2.2))], [(h_trialPeaks, .inr (7, [.int r_3.2.1, .ref a_trialPeaks_firsts, .ref a_trialPeaks_seconds]))], [(a_trialPeaks_firsts, .inl (G 0, 496, .inl r_3.2.2.1))], [(a_trialPeaks_seconds, .inl (G 0, 496, .inl r_3.2.2.2.1))]]) (x_runV (As := [.ref h_p1, .int v2]) (rest := []) (ps := [0, 1, 2, 3, 4, 5, 9, 10, 11, 12, 13, 14, 15, 16]) ⟨hx, hb, hml, hown, hts⟩ (k_X4_begin l D G h h_p1 a_p1_words a_p1_sources a_p1_targets a_p1_labels h_trial h_natural h_trialPeaks a_found a_trial_words a_trial_sources a_trial_targets a_trial_labels a_trialPeaks_firsts a_trialPeaks_seconds p1_objects p1_steps foundSteps trial_objects trial_steps trialPeaks_count p1_labels p1_sources p1_targets p1_words trial_labels trial_sources trial_targets trial_words trialPeaks_firsts trialPeaks_seconds v2 r_3 hr_3) (cwV 2 hts gX4_findFirst_X4_begin rfl rfl rfl (by decide +kernel) ⟨Nat.le_of_ble_eq_true rfl, Nat.le_of_ble_eq_true rfl⟩) hE hP hN rfl (by decide) 5 rfl rfl rfl hl.1 (Nat.le_of_ble_eq_true rfl) dX4_findFirst_3 ⟨Nat.zero_le _, Nat.zero_le _⟩) hP hN hS rfl rfl (fun H locs hP hS => ?_)
  obtain ⟨v3_6, e_v3_6, hf⟩ := lt_some hf
  refine x_istore_n (v := v3_6) (lv' := [(3, .int v3_6), (0, .ref h), (1, .ref h_p1), (2, .int v2)]) hx hb dX4_findFirst_6 e_v3_6 rfl hl (by decide) rfl (fun ls hl => ?_)
  refine lv_iconst (v := 0) hx hb dX4_findFirst_7 (by decide) ?_
  obtain ⟨v4_8, e_v4_8, hf⟩ := lt_some hf
  refine x_istore (v := v4_8) (lv' := [(4, .int v4_8), (3, .int v3_6), (0, .ref h), (1, .ref h_p1), (2, .int v2)]) hx hb dX4_findFirst_8 e_v4_8 hl (by decide) rfl (fun ls hl => ?_)
  exact L10 v3_6 found foundSteps r_3.2.1 r_3.2.2.1 r_3.2.2.2.1 r_3.2.2.2.2.2.1 r_3.2.2.2.2.2.2.1 r_3.2.2.2.2.2.2.2.1 r_3.2.2.2.2.2.2.2.2.1 r_3.2.2.2.2.2.2.2.2.2   fuel v4_8 r_3.2.2.2.2.1 H locs ls hP hS (lv_sub hl [2, 4, 1, 0] rfl) hf

set_option maxRecDepth 20000 in
theorem u_X4_countAll_X4 : ∀ w ∈ wsX40, w ∈ wsX4_countAll := xx_pl _ [51, 52, 53, 54, 55] (by decide +kernel)
def f_X4_countAll_J42 (trial_steps : Int32) (v2 : Int32) (rec_13 : (Int32 → Int32 → (Nat → Int32) → Option (Int32 × Int32 × (Nat → Int32) × (Nat → Int32) × (Nat → Int32) × Int32 × (Nat → Int32) × Int32 × (Nat → Int32) × (Nat → Int32)))) (v4 : Int32) (v5 : Int32) (trial_labels : (Nat → Int32)) : Option (Int32 × Int32 × (Nat → Int32) × (Nat → Int32) × (Nat → Int32) × Int32 × (Nat → Int32) × Int32 × (Nat → Int32) × (Nat → Int32)) :=
  (f_X4_advance trial_steps trial_labels v2).bind (fun r_44 => lt (v5 + 1) (fun v5_47 => rec_13 v4 v5_47 r_44))
def f_X4_countAll_L13 (trial_objects : Int32) (trial_steps : Int32) (trialPeaks_count : Int32) (natural_below : (Nat → Int32)) (trial_sources : (Nat → Int32)) (trial_targets : (Nat → Int32)) (trial_words : (Nat → Int32)) (trialPeaks_firsts : (Nat → Int32)) (trialPeaks_seconds : (Nat → Int32)) (v2 : Int32) (v3 : Int32) (rec_13 : Int32 → Int32 → (Nat → Int32) → Option (Int32 × Int32 × (Nat → Int32) × (Nat → Int32) × (Nat → Int32) × Int32 × (Nat → Int32) × Int32 × (Nat → Int32) × (Nat → Int32))) (v4 : Int32) (v5 : Int32) (trial_labels : (Nat → Int32)) : Option (Int32 × Int32 × (Nat → Int32) × (Nat → Int32) × (Nat → Int32) × Int32 × (Nat → Int32) × Int32 × (Nat → Int32) × (Nat → Int32)) :=
  if v3 ≤ v5 then (some (v4, trialPeaks_count, trialPeaks_firsts, trialPeaks_seconds, trial_labels, trial_objects, trial_sources, trial_steps, trial_targets, trial_words)) else ((f_X7_firstFailing trial_objects trial_steps trialPeaks_count trial_labels trial_sources trial_targets natural_below trialPeaks_firsts trialPeaks_seconds).bind (fun r_31 => if ¬ r_31 = (-2) then (f_X4_countAll_J42 trial_steps v2 rec_13 v4 v5 trial_labels) else (lt (v4 + 1) (fun v4_39 => f_X4_countAll_J42 trial_steps v2 rec_13 v4_39 v5 trial_labels))))
def f_X4_countAll (p1_objects : Int32) (p1_steps : Int32) (p1_labels : (Nat → Int32)) (p1_sources : (Nat → Int32)) (p1_targets : (Nat → Int32)) (p1_words : (Nat → Int32)) (natural_below : (Nat → Int32)) (trial_labels : (Nat → Int32)) (trial_sources : (Nat → Int32)) (trial_targets : (Nat → Int32)) (trial_words : (Nat → Int32)) (trialPeaks_firsts : (Nat → Int32)) (trialPeaks_seconds : (Nat → Int32)) (v2 : Int32) : Option (Int32 × Int32 × (Nat → Int32) × (Nat → Int32) × (Nat → Int32) × Int32 × (Nat → Int32) × Int32 × (Nat → Int32) × (Nat → Int32)) :=
  (f_X4_begin p1_objects p1_steps p1_labels p1_sources p1_targets p1_words trial_labels trial_sources trial_targets trial_words trialPeaks_firsts trialPeaks_seconds v2).bind (fun r_3 => lt r_3.1 (fun v3_6 => lt 0 (fun v4_8 => lt 0 (fun v5_11 => lp (τ := Int32 → Int32 → (Nat → Int32) → Option (Int32 × Int32 × (Nat → Int32) × (Nat → Int32) × (Nat → Int32) × Int32 × (Nat → Int32) × Int32 × (Nat → Int32) × (Nat → Int32))) (fun _ _ _ => none) (f_X4_countAll_L13 r_3.2.2.2.2.2.1 r_3.2.2.2.2.2.2.2.1 r_3.2.1 natural_below r_3.2.2.2.2.2.2.1 r_3.2.2.2.2.2.2.2.2.1 r_3.2.2.2.2.2.2.2.2.2 r_3.2.2.1 r_3.2.2.2.1 v2 v3_6) fuel v4_8 v5_11 r_3.2.2.2.2.1))))
set_option maxHeartbeats 4000000 in
set_option maxRecDepth 100000 in
theorem k_X4_countAll (l : Launch) (D : va_G) (G : Nat → ClassId) (h : Nat) (h_p1 : Nat) (a_p1_words : Nat) (a_p1_sources : Nat) (a_p1_targets : Nat) (a_p1_labels : Nat) (h_trial : Nat) (h_natural : Nat) (h_trialPeaks : Nat) (a_found : Nat) (a_natural_pairs : Nat) (a_natural_below : Nat) (a_trial_words : Nat) (a_trial_sources : Nat) (a_trial_targets : Nat) (a_trial_labels : Nat) (a_trialPeaks_firsts : Nat) (a_trialPeaks_seconds : Nat) (p1_objects : Int32) (p1_steps : Int32) (foundSteps : Int32) (trial_objects : Int32) (trial_steps : Int32) (trialPeaks_count : Int32) (p1_labels : (Nat → Int32)) (p1_sources : (Nat → Int32)) (p1_targets : (Nat → Int32)) (p1_words : (Nat → Int32)) (natural_below : (Nat → Int32)) (trial_labels : (Nat → Int32)) (trial_sources : (Nat → Int32)) (trial_targets : (Nat → Int32)) (trial_words : (Nat → Int32)) (trialPeaks_firsts : (Nat → Int32)) (trialPeaks_seconds : (Nat → Int32))  (v2 : Int32) (out : Int32 × Int32 × (Nat → Int32) × (Nat → Int32) × (Nat → Int32) × Int32 × (Nat → Int32) × Int32 × (Nat → Int32) × (Nat → Int32)) (hf : f_X4_countAll p1_objects p1_steps p1_labels p1_sources p1_targets p1_words natural_below trial_labels trial_sources trial_targets trial_words trialPeaks_firsts trialPeaks_seconds v2 = some out) : xMet l yX4_countAll wsX4_countAll (rM 5 125) D G [.ref h, .ref h_p1, .int v2] [[(h_p1, .inr (3, [.int p1_objects, .ref a_p1_words, .int p1_steps, .ref a_p1_sources, .ref a_p1_targets, .ref a_p1_labels]))], [(a_p1_labels, .inl (G 0, 32, .inl p1_labels))], [(a_p1_sources, .inl (G 0, 32, .inl p1_sources))], [(a_p1_targets, .inl (G 0, 32, .inl p1_targets))], [(a_p1_words, .inl (G 0, 16, .inl p1_words))], [(h, .inr (4, [.ref h_trial, .ref h_natural, .ref h_trialPeaks, .ref a_found, .int foundSteps]))], [(h_natural, .inr (2, [.ref a_natural_pairs, .ref a_natural_below]))], [(a_natural_below, .inl (G 0, 8, .inl natural_below))], [(h_trial, .inr (3, [.int trial_objects, .ref a_trial_words, .int trial_steps, .ref a_trial_sources, .ref a_trial_targets, .ref a_trial_labels]))], [(a_trial_labels, .inl (G 0, 32, .inl trial_labels))], [(a_trial_sources, .inl (G 0, 32, .inl trial_sources))], [(a_trial_targets, .inl (G 0, 32, .inl trial_targets))], [(a_trial_words, .inl (G 0, 16, .inl trial_words))], [(h_trialPeaks, .inr (7, [.int trialPeaks_count, .ref a_trialPeaks_firsts, .ref a_trialPeaks_seconds]))], [(a_trialPeaks_firsts, .inl (G 0, 496, .inl trialPeaks_firsts))], [(a_trialPeaks_seconds, .inl (G 0, 496, .inl trialPeaks_seconds))]] (xQi D [[(h_p1, .inr (3, [.int p1_objects, .ref a_p1_words, .int p1_steps, .ref a_p1_sources, .ref a_p1_targets, .ref a_p1_labels]))], [(a_p1_labels, .inl (G 0, 32, .inl p1_labels))], [(a_p1_sources, .inl (G 0, 32, .inl p1_sources))], [(a_p1_targets, .inl (G 0, 32, .inl p1_targets))], [(a_p1_words, .inl (G 0, 16, .inl p1_words))], [(h, .inr (4, [.ref h_trial, .ref h_natural, .ref h_trialPeaks, .ref a_found, .int foundSteps]))], [(h_natural, .inr (2, [.ref a_natural_pairs, .ref a_natural_below]))], [(a_natural_below, .inl (G 0, 8, .inl natural_below))], [(h_trial, .inr (3, [.int out.2.2.2.2.2.1, .ref a_trial_words, .int out.2.2.2.2.2.2.2.1, .ref a_trial_sources, .ref a_trial_targets, .ref a_trial_labels]))], [(a_trial_labels, .inl (G 0, 32, .inl out.2.2.2.2.1))], [(a_trial_sources, .inl (G 0, 32, .inl out.2.2.2.2.2.2.1))], [(a_trial_targets, .inl (G 0, 32, .inl out.2.2.2.2.2.2.2.2.1))], [(a_trial_words, .inl (G 0, 16, .inl out.2.2.2.2.2.2.2.2.2))], [(h_trialPeaks, .inr (7, [.int out.2.1, .ref a_trialPeaks_firsts, .ref a_trialPeaks_seconds]))], [(a_trialPeaks_firsts, .inl (G 0, 496, .inl out.2.2.1))], [(a_trialPeaks_seconds, .inl (G 0, 496, .inl out.2.2.2.1))]] out.1) := by
  refine x_ent (cc := cX4_countAll) (maxL := 6) (by decide) rfl (Nat.le_of_ble_eq_true rfl) ?_
  intro p e s m below meth c aa ls args Q hQ hx hb hr hml hown hts hlocks hE hN hP hl hS
  have hown : s.vm.findClass RX4 = some m.cls := hown
  have hl : lv_has ls 6 [(0, .ref h), (1, .ref h_p1), (2, .int v2)] := hl
  have L13 : ∀ (v3 : Int32) (trialPeaks_count : Int32) (trialPeaks_firsts : (Nat → Int32)) (trialPeaks_seconds : (Nat → Int32)) (trial_objects : Int32) (trial_sources : (Nat → Int32)) (trial_steps : Int32) (trial_targets : (Nat → Int32)) (trial_words : (Nat → Int32)), ∀ (n_13 : Nat) (v4 : Int32) (v5 : Int32) (trial_labels : (Nat → Int32)) (H : Heap) (locs : List Loc) (ls : Array Slot), xW D aa [[(h_p1, .inr (3, [.int p1_objects, .ref a_p1_words, .int p1_steps, .ref a_p1_sources, .ref a_p1_targets, .ref a_p1_labels]))], [(a_p1_labels, .inl (G 0, 32, .inl p1_labels))], [(a_p1_sources, .inl (G 0, 32, .inl p1_sources))], [(a_p1_targets, .inl (G 0, 32, .inl p1_targets))], [(a_p1_words, .inl (G 0, 16, .inl p1_words))], [(h, .inr (4, [.ref h_trial, .ref h_natural, .ref h_trialPeaks, .ref a_found, .int foundSteps]))], [(h_natural, .inr (2, [.ref a_natural_pairs, .ref a_natural_below]))], [(a_natural_below, .inl (G 0, 8, .inl natural_below))], [(h_trial, .inr (3, [.int trial_objects, .ref a_trial_words, .int trial_steps, .ref a_trial_sources, .ref a_trial_targets, .ref a_trial_labels]))], [(a_trial_labels, .inl (G 0, 32, .inl trial_labels))], [(a_trial_sources, .inl (G 0, 32, .inl trial_sources))], [(a_trial_targets, .inl (G 0, 32, .inl trial_targets))], [(a_trial_words, .inl (G 0, 16, .inl trial_words))], [(h_trialPeaks, .inr (7, [.int trialPeaks_count, .ref a_trialPeaks_firsts, .ref a_trialPeaks_seconds]))], [(a_trialPeaks_firsts, .inl (G 0, 496, .inl trialPeaks_firsts))], [(a_trialPeaks_seconds, .inl (G 0, 496, .inl trialPeaks_seconds))]] H → va_S (xA aa) s.heap H locs → lv_has ls 6 [(0, .ref h), (2, .int v2), (3, .int v3), (4, .int v4), (5, .int v5)] → lp (τ := Int32 → Int32 → (Nat → Int32) → Option (Int32 × Int32 × (Nat → Int32) × (Nat → Int32) × (Nat → Int32) × Int32 × (Nat → Int32) × Int32 × (Nat → Int32) × (Nat → Int32))) (fun _ _ _ => none) (f_X4_countAll_L13 trial_objects trial_steps trialPeaks_count natural_below trial_sources trial_targets trial_words trialPeaks_firsts trialPeaks_seconds v2 v3) n_13 v4 v5 trial_labels = some out → W p l e (rM 5 125) s m args below meth c H locs 0 0 Q (F0 m 13 ls []) := by
    intro v3 trialPeaks_count trialPeaks_firsts trialPeaks_seconds trial_objects trial_sources trial_steps trial_targets trial_words   n_13
    induction n_13 with
    | zero =>
      intro v4 v5 trial_labels H locs ls hP hS hl hf
      exact no_some hf
    | succ n_13 ih_13 =>
      intro v4 v5 trial_labels H locs ls hP hS hl hf
      have hf : f_X4_countAll_L13 trial_objects trial_steps trialPeaks_count natural_below trial_sources trial_targets trial_words trialPeaks_firsts trialPeaks_seconds v2 v3 (lp (τ := Int32 → Int32 → (Nat → Int32) → Option (Int32 × Int32 × (Nat → Int32) × (Nat → Int32) × (Nat → Int32) × Int32 × (Nat → Int32) × Int32 × (Nat → Int32) × (Nat → Int32))) (fun _ _ _ => none) (f_X4_countAll_L13 trial_objects trial_steps trialPeaks_count natural_below trial_sources trial_targets trial_words trialPeaks_firsts trialPeaks_seconds v2 v3) n_13) v4 v5 trial_labels = some out := hf
      rw [f_X4_countAll_L13] at hf
      have J42 : ∀ (v4 : Int32) (v5 : Int32) (trial_labels : (Nat → Int32)) (H : Heap) (locs : List Loc) (ls : Array Slot), xW D aa [[(h_p1, .inr (3, [.int p1_objects, .ref a_p1_words, .int p1_steps, .ref a_p1_sources, .ref a_p1_targets, .ref a_p1_labels]))], [(a_p1_labels, .inl (G 0, 32, .inl p1_labels))], [(a_p1_sources, .inl (G 0, 32, .inl p1_sources))], [(a_p1_targets, .inl (G 0, 32, .inl p1_targets))], [(a_p1_words, .inl (G 0, 16, .inl p1_words))], [(h, .inr (4, [.ref h_trial, .ref h_natural, .ref h_trialPeaks, .ref a_found, .int foundSteps]))], [(h_natural, .inr (2, [.ref a_natural_pairs, .ref a_natural_below]))], [(a_natural_below, .inl (G 0, 8, .inl natural_below))], [(h_trial, .inr (3, [.int trial_objects, .ref a_trial_words, .int trial_steps, .ref a_trial_sources, .ref a_trial_targets, .ref a_trial_labels]))], [(a_trial_labels, .inl (G 0, 32, .inl trial_labels))], [(a_trial_sources, .inl (G 0, 32, .inl trial_sources))], [(a_trial_targets, .inl (G 0, 32, .inl trial_targets))], [(a_trial_words, .inl (G 0, 16, .inl trial_words))], [(h_trialPeaks, .inr (7, [.int trialPeaks_count, .ref a_trialPeaks_firsts, .ref a_trialPeaks_seconds]))], [(a_trialPeaks_firsts, .inl (G 0, 496, .inl trialPeaks_firsts))], [(a_trialPeaks_seconds, .inl (G 0, 496, .inl trialPeaks_seconds))]] H → va_S (xA aa) s.heap H locs → lv_has ls 6 [(0, .ref h), (2, .int v2), (3, .int v3), (4, .int v4), (5, .int v5)] → f_X4_countAll_J42 trial_steps v2 (lp (τ := Int32 → Int32 → (Nat → Int32) → Option (Int32 × Int32 × (Nat → Int32) × (Nat → Int32) × (Nat → Int32) × Int32 × (Nat → Int32) × Int32 × (Nat → Int32) × (Nat → Int32))) (fun _ _ _ => none) (f_X4_countAll_L13 trial_objects trial_steps trialPeaks_count natural_below trial_sources trial_targets trial_words trialPeaks_firsts trialPeaks_seconds v2 v3) n_13) v4 v5 trial_labels = some out → W p l e (rM 5 125) s m args below meth c H locs 0 0 Q (F0 m 42 ls []) := by
        intro v4 v5 trial_labels  H locs ls  hP hS hl hf
        rw [f_X4_countAll_J42] at hf
        refine lv_aload_n hx hb dX4_countAll_42 rfl (lv_at hl 0 rfl) ?_
        refine lv_iload_n hx hb dX4_countAll_43 rfl (lv_at hl 1 rfl) ?_
        obtain ⟨r_44, hr_44, hf⟩ := bd_some hf
        refine x_gov (ps := [5, 8, 9]) (I' := [[(h_p1, .inr (3, [.int p1_objects, .ref a_p1_words, .int p1_steps, .ref a_p1_sources, .ref a_p1_targets, .ref a_p1_labels]))], [(a_p1_labels, .inl (G 0, 32, .inl p1_labels))], [(a_p1_sources, .inl (G 0, 32, .inl p1_sources))], [(a_p1_targets, .inl (G 0, 32, .inl p1_targets))], [(a_p1_words, .inl (G 0, 16, .inl p1_words))], [(h, .inr (4, [.ref h_trial, .ref h_natural, .ref h_trialPeaks, .ref a_found, .int foundSteps]))], [(h_natural, .inr (2, [.ref a_natural_pairs, .ref a_natural_below]))], [(a_natural_below, .inl (G 0, 8, .inl natural_below))], [(h_trial, .inr (3, [.int trial_objects, .ref a_trial_words, .int trial_steps, .ref a_trial_sources, .ref a_trial_targets, .ref a_trial_labels]))], [(a_trial_labels, .inl (G 0, 32, .inl r_44))], [(a_trial_sources, .inl (G 0, 32, .inl trial_sources))], [(a_trial_targets, .inl (G 0, 32, .inl trial_targets))], [(a_trial_words, .inl (G 0, 16, .inl trial_words))], [(h_trialPeaks, .inr (7, [.int trialPeaks_count, .ref a_trialPeaks_firsts, .ref a_trialPeaks_seconds]))], [(a_trialPeaks_firsts, .inl (G 0, 496, .inl trialPeaks_firsts))], [(a_trialPeaks_seconds, .inl (G 0, 496, .inl trialPeaks_seconds))]]) (x_runV (As := [.int v2]) (rest := []) (ps := [5, 8, 9]) ⟨hx, hb, hml, hown, hts⟩ (k_X4_advance l D G h h_trial h_natural h_trialPeaks a_found a_trial_words a_trial_sources a_trial_targets a_trial_labels foundSteps trial_objects trial_steps trial_labels v2 r_44 hr_44) (cwV 1 hts gX4_countAll_X4_advance rfl rfl rfl (by decide +kernel) ⟨Nat.le_of_ble_eq_true rfl, Nat.le_of_ble_eq_true rfl⟩) hE hP hN rfl (by decide) 5 rfl rfl rfl hl.1 (Nat.le_of_ble_eq_true rfl) dX4_countAll_44 ⟨Nat.zero_le _, Nat.zero_le _⟩) hP hN hS rfl rfl (fun H locs hP hS => ?_)
        obtain ⟨v5_47, e_v5_47, hf⟩ := lt_some hf
        refine lv_iinc (v := v5_47) (lv' := [(5, .int v5_47), (0, .ref h), (2, .int v2), (3, .int v3), (4, .int v4)]) hx hb dX4_countAll_47 hl (k := 4) rfl (by rw [e_v5_47]; rfl) (by decide) rfl (fun ls hl => ?_)
        refine lv_goto (tgt := 13) hx hb dX4_countAll_50 (by decide) ?_
        exact ih_13 v4 v5_47 r_44 H locs ls hP hS (lv_sub hl [1, 2, 3, 4, 0] rfl) hf
      refine lv_iload hx hb dX4_countAll_13 (lv_at hl 4 rfl) ?_
      refine lv_iload_n hx hb dX4_countAll_15 rfl (lv_at hl 2 rfl) ?_
      refine lv_icmp_ge (tgt := 53) hx hb dX4_countAll_16 (by decide) (fun c_16 => ?_) (fun c_16 => ?_)
      · have hf := it_pos c_16 hf
        refine lv_iload hx hb dX4_countAll_53 (lv_at hl 3 rfl) ?_
        have hf := Option.some.inj hf
        subst hf
        subst hQ
        exact x_iret hx hb hr hlocks hP hS dX4_countAll_55
      · have hf := it_neg c_16 hf
        refine lv_aload_n hx hb dX4_countAll_19 rfl (lv_at hl 0 rfl) ?_
        refine x_get hx hb hts u_X4_countAll_X4 hown hE hP 5 rfl rfl 2 (by decide) (hts (.fieldLink RX4 28 "DecreasingDiagrams$LabellingSearch" "trialPeaks" "LDecreasingDiagrams$Peaks;") (List.mem_of_getElem? (i := 1) rfl)) rfl dX4_countAll_20 ?_
        refine lv_aload_n hx hb dX4_countAll_23 rfl (lv_at hl 0 rfl) ?_
        refine x_get hx hb hts u_X4_countAll_X4 hown hE hP 5 rfl rfl 0 (by decide) (hts (.fieldLink RX4 12 "DecreasingDiagrams$LabellingSearch" "trial" "LDecreasingDiagrams$LabelledSystem;") (List.mem_of_getElem? (i := 2) rfl)) rfl dX4_countAll_24 ?_
        refine lv_aload_n hx hb dX4_countAll_27 rfl (lv_at hl 0 rfl) ?_
        refine x_get hx hb hts u_X4_countAll_X4 hown hE hP 5 rfl rfl 1 (by decide) (hts (.fieldLink RX4 21 "DecreasingDiagrams$LabellingSearch" "natural" "LDecreasingDiagrams$LabelOrder;") (List.mem_of_getElem? (i := 3) rfl)) rfl dX4_countAll_28 ?_
        obtain ⟨r_31, hr_31, hf⟩ := bd_some hf
        refine x_goi (ps := [8, 9, 10, 11, 6, 7, 13, 14, 15]) (I' := [[(h_p1, .inr (3, [.int p1_objects, .ref a_p1_words, .int p1_steps, .ref a_p1_sources, .ref a_p1_targets, .ref a_p1_labels]))], [(a_p1_labels, .inl (G 0, 32, .inl p1_labels))], [(a_p1_sources, .inl (G 0, 32, .inl p1_sources))], [(a_p1_targets, .inl (G 0, 32, .inl p1_targets))], [(a_p1_words, .inl (G 0, 16, .inl p1_words))], [(h, .inr (4, [.ref h_trial, .ref h_natural, .ref h_trialPeaks, .ref a_found, .int foundSteps]))], [(h_natural, .inr (2, [.ref a_natural_pairs, .ref a_natural_below]))], [(a_natural_below, .inl (G 0, 8, .inl natural_below))], [(h_trial, .inr (3, [.int trial_objects, .ref a_trial_words, .int trial_steps, .ref a_trial_sources, .ref a_trial_targets, .ref a_trial_labels]))], [(a_trial_labels, .inl (G 0, 32, .inl trial_labels))], [(a_trial_sources, .inl (G 0, 32, .inl trial_sources))], [(a_trial_targets, .inl (G 0, 32, .inl trial_targets))], [(a_trial_words, .inl (G 0, 16, .inl trial_words))], [(h_trialPeaks, .inr (7, [.int trialPeaks_count, .ref a_trialPeaks_firsts, .ref a_trialPeaks_seconds]))], [(a_trialPeaks_firsts, .inl (G 0, 496, .inl trialPeaks_firsts))], [(a_trialPeaks_seconds, .inl (G 0, 496, .inl trialPeaks_seconds))]]) (x_runVN (As := [.ref h_trial, .ref h_natural]) (rest := []) (ps := [8, 9, 10, 11, 6, 7, 13, 14, 15]) ⟨hx, hb, hml, hown, hts⟩ (k_X7_firstFailing l D G h_trialPeaks h_trial h_natural a_trial_words a_trial_sources a_trial_targets a_trial_labels a_natural_pairs a_natural_below a_trialPeaks_firsts a_trialPeaks_seconds trial_objects trial_steps trialPeaks_count trial_labels trial_sources trial_targets natural_below trialPeaks_firsts trialPeaks_seconds r_31 hr_31) ⟨va_cnB 2 hts gX4_countAll_X7_firstFailing_n47 rfl rfl rfl (hE.2 (.methodLinkNest RX4 47 yX7_firstFailing RX11) (List.mem_of_getElem? (i := 90) rfl)) (hts (.initialized RX7) (List.mem_of_getElem? (i := 24) rfl)) (by decide +kernel) ⟨Nat.le_of_ble_eq_true rfl, Nat.le_of_ble_eq_true rfl⟩, (hts (.instanceMethod yX7_firstFailing) (List.mem_of_getElem? (i := 30) rfl)), (hts (.selects RX7 yX7_firstFailing yX7_firstFailing) (List.mem_of_getElem? (i := 31) rfl))⟩ hE hP hN rfl (by decide) 13 rfl rfl rfl hl.1 (Nat.le_of_ble_eq_true rfl) dX4_countAll_31 ⟨Nat.zero_le _, Nat.zero_le _⟩) hP hN hS rfl rfl (fun H locs hP hS => ?_)
        refine lv_bipush (v := -2) hx hb dX4_countAll_34 (by decide) ?_
        refine lv_icmp_ne (tgt := 42) hx hb dX4_countAll_36 (by decide) (fun c_36 => ?_) (fun c_36 => ?_)
        · have hf := it_pos c_36 hf
          exact J42 v4 v5 trial_labels  H locs ls  hP hS (lv_sub hl [0, 1, 2, 3, 4] rfl) hf
        · have hf := it_neg (fun h => h c_36) hf
          obtain ⟨v4_39, e_v4_39, hf⟩ := lt_some hf
          refine lv_iinc (v := v4_39) (lv' := [(4, .int v4_39), (0, .ref h), (2, .int v2), (3, .int v3), (5, .int v5)]) hx hb dX4_countAll_39 hl (k := 3) rfl (by rw [e_v4_39]; rfl) (by decide) rfl (fun ls hl => ?_)
          exact J42 v4_39 v5 trial_labels  H locs ls  hP hS (lv_sub hl [1, 2, 3, 0, 4] rfl) hf
  rw [f_X4_countAll] at hf
  obtain ⟨H, hH⟩ : ∃ H : Heap, H = s.heap := ⟨_, rfl⟩
  obtain ⟨locs, hlocs⟩ : ∃ locs : List Loc, locs = [] := ⟨_, rfl⟩
  have hP : xW D aa [[(h_p1, .inr (3, [.int p1_objects, .ref a_p1_words, .int p1_steps, .ref a_p1_sources, .ref a_p1_targets, .ref a_p1_labels]))], [(a_p1_labels, .inl (G 0, 32, .inl p1_labels))], [(a_p1_sources, .inl (G 0, 32, .inl p1_sources))], [(a_p1_targets, .inl (G 0, 32, .inl p1_targets))], [(a_p1_words, .inl (G 0, 16, .inl p1_words))], [(h, .inr (4, [.ref h_trial, .ref h_natural, .ref h_trialPeaks, .ref a_found, .int foundSteps]))], [(h_natural, .inr (2, [.ref a_natural_pairs, .ref a_natural_below]))], [(a_natural_below, .inl (G 0, 8, .inl natural_below))], [(h_trial, .inr (3, [.int trial_objects, .ref a_trial_words, .int trial_steps, .ref a_trial_sources, .ref a_trial_targets, .ref a_trial_labels]))], [(a_trial_labels, .inl (G 0, 32, .inl trial_labels))], [(a_trial_sources, .inl (G 0, 32, .inl trial_sources))], [(a_trial_targets, .inl (G 0, 32, .inl trial_targets))], [(a_trial_words, .inl (G 0, 16, .inl trial_words))], [(h_trialPeaks, .inr (7, [.int trialPeaks_count, .ref a_trialPeaks_firsts, .ref a_trialPeaks_seconds]))], [(a_trialPeaks_firsts, .inl (G 0, 496, .inl trialPeaks_firsts))], [(a_trialPeaks_seconds, .inl (G 0, 496, .inl trialPeaks_seconds))]] H := by rw [hH]; exact hP
  have hS : va_S (xA aa) s.heap H locs := by rw [hH, hlocs]; exact hS
  suffices GO : W p l e (rM 5 125) s m args below meth c H locs 0 0 Q (F0 m 0 ls []) by
    rw [hH, hlocs] at GO
    exact GO
  clear hH hlocs
  refine lv_aload_n hx hb dX4_countAll_0 rfl (lv_at hl 0 rfl) ?_
  refine lv_aload_n hx hb dX4_countAll_1 rfl (lv_at hl 1 rfl) ?_
  refine lv_iload_n hx hb dX4_countAll_2 rfl (lv_at hl 2 rfl) ?_
  obtain ⟨r_3, hr_3, hf⟩ := bd_some hf
  refine x_goi (ps := [0, 1, 2, 3, 4, 5, 8, 9, 10, 11, 12, 13, 14, 15]) (I' := [[(h_p1, .inr (3, [.int p1_objects, .ref a_p1_words, .int p1_steps, .ref a_p1_sources, .ref a_p1_targets, .ref a_p1_labels]))], [(a_p1_labels, .inl (G 0, 32, .inl p1_labels))], [(a_p1_sources, .inl (G 0, 32, .inl p1_sources))], [(a_p1_targets, .inl (G 0, 32, .inl p1_targets))], [(a_p1_words, .inl (G 0, 16, .inl p1_words))], [(h, .inr (4, [.ref h_trial, .ref h_natural, .ref h_trialPeaks, .ref a_found, .int foundSteps]))], [(h_natural, .inr (2, [.ref a_natural_pairs, .ref a_natural_below]))], [(a_natural_below, .inl (G 0, 8, .inl natural_below))], [(h_trial, .inr (3, [.int r_3.2.2.2.2.2.1, .ref a_trial_words, .int r_3.2.2.2.2.2.2.2.1, .ref a_trial_sources, .ref a_trial_targets, .ref a_trial_labels]))], [(a_trial_labels, .inl (G 0, 32, .inl r_3.2.2.2.2.1))], [(a_trial_sources, .inl (G 0, 32, .inl r_3.2.2.2.2.2.2.1))], [(a_trial_targets, .inl (G 0, 32, .inl r_3.2.2.2.2.2.2.2.2.1))], [(a_trial_words, .inl (G 0, 16, .inl r_3.2.2.2.2.2.2.2.2.2))], [(h_trialPeaks, .inr (7, [.int r_3.2.1, .ref a_trialPeaks_firsts, .ref a_trialPeaks_seconds]))], [(a_trialPeaks_firsts, .inl (G 0, 496, .inl r_3.2.2.1))], [(a_trialPeaks_seconds, .inl (G 0, 496, .inl r_3.2.2.2.1))]]) (x_runV (As := [.ref h_p1, .int v2]) (rest := []) (ps := [0, 1, 2, 3, 4, 5, 8, 9, 10, 11, 12, 13, 14, 15]) ⟨hx, hb, hml, hown, hts⟩ (k_X4_begin l D G h h_p1 a_p1_words a_p1_sources a_p1_targets a_p1_labels h_trial h_natural h_trialPeaks a_found a_trial_words a_trial_sources a_trial_targets a_trial_labels a_trialPeaks_firsts a_trialPeaks_seconds p1_objects p1_steps foundSteps trial_objects trial_steps trialPeaks_count p1_labels p1_sources p1_targets p1_words trial_labels trial_sources trial_targets trial_words trialPeaks_firsts trialPeaks_seconds v2 r_3 hr_3) (cwV 2 hts gX4_countAll_X4_begin rfl rfl rfl (by decide +kernel) ⟨Nat.le_of_ble_eq_true rfl, Nat.le_of_ble_eq_true rfl⟩) hE hP hN rfl (by decide) 5 rfl rfl rfl hl.1 (Nat.le_of_ble_eq_true rfl) dX4_countAll_3 ⟨Nat.zero_le _, Nat.zero_le _⟩) hP hN hS rfl rfl (fun H locs hP hS => ?_)
  obtain ⟨v3_6, e_v3_6, hf⟩ := lt_some hf
  refine x_istore_n (v := v3_6) (lv' := [(3, .int v3_6), (0, .ref h), (1, .ref h_p1), (2, .int v2)]) hx hb dX4_countAll_6 e_v3_6 rfl hl (by decide) rfl (fun ls hl => ?_)
  refine lv_iconst (v := 0) hx hb dX4_countAll_7 (by decide) ?_
  obtain ⟨v4_8, e_v4_8, hf⟩ := lt_some hf
  refine x_istore (v := v4_8) (lv' := [(4, .int v4_8), (3, .int v3_6), (0, .ref h), (1, .ref h_p1), (2, .int v2)]) hx hb dX4_countAll_8 e_v4_8 hl (by decide) rfl (fun ls hl => ?_)
  refine lv_iconst (v := 0) hx hb dX4_countAll_10 (by decide) ?_
  obtain ⟨v5_11, e_v5_11, hf⟩ := lt_some hf
  refine x_istore (v := v5_11) (lv' := [(5, .int v5_11), (4, .int v4_8), (3, .int v3_6), (0, .ref h), (1, .ref h_p1), (2, .int v2)]) hx hb dX4_countAll_11 e_v5_11 hl (by decide) rfl (fun ls hl => ?_)
  exact L13 v3_6 r_3.2.1 r_3.2.2.1 r_3.2.2.2.1 r_3.2.2.2.2.2.1 r_3.2.2.2.2.2.2.1 r_3.2.2.2.2.2.2.2.1 r_3.2.2.2.2.2.2.2.2.1 r_3.2.2.2.2.2.2.2.2.2   fuel v4_8 v5_11 r_3.2.2.2.2.1 H locs ls hP hS (lv_sub hl [3, 5, 2, 1, 0] rfl) hf
