abbrev w_X11_isIn (cB cI cJ : ClassId) (a_this : Nat) (a_cards : Nat) (a_county : Nat) (a_holes : Nat) (a_text : Nat) (a_letter : Nat) (a_where : Nat) (a_rank : Nat) (a_value : Nat) (a_hour : Nat) (a_readLetter : Nat) (a_readWhere : Nat) (a_readRank : Nat) (a_readValue : Nat) (a_readHour : Nat) (a_listName : Nat) (a_listDay : Nat) (a_voterName : Nat) (a_voterDay : Nat) (a_voterCounty : Nat) (a_heaps : Nat) (a_speed : Nat) (a_four : Nat) (a_byRules : Nat) (a_hours : Nat) (a_rest : Nat) (a_yet : Nat) (a_put : Nat) (v_kept : Int32) (v_length : Int32) (v_items : Int32) (v_readItems : Int32) (v_at : Int32) (v_lists : Int32) (v_voters : Int32) (v_needed : Int32) (v_county : Nat → Int32) : va_W := [(a_this, .inr (11, [.ref a_cards, .ref a_county, .ref a_holes, .int v_kept, .int v_length, .ref a_text, .int v_items, .ref a_letter, .ref a_where, .ref a_rank, .ref a_value, .ref a_hour, .int v_readItems, .ref a_readLetter, .ref a_readWhere, .ref a_readRank, .ref a_readValue, .ref a_readHour, .int v_at, .int v_lists, .ref a_listName, .ref a_listDay, .int v_voters, .ref a_voterName, .ref a_voterDay, .ref a_voterCounty, .int v_needed, .ref a_heaps, .ref a_speed, .ref a_four, .ref a_byRules, .ref a_hours, .ref a_rest, .ref a_yet, .ref a_put])), (a_county, .inl (cI, 120, .inl v_county))]
theorem hd_X11_isIn : yX11_isIn.cls = RX11 ∧ yX11_isIn.cls ≠ "java/lang/invoke/MethodHandle" ∧ yX11_isIn.cls ≠ "java/lang/invoke/VarHandle" ∧ (parseMethodDescriptor yX11_isIn.desc).map (fun d => d.parameters.length) = some 2 := by decide +kernel
abbrev rm_X11_isIn : Room := { frames := 0, cells := 0, slots := 0, locals := 0 }
theorem in_X11_isIn_X11 : ∀ w ∈ wsX110, w ∈ wsX11_isIn := fun w h => List.mem_cons_of_mem _ (List.mem_append_right _ h)
set_option maxHeartbeats 4000000 in
set_option maxRecDepth 100000 in
theorem c_X11_isIn (l : Launch) (D : va_G) (cB cI cJ : ClassId) (N : Nat) (a_this : Nat) (a_cards : Nat) (a_county : Nat) (a_holes : Nat) (a_text : Nat) (a_letter : Nat) (a_where : Nat) (a_rank : Nat) (a_value : Nat) (a_hour : Nat) (a_readLetter : Nat) (a_readWhere : Nat) (a_readRank : Nat) (a_readValue : Nat) (a_readHour : Nat) (a_listName : Nat) (a_listDay : Nat) (a_voterName : Nat) (a_voterDay : Nat) (a_voterCounty : Nat) (a_heaps : Nat) (a_speed : Nat) (a_four : Nat) (a_byRules : Nat) (a_hours : Nat) (a_rest : Nat) (a_yet : Nat) (a_put : Nat) (v_kept : Int32) (v_length : Int32) (v_items : Int32) (v_readItems : Int32) (v_at : Int32) (v_lists : Int32) (v_voters : Int32) (v_needed : Int32) (v_county : Nat → Int32) (x1 : Int32) (x2 : Int32) {r : Bool} (hf : f_X11_isIn N v_county x1 x2 = some r) : MTi l yX11_isIn wsX11_isIn rm_X11_isIn D (wk_T cB cI cJ) [.ref a_this, .int x1, .int x2] (w_X11_isIn cB cI cJ a_this a_cards a_county a_holes a_text a_letter a_where a_rank a_value a_hour a_readLetter a_readWhere a_readRank a_readValue a_readHour a_listName a_listDay a_voterName a_voterDay a_voterCounty a_heaps a_speed a_four a_byRules a_hours a_rest a_yet a_put v_kept v_length v_items v_readItems v_at v_lists v_voters v_needed v_county) (w_X11_isIn cB cI cJ a_this a_cards a_county a_holes a_text a_letter a_where a_rank a_value a_hour a_readLetter a_readWhere a_readRank a_readValue a_readHour a_listName a_listDay a_voterName a_voterDay a_voterCounty a_heaps a_speed a_four a_byRules a_hours a_rest a_yet a_put v_kept v_length v_items v_readItems v_at v_lists v_voters v_needed v_county) (wk_bI r) := by
  refine MTi.of (cc := cX11_isIn) (nL := 3) (rt := .boolean) (own := RX11) pn_X11 rfl rfl (Nat.le_of_ble_eq_true rfl) (wk_nz r) ?_
  intro p e s m args below meth c A ls Q C hP hD hS hl hret
  obtain ⟨hx, hb, hml, hts, hown, hK, hN, hA, hlk⟩ := id C
  have hl : lv_has ls 3 [(0, .ref a_this), (1, .int x1), (2, .int x2)] := hl
  unfold f_X11_isIn at hf
  refine lv_iload_n hx hb dX11_isIn_0 rfl (lv_at hl 2 rfl) ?_
  refine lv_iconst (v := (5 : Int32)) hx hb dX11_isIn_1 (by decide) ?_
  refine lv_icmp_eq (tgt := 15) hx hb dX11_isIn_2 (by decide) (fun c1 => ?_) (fun c1 => ?_)
  · have hf := wk_itT hf c1
    refine lv_iconst (v := (1 : Int32)) hx hb dX11_isIn_15 (by decide) ?_
    refine lv_goto (tgt := 20) hx hb dX11_isIn_16 (by decide) ?_
    exact hret _ _ _ _ _ _ dX11_isIn_20 (wk_rt hf (fun z => wk_bI z)) rfl hP hD hS
  · have hf := wk_itF hf c1
    refine lv_aload_n hx hb dX11_isIn_5 rfl (lv_at hl 0 rfl) ?_
    refine va_get (D := D) (ci := 11) (v := .ref a_county) (C := RX11) (T := TX11) (N := 35) hx hb hts in_X11_isIn_X11 hown hK hP 0 rfl rfl 1 (by decide) (hts (.fieldLink RX11 13 "HangingCardsModel" "county" "[I") (List.mem_of_getElem? (i := 1) rfl)) (fun _ h9 => h9) rfl dX11_isIn_6 ?_
    refine lv_iload_n hx hb dX11_isIn_9 rfl (lv_at hl 1 rfl) ?_
    obtain ⟨hi2, hf⟩ := wk_ckE hf
    refine va_iald hx hb hK hP 1 0 rfl rfl hi2 dX11_isIn_10 ?_
    refine lv_iload_n hx hb dX11_isIn_11 rfl (lv_at hl 2 rfl) ?_
    refine lv_icmp_ne (tgt := 19) hx hb dX11_isIn_12 (by decide) (fun c3 => ?_) (fun c3 => ?_)
    · have hf := wk_itF hf c3
      refine lv_iconst (v := (0 : Int32)) hx hb dX11_isIn_19 (by decide) ?_
      exact hret _ _ _ _ _ _ dX11_isIn_20 (wk_rt hf (fun z => wk_bI z)) rfl hP hD hS
    · have hf := wk_itT hf c3
      refine lv_iconst (v := (1 : Int32)) hx hb dX11_isIn_15 (by decide) ?_
      refine lv_goto (tgt := 20) hx hb dX11_isIn_16 (by decide) ?_
      exact hret _ _ _ _ _ _ dX11_isIn_20 (wk_rt hf (fun z => wk_bI z)) rfl hP hD hS
abbrev w_X11_countedOf (cB cI cJ : ClassId) (a_this : Nat) (a_cards : Nat) (a_county : Nat) (a_holes : Nat) (a_text : Nat) (a_letter : Nat) (a_where : Nat) (a_rank : Nat) (a_value : Nat) (a_hour : Nat) (a_readLetter : Nat) (a_readWhere : Nat) (a_readRank : Nat) (a_readValue : Nat) (a_readHour : Nat) (a_listName : Nat) (a_listDay : Nat) (a_voterName : Nat) (a_voterDay : Nat) (a_voterCounty : Nat) (a_heaps : Nat) (a_speed : Nat) (a_four : Nat) (a_byRules : Nat) (a_hours : Nat) (a_rest : Nat) (a_yet : Nat) (a_put : Nat) (v_kept : Int32) (v_length : Int32) (v_items : Int32) (v_readItems : Int32) (v_at : Int32) (v_lists : Int32) (v_voters : Int32) (v_needed : Int32) (v_cards : Nat → Int32) (v_county : Nat → Int32) (v_holes : Nat → Int32) (v_hour : Nat → Int32) (v_letter : Nat → Int32) (v_rank : Nat → Int32) (v_value : Nat → Int32) (v_where : Nat → Int32) : va_W := [(a_this, .inr (11, [.ref a_cards, .ref a_county, .ref a_holes, .int v_kept, .int v_length, .ref a_text, .int v_items, .ref a_letter, .ref a_where, .ref a_rank, .ref a_value, .ref a_hour, .int v_readItems, .ref a_readLetter, .ref a_readWhere, .ref a_readRank, .ref a_readValue, .ref a_readHour, .int v_at, .int v_lists, .ref a_listName, .ref a_listDay, .int v_voters, .ref a_voterName, .ref a_voterDay, .ref a_voterCounty, .int v_needed, .ref a_heaps, .ref a_speed, .ref a_four, .ref a_byRules, .ref a_hours, .ref a_rest, .ref a_yet, .ref a_put])), (a_cards, .inl (cI, 3, .inl v_cards)), (a_county, .inl (cI, 120, .inl v_county)), (a_holes, .inl (cI, 1440, .inl v_holes)), (a_hour, .inl (cI, 40, .inl v_hour)), (a_letter, .inl (cI, 40, .inl v_letter)), (a_rank, .inl (cI, 40, .inl v_rank)), (a_value, .inl (cI, 40, .inl v_value)), (a_where, .inl (cI, 40, .inl v_where))]
theorem hd_X11_countedOf : yX11_countedOf.cls = RX11 ∧ yX11_countedOf.cls ≠ "java/lang/invoke/MethodHandle" ∧ yX11_countedOf.cls ≠ "java/lang/invoke/VarHandle" ∧ (parseMethodDescriptor yX11_countedOf.desc).map (fun d => d.parameters.length) = some 5 := by decide +kernel
abbrev rm_X11_countedOf : Room := { frames := 3, cells := 0, slots := 0, locals := 76 }
theorem in_X11_countedOf_X11 : ∀ w ∈ wsX110, w ∈ wsX11_countedOf := fun w h => List.mem_cons_of_mem _ (List.mem_append_right _ h)
set_option maxHeartbeats 4000000 in
set_option maxRecDepth 100000 in
theorem c_X11_countedOf (l : Launch) (D : va_G) (cB cI cJ : ClassId) (N : Nat) (a_this : Nat) (a_cards : Nat) (a_county : Nat) (a_holes : Nat) (a_text : Nat) (a_letter : Nat) (a_where : Nat) (a_rank : Nat) (a_value : Nat) (a_hour : Nat) (a_readLetter : Nat) (a_readWhere : Nat) (a_readRank : Nat) (a_readValue : Nat) (a_readHour : Nat) (a_listName : Nat) (a_listDay : Nat) (a_voterName : Nat) (a_voterDay : Nat) (a_voterCounty : Nat) (a_heaps : Nat) (a_speed : Nat) (a_four : Nat) (a_byRules : Nat) (a_hours : Nat) (a_rest : Nat) (a_yet : Nat) (a_put : Nat) (v_kept : Int32) (v_length : Int32) (v_items : Int32) (v_readItems : Int32) (v_at : Int32) (v_lists : Int32) (v_voters : Int32) (v_needed : Int32) (v_cards : Nat → Int32) (v_county : Nat → Int32) (v_holes : Nat → Int32) (v_hour : Nat → Int32) (v_letter : Nat → Int32) (v_rank : Nat → Int32) (v_value : Nat → Int32) (v_where : Nat → Int32) (x1 : Int32) (x2 : Int32) (x3 : Int32) (x4 : Int32) (x5 : Int32) {r : Int32} (hf : f_X11_countedOf N v_items v_cards v_county v_holes v_hour v_letter v_rank v_value v_where x1 x2 x3 x4 x5 = some r) : MTi l yX11_countedOf wsX11_countedOf rm_X11_countedOf D (wk_T cB cI cJ) [.ref a_this, .int x1, .int x2, .int x3, .int x4, .int x5] (w_X11_countedOf cB cI cJ a_this a_cards a_county a_holes a_text a_letter a_where a_rank a_value a_hour a_readLetter a_readWhere a_readRank a_readValue a_readHour a_listName a_listDay a_voterName a_voterDay a_voterCounty a_heaps a_speed a_four a_byRules a_hours a_rest a_yet a_put v_kept v_length v_items v_readItems v_at v_lists v_voters v_needed v_cards v_county v_holes v_hour v_letter v_rank v_value v_where) (w_X11_countedOf cB cI cJ a_this a_cards a_county a_holes a_text a_letter a_where a_rank a_value a_hour a_readLetter a_readWhere a_readRank a_readValue a_readHour a_listName a_listDay a_voterName a_voterDay a_voterCounty a_heaps a_speed a_four a_byRules a_hours a_rest a_yet a_put v_kept v_length v_items v_readItems v_at v_lists v_voters v_needed v_cards v_county v_holes v_hour v_letter v_rank v_value v_where) r := by
  refine MTi.of (cc := cX11_countedOf) (nL := 8) (rt := .int) (own := RX11) pn_X11 rfl rfl (Nat.le_of_ble_eq_true rfl) rfl ?_
  intro p e s m args below meth c A ls Q C hP hD hS hl hret
  obtain ⟨hx, hb, hml, hts, hown, hK, hN, hA, hlk⟩ := id C
  have hl : lv_has ls 8 [(0, .ref a_this), (1, .int x1), (2, .int x2), (3, .int x3), (4, .int x4), (5, .int x5)] := hl
  have L6 := wk_loopI (F := (fun k6 : Int32 → Int32 → Int32 → Int32 → Int32 → Int32 → Int32 → Option Int32 => B_X11_countedOf_6 N v_items v_cards v_county v_holes v_hour v_letter v_rank v_value v_where k6)) (bot := fun _ _ _ _ _ _ _ => none) (fun k6 : Int32 → Int32 → Int32 → Int32 → Int32 → Int32 → Int32 → Option Int32 => ∀ (x1 : Int32) (x2 : Int32) (x3 : Int32) (x4 : Int32) (x5 : Int32) (x6 : Int32) (x7 : Int32), k6 x1 x2 x3 x4 x5 x6 x7 = some r → ∀ (H : Heap) (locs : List Loc) (ls : Array Slot), va_P D vwCl (w_X11_countedOf cB cI cJ a_this a_cards a_county a_holes a_text a_letter a_where a_rank a_value a_hour a_readLetter a_readWhere a_readRank a_readValue a_readHour a_listName a_listDay a_voterName a_voterDay a_voterCounty a_heaps a_speed a_four a_byRules a_hours a_rest a_yet a_put v_kept v_length v_items v_readItems v_at v_lists v_voters v_needed v_cards v_county v_holes v_hour v_letter v_rank v_value v_where) H → va_D A (w_X11_countedOf cB cI cJ a_this a_cards a_county a_holes a_text a_letter a_where a_rank a_value a_hour a_readLetter a_readWhere a_readRank a_readValue a_readHour a_listName a_listDay a_voterName a_voterDay a_voterCounty a_heaps a_speed a_four a_byRules a_hours a_rest a_yet a_put v_kept v_length v_items v_readItems v_at v_lists v_voters v_needed v_cards v_county v_holes v_hour v_letter v_rank v_value v_where) → va_S A s.heap H locs → lv_has ls 8 [(0, .ref a_this), (1, .int x1), (2, .int x2), (3, .int x3), (4, .int x4), (5, .int x5), (6, .int x6), (7, .int x7)] → W p l e rm_X11_countedOf s m args below meth c H locs 0 0 Q (F0 m 6 ls [])) (by intro x1 x2 x3 x4 x5 x6 x7 hf; exact wk_no hf) (by
    intro k6 ih6
    intro x1 x2 x3 x4 x5 x6 x7 hf H locs ls hP hD hS hl
    have hf : B_X11_countedOf_6 N v_items v_cards v_county v_holes v_hour v_letter v_rank v_value v_where k6 x1 x2 x3 x4 x5 x6 x7 = some r := hf
    unfold B_X11_countedOf_6 at hf
    refine lv_iload hx hb dX11_countedOf_6 (lv_at hl 7 rfl) ?_
    refine lv_aload_n hx hb dX11_countedOf_8 rfl (lv_at hl 0 rfl) ?_
    refine va_get (D := D) (ci := 11) (v := .ref a_cards) (C := RX11) (T := TX11) (N := 35) hx hb hts in_X11_countedOf_X11 hown hK hP 0 rfl rfl 0 (by decide) (hts (.fieldLink RX11 7 "HangingCardsModel" "cards" "[I") (List.mem_of_getElem? (i := 1) rfl)) (fun _ h9 => h9) rfl dX11_countedOf_9 ?_
    refine lv_iconst (v := (0 : Int32)) hx hb dX11_countedOf_12 (by decide) ?_
    obtain ⟨hi1, hf⟩ := wk_ckE hf
    refine va_iald hx hb hK hP 1 0 rfl rfl hi1 dX11_countedOf_13 ?_
    refine lv_icmp_ge (tgt := 58) hx hb dX11_countedOf_14 (by decide) (fun c2 => ?_) (fun c2 => ?_)
    · have hf := wk_itT hf c2
      refine lv_iload hx hb dX11_countedOf_58 (lv_at hl 6 rfl) ?_
      exact hret _ _ _ _ _ _ dX11_countedOf_60 (wk_rt hf (fun z => z)) rfl hP hD hS
    · have hf := wk_itF hf c2
      refine lv_iload hx hb dX11_countedOf_17 (lv_at hl 6 rfl) ?_
      refine lv_aload_n hx hb dX11_countedOf_19 rfl (lv_at hl 0 rfl) ?_
      refine lv_iload hx hb dX11_countedOf_20 (lv_at hl 7 rfl) ?_
      refine lv_iload_n hx hb dX11_countedOf_22 rfl (lv_at hl 1 rfl) ?_
      obtain ⟨r3, hc3, hf⟩ := wk_b1E hf
      refine wk_callVi2 C hP hD hS (c_X11_isIn l D cB cI cJ N a_this a_cards a_county a_holes a_text a_letter a_where a_rank a_value a_hour a_readLetter a_readWhere a_readRank a_readValue a_readHour a_listName a_listDay a_voterName a_voterDay a_voterCounty a_heaps a_speed a_four a_byRules a_hours a_rest a_yet a_put v_kept v_length v_items v_readItems v_at v_lists v_voters v_needed v_county x7 x1 hc3) (cwV 2 hts gX11_countedOf_X11_isIn rfl rfl rfl hd_X11_isIn ⟨Nat.le_of_ble_eq_true rfl, Nat.le_of_ble_eq_true rfl⟩) hl.1 ⟨Nat.zero_le _, Nat.zero_le _⟩ [0, 2] [1, 3, 4, 5, 6, 7, 8] 9 (by decide +kernel) rfl (Wn := w_X11_countedOf cB cI cJ a_this a_cards a_county a_holes a_text a_letter a_where a_rank a_value a_hour a_readLetter a_readWhere a_readRank a_readValue a_readHour a_listName a_listDay a_voterName a_voterDay a_voterCounty a_heaps a_speed a_four a_byRules a_hours a_rest a_yet a_put v_kept v_length v_items v_readItems v_at v_lists v_voters v_needed v_cards v_county v_holes v_hour v_letter v_rank v_value v_where) rfl rfl rfl rfl rfl rfl (ci := 11) rfl rfl (q0 := 0) rfl rfl rfl (Nat.le_of_ble_eq_true rfl) dX11_countedOf_23 (fun H locs hP hD hS => ?_)
      refine lv_if_eq (tgt := 48) hx hb dX11_countedOf_26 (by decide) (fun c4 => ?_) (fun c4 => ?_)
      · have hf := wk_itT hf c4
        refine lv_iconst (v := (0 : Int32)) hx hb dX11_countedOf_48 (by decide) ?_
        refine lv_iadd hx hb dX11_countedOf_49 ?_
        refine lv_topi (fun y5 ey5 => ?_)
        have hf := wk_nmE hf ey5
        refine lv_istore (lv' := [(6, .int y5), (0, .ref a_this), (1, .int x1), (2, .int x2), (3, .int x3), (4, .int x4), (5, .int x5), (7, .int x7)]) hx hb dX11_countedOf_50 hl (by decide) rfl (fun ls hl => ?_)
        obtain ⟨y6, ey6⟩ : ∃ y : Int32, y = x7 + (1 : Int32) := ⟨_, rfl⟩
        have hf := wk_nmE hf ey6
        refine lv_iinc (v := y6) (lv' := [(7, .int y6), (6, .int y5), (0, .ref a_this), (1, .int x1), (2, .int x2), (3, .int x3), (4, .int x4), (5, .int x5)]) hx hb dX11_countedOf_52 hl (k := 7) rfl (by rw [ey6]; rfl) (by decide) rfl (fun ls hl => ?_)
        refine lv_goto (tgt := 6) hx hb dX11_countedOf_55 (by decide) ?_
        exact ih6 _ _ _ _ _ _ _ hf _ _ _ hP hD hS (lv_sub hl [2, 3, 4, 5, 6, 7, 1, 0] rfl)
      · have hf := wk_itF hf c4
        refine lv_aload_n hx hb dX11_countedOf_29 rfl (lv_at hl 0 rfl) ?_
        refine lv_iload hx hb dX11_countedOf_30 (lv_at hl 7 rfl) ?_
        refine lv_iload_n hx hb dX11_countedOf_32 rfl (lv_at hl 2 rfl) ?_
        refine lv_iload hx hb dX11_countedOf_33 (lv_at hl 4 rfl) ?_
        refine lv_iload hx hb dX11_countedOf_35 (lv_at hl 5 rfl) ?_
        obtain ⟨r7, hc7, hf⟩ := wk_b1E hf
        refine wk_callVi2 C hP hD hS (c_X11_voteOf l D cB cI cJ N a_this a_cards a_county a_holes a_text a_letter a_where a_rank a_value a_hour a_readLetter a_readWhere a_readRank a_readValue a_readHour a_listName a_listDay a_voterName a_voterDay a_voterCounty a_heaps a_speed a_four a_byRules a_hours a_rest a_yet a_put v_kept v_length v_items v_readItems v_at v_lists v_voters v_needed v_county v_holes v_hour v_letter v_rank v_value v_where x7 x2 x4 x5 hc7) (cwV 4 hts gX11_countedOf_X11_voteOf rfl rfl rfl hd_X11_voteOf ⟨Nat.le_of_ble_eq_true rfl, Nat.le_of_ble_eq_true rfl⟩) hl.1 ⟨Nat.zero_le _, Nat.zero_le _⟩ [0, 2, 3, 4, 5, 6, 7, 8] [1] 9 (by decide +kernel) rfl (Wn := w_X11_countedOf cB cI cJ a_this a_cards a_county a_holes a_text a_letter a_where a_rank a_value a_hour a_readLetter a_readWhere a_readRank a_readValue a_readHour a_listName a_listDay a_voterName a_voterDay a_voterCounty a_heaps a_speed a_four a_byRules a_hours a_rest a_yet a_put v_kept v_length v_items v_readItems v_at v_lists v_voters v_needed v_cards v_county v_holes v_hour v_letter v_rank v_value v_where) rfl rfl rfl rfl rfl rfl (ci := 11) rfl rfl (q0 := 0) rfl rfl rfl (Nat.le_of_ble_eq_true rfl) dX11_countedOf_37 (fun H locs hP hD hS => ?_)
        refine lv_iload_n hx hb dX11_countedOf_40 rfl (lv_at hl 3 rfl) ?_
        refine lv_icmp_ne (tgt := 48) hx hb dX11_countedOf_41 (by decide) (fun c8 => ?_) (fun c8 => ?_)
        · have hf := wk_itF hf c8
          refine lv_iconst (v := (0 : Int32)) hx hb dX11_countedOf_48 (by decide) ?_
          refine lv_iadd hx hb dX11_countedOf_49 ?_
          refine lv_topi (fun y9 ey9 => ?_)
          have hf := wk_nmE hf ey9
          refine lv_istore (lv' := [(6, .int y9), (0, .ref a_this), (1, .int x1), (2, .int x2), (3, .int x3), (4, .int x4), (5, .int x5), (7, .int x7)]) hx hb dX11_countedOf_50 hl (by decide) rfl (fun ls hl => ?_)
          obtain ⟨y10, ey10⟩ : ∃ y : Int32, y = x7 + (1 : Int32) := ⟨_, rfl⟩
          have hf := wk_nmE hf ey10
          refine lv_iinc (v := y10) (lv' := [(7, .int y10), (6, .int y9), (0, .ref a_this), (1, .int x1), (2, .int x2), (3, .int x3), (4, .int x4), (5, .int x5)]) hx hb dX11_countedOf_52 hl (k := 7) rfl (by rw [ey10]; rfl) (by decide) rfl (fun ls hl => ?_)
          refine lv_goto (tgt := 6) hx hb dX11_countedOf_55 (by decide) ?_
          exact ih6 _ _ _ _ _ _ _ hf _ _ _ hP hD hS (lv_sub hl [2, 3, 4, 5, 6, 7, 1, 0] rfl)
        · have hf := wk_itT hf c8
          refine lv_iconst (v := (1 : Int32)) hx hb dX11_countedOf_44 (by decide) ?_
          refine lv_goto (tgt := 49) hx hb dX11_countedOf_45 (by decide) ?_
          refine lv_iadd hx hb dX11_countedOf_49 ?_
          refine lv_topi (fun y11 ey11 => ?_)
          have hf := wk_nmE hf ey11
          refine lv_istore (lv' := [(6, .int y11), (0, .ref a_this), (1, .int x1), (2, .int x2), (3, .int x3), (4, .int x4), (5, .int x5), (7, .int x7)]) hx hb dX11_countedOf_50 hl (by decide) rfl (fun ls hl => ?_)
          obtain ⟨y12, ey12⟩ : ∃ y : Int32, y = x7 + (1 : Int32) := ⟨_, rfl⟩
          have hf := wk_nmE hf ey12
          refine lv_iinc (v := y12) (lv' := [(7, .int y12), (6, .int y11), (0, .ref a_this), (1, .int x1), (2, .int x2), (3, .int x3), (4, .int x4), (5, .int x5)]) hx hb dX11_countedOf_52 hl (k := 7) rfl (by rw [ey12]; rfl) (by decide) rfl (fun ls hl => ?_)
          refine lv_goto (tgt := 6) hx hb dX11_countedOf_55 (by decide) ?_
          exact ih6 _ _ _ _ _ _ _ hf _ _ _ hP hD hS (lv_sub hl [2, 3, 4, 5, 6, 7, 1, 0] rfl))
  unfold f_X11_countedOf at hf
  refine lv_iconst (v := (0 : Int32)) hx hb dX11_countedOf_0 (by decide) ?_
  refine lv_istore (lv' := [(6, .int (0 : Int32)), (0, .ref a_this), (1, .int x1), (2, .int x2), (3, .int x3), (4, .int x4), (5, .int x5)]) hx hb dX11_countedOf_1 hl (by decide) rfl (fun ls hl => ?_)
  refine lv_iconst (v := (0 : Int32)) hx hb dX11_countedOf_3 (by decide) ?_
  refine lv_istore (lv' := [(7, .int (0 : Int32)), (6, .int (0 : Int32)), (0, .ref a_this), (1, .int x1), (2, .int x2), (3, .int x3), (4, .int x4), (5, .int x5)]) hx hb dX11_countedOf_4 hl (by decide) rfl (fun ls hl => ?_)
  exact L6 N _ _ _ _ _ _ _ hf _ _ _ hP hD hS (lv_sub hl [2, 3, 4, 5, 6, 7, 1, 0] rfl)
abbrev w_X11_counted (cB cI cJ : ClassId) (a_this : Nat) (a_cards : Nat) (a_county : Nat) (a_holes : Nat) (a_text : Nat) (a_letter : Nat) (a_where : Nat) (a_rank : Nat) (a_value : Nat) (a_hour : Nat) (a_readLetter : Nat) (a_readWhere : Nat) (a_readRank : Nat) (a_readValue : Nat) (a_readHour : Nat) (a_listName : Nat) (a_listDay : Nat) (a_voterName : Nat) (a_voterDay : Nat) (a_voterCounty : Nat) (a_heaps : Nat) (a_speed : Nat) (a_four : Nat) (a_byRules : Nat) (a_hours : Nat) (a_rest : Nat) (a_yet : Nat) (a_put : Nat) (v_kept : Int32) (v_length : Int32) (v_items : Int32) (v_readItems : Int32) (v_at : Int32) (v_lists : Int32) (v_voters : Int32) (v_needed : Int32) (v_cards : Nat → Int32) (v_county : Nat → Int32) (v_holes : Nat → Int32) (v_hour : Nat → Int32) (v_letter : Nat → Int32) (v_rank : Nat → Int32) (v_value : Nat → Int32) (v_where : Nat → Int32) : va_W := [(a_this, .inr (11, [.ref a_cards, .ref a_county, .ref a_holes, .int v_kept, .int v_length, .ref a_text, .int v_items, .ref a_letter, .ref a_where, .ref a_rank, .ref a_value, .ref a_hour, .int v_readItems, .ref a_readLetter, .ref a_readWhere, .ref a_readRank, .ref a_readValue, .ref a_readHour, .int v_at, .int v_lists, .ref a_listName, .ref a_listDay, .int v_voters, .ref a_voterName, .ref a_voterDay, .ref a_voterCounty, .int v_needed, .ref a_heaps, .ref a_speed, .ref a_four, .ref a_byRules, .ref a_hours, .ref a_rest, .ref a_yet, .ref a_put])), (a_cards, .inl (cI, 3, .inl v_cards)), (a_county, .inl (cI, 120, .inl v_county)), (a_holes, .inl (cI, 1440, .inl v_holes)), (a_hour, .inl (cI, 40, .inl v_hour)), (a_letter, .inl (cI, 40, .inl v_letter)), (a_rank, .inl (cI, 40, .inl v_rank)), (a_value, .inl (cI, 40, .inl v_value)), (a_where, .inl (cI, 40, .inl v_where))]
theorem hd_X11_counted : yX11_counted.cls = RX11 ∧ yX11_counted.cls ≠ "java/lang/invoke/MethodHandle" ∧ yX11_counted.cls ≠ "java/lang/invoke/VarHandle" ∧ (parseMethodDescriptor yX11_counted.desc).map (fun d => d.parameters.length) = some 5 := by decide +kernel
abbrev rm_X11_counted : Room := { frames := 4, cells := 0, slots := 0, locals := 103 }
set_option maxHeartbeats 4000000 in
set_option maxRecDepth 100000 in
theorem c_X11_counted (l : Launch) (D : va_G) (cB cI cJ : ClassId) (N : Nat) (a_this : Nat) (a_cards : Nat) (a_county : Nat) (a_holes : Nat) (a_text : Nat) (a_letter : Nat) (a_where : Nat) (a_rank : Nat) (a_value : Nat) (a_hour : Nat) (a_readLetter : Nat) (a_readWhere : Nat) (a_readRank : Nat) (a_readValue : Nat) (a_readHour : Nat) (a_listName : Nat) (a_listDay : Nat) (a_voterName : Nat) (a_voterDay : Nat) (a_voterCounty : Nat) (a_heaps : Nat) (a_speed : Nat) (a_four : Nat) (a_byRules : Nat) (a_hours : Nat) (a_rest : Nat) (a_yet : Nat) (a_put : Nat) (v_kept : Int32) (v_length : Int32) (v_items : Int32) (v_readItems : Int32) (v_at : Int32) (v_lists : Int32) (v_voters : Int32) (v_needed : Int32) (v_cards : Nat → Int32) (v_county : Nat → Int32) (v_holes : Nat → Int32) (v_hour : Nat → Int32) (v_letter : Nat → Int32) (v_rank : Nat → Int32) (v_value : Nat → Int32) (v_where : Nat → Int32) (x1 : Int32) (x2 : Int32) (x3 : Int32) (x4 : Int32) (x5 : Int32) {r : Int32} (hf : f_X11_counted N v_items v_cards v_county v_holes v_hour v_letter v_rank v_value v_where x1 x2 x3 x4 x5 = some r) : MTi l yX11_counted wsX11_counted rm_X11_counted D (wk_T cB cI cJ) [.ref a_this, .int x1, .int x2, .int x3, .int x4, .int x5] (w_X11_counted cB cI cJ a_this a_cards a_county a_holes a_text a_letter a_where a_rank a_value a_hour a_readLetter a_readWhere a_readRank a_readValue a_readHour a_listName a_listDay a_voterName a_voterDay a_voterCounty a_heaps a_speed a_four a_byRules a_hours a_rest a_yet a_put v_kept v_length v_items v_readItems v_at v_lists v_voters v_needed v_cards v_county v_holes v_hour v_letter v_rank v_value v_where) (w_X11_counted cB cI cJ a_this a_cards a_county a_holes a_text a_letter a_where a_rank a_value a_hour a_readLetter a_readWhere a_readRank a_readValue a_readHour a_listName a_listDay a_voterName a_voterDay a_voterCounty a_heaps a_speed a_four a_byRules a_hours a_rest a_yet a_put v_kept v_length v_items v_readItems v_at v_lists v_voters v_needed v_cards v_county v_holes v_hour v_letter v_rank v_value v_where) r := by
  refine MTi.of (cc := cX11_counted) (nL := 6) (rt := .int) (own := RX11) pn_X11 rfl rfl (Nat.le_of_ble_eq_true rfl) rfl ?_
  intro p e s m args below meth c A ls Q C hP hD hS hl hret
  obtain ⟨hx, hb, hml, hts, hown, hK, hN, hA, hlk⟩ := id C
  have hl : lv_has ls 6 [(0, .ref a_this), (1, .int x1), (2, .int x2), (3, .int x3), (4, .int x4), (5, .int x5)] := hl
  unfold f_X11_counted at hf
  refine lv_iload_n hx hb dX11_counted_0 rfl (lv_at hl 1 rfl) ?_
  refine lv_i2l (v := (x1.toInt64)) hx hb dX11_counted_1 rfl ?_
  refine lv_lconst (v := (0 : Int64)) hx hb dX11_counted_2 (by decide) ?_
  refine lv_ldc2 (v := (5 : Int64)) hx hb hown (hts (.constantLong RX11 157 (5)) (List.mem_of_getElem? (i := 1) rfl)) dX11_counted_3 ?_
  obtain ⟨r1, hc1, hf⟩ := wk_b1E hf
  refine wk_callSi2 C hP hD hS (c_X11_in l D cB cI cJ N (x1.toInt64) (0 : Int64) (5 : Int64) hc1) (va_cwS 3 hts gX11_counted_X11_in rfl rfl rfl hd_X11_in.2 ⟨Nat.le_of_ble_eq_true rfl, Nat.le_of_ble_eq_true rfl⟩) hl.1 ⟨Nat.zero_le _, Nat.zero_le _⟩ [] [0, 1, 2, 3, 4, 5, 6, 7, 8] 9 (by decide +kernel) rfl (Wn := w_X11_counted cB cI cJ a_this a_cards a_county a_holes a_text a_letter a_where a_rank a_value a_hour a_readLetter a_readWhere a_readRank a_readValue a_readHour a_listName a_listDay a_voterName a_voterDay a_voterCounty a_heaps a_speed a_four a_byRules a_hours a_rest a_yet a_put v_kept v_length v_items v_readItems v_at v_lists v_voters v_needed v_cards v_county v_holes v_hour v_letter v_rank v_value v_where) rfl rfl rfl rfl rfl rfl rfl rfl (Nat.le_of_ble_eq_true rfl) dX11_counted_6 (fun H locs hP hD hS => ?_)
  refine lv_if_eq (tgt := 58) hx hb dX11_counted_9 (by decide) (fun c2 => ?_) (fun c2 => ?_)
  · have hf := wk_itT hf c2
    refine lv_iconst (v := (-1 : Int32)) hx hb dX11_counted_58 (by decide) ?_
    exact hret _ _ _ _ _ _ dX11_counted_59 (wk_rt hf (fun z => z)) rfl hP hD hS
  · have hf := wk_itF hf c2
    refine lv_iload_n hx hb dX11_counted_12 rfl (lv_at hl 2 rfl) ?_
    refine lv_i2l (v := (x2.toInt64)) hx hb dX11_counted_13 rfl ?_
    refine lv_lconst (v := (0 : Int64)) hx hb dX11_counted_14 (by decide) ?_
    refine lv_ldc2 (v := (2 : Int64)) hx hb hown (hts (.constantLong RX11 115 (2)) (List.mem_of_getElem? (i := 2) rfl)) dX11_counted_15 ?_
    obtain ⟨r3, hc3, hf⟩ := wk_b1E hf
    refine wk_callSi2 C hP hD hS (c_X11_in l D cB cI cJ N (x2.toInt64) (0 : Int64) (2 : Int64) hc3) (va_cwS 3 hts gX11_counted_X11_in rfl rfl rfl hd_X11_in.2 ⟨Nat.le_of_ble_eq_true rfl, Nat.le_of_ble_eq_true rfl⟩) hl.1 ⟨Nat.zero_le _, Nat.zero_le _⟩ [] [0, 1, 2, 3, 4, 5, 6, 7, 8] 9 (by decide +kernel) rfl (Wn := w_X11_counted cB cI cJ a_this a_cards a_county a_holes a_text a_letter a_where a_rank a_value a_hour a_readLetter a_readWhere a_readRank a_readValue a_readHour a_listName a_listDay a_voterName a_voterDay a_voterCounty a_heaps a_speed a_four a_byRules a_hours a_rest a_yet a_put v_kept v_length v_items v_readItems v_at v_lists v_voters v_needed v_cards v_county v_holes v_hour v_letter v_rank v_value v_where) rfl rfl rfl rfl rfl rfl rfl rfl (Nat.le_of_ble_eq_true rfl) dX11_counted_18 (fun H locs hP hD hS => ?_)
    refine lv_if_eq (tgt := 58) hx hb dX11_counted_21 (by decide) (fun c4 => ?_) (fun c4 => ?_)
    · have hf := wk_itT hf c4
      refine lv_iconst (v := (-1 : Int32)) hx hb dX11_counted_58 (by decide) ?_
      exact hret _ _ _ _ _ _ dX11_counted_59 (wk_rt hf (fun z => z)) rfl hP hD hS
    · have hf := wk_itF hf c4
      refine lv_iload_n hx hb dX11_counted_24 rfl (lv_at hl 3 rfl) ?_
      refine lv_i2l (v := (x3.toInt64)) hx hb dX11_counted_25 rfl ?_
      refine lv_lconst (v := (0 : Int64)) hx hb dX11_counted_26 (by decide) ?_
      refine lv_ldc2 (v := (3 : Int64)) hx hb hown (hts (.constantLong RX11 117 (3)) (List.mem_of_getElem? (i := 3) rfl)) dX11_counted_27 ?_
      obtain ⟨r5, hc5, hf⟩ := wk_b1E hf
      refine wk_callSi2 C hP hD hS (c_X11_in l D cB cI cJ N (x3.toInt64) (0 : Int64) (3 : Int64) hc5) (va_cwS 3 hts gX11_counted_X11_in rfl rfl rfl hd_X11_in.2 ⟨Nat.le_of_ble_eq_true rfl, Nat.le_of_ble_eq_true rfl⟩) hl.1 ⟨Nat.zero_le _, Nat.zero_le _⟩ [] [0, 1, 2, 3, 4, 5, 6, 7, 8] 9 (by decide +kernel) rfl (Wn := w_X11_counted cB cI cJ a_this a_cards a_county a_holes a_text a_letter a_where a_rank a_value a_hour a_readLetter a_readWhere a_readRank a_readValue a_readHour a_listName a_listDay a_voterName a_voterDay a_voterCounty a_heaps a_speed a_four a_byRules a_hours a_rest a_yet a_put v_kept v_length v_items v_readItems v_at v_lists v_voters v_needed v_cards v_county v_holes v_hour v_letter v_rank v_value v_where) rfl rfl rfl rfl rfl rfl rfl rfl (Nat.le_of_ble_eq_true rfl) dX11_counted_30 (fun H locs hP hD hS => ?_)
      refine lv_if_eq (tgt := 58) hx hb dX11_counted_33 (by decide) (fun c6 => ?_) (fun c6 => ?_)
      · have hf := wk_itT hf c6
        refine lv_iconst (v := (-1 : Int32)) hx hb dX11_counted_58 (by decide) ?_
        exact hret _ _ _ _ _ _ dX11_counted_59 (wk_rt hf (fun z => z)) rfl hP hD hS
      · have hf := wk_itF hf c6
        refine lv_iload hx hb dX11_counted_36 (lv_at hl 4 rfl) ?_
        obtain ⟨r7, hc7, hf⟩ := wk_b1E hf
        refine wk_callSi2 C hP hD hS (c_X11_isHour l D cB cI cJ N x4 hc7) (va_cwS 1 hts gX11_counted_X11_isHour rfl rfl rfl hd_X11_isHour.2 ⟨Nat.le_of_ble_eq_true rfl, Nat.le_of_ble_eq_true rfl⟩) hl.1 ⟨Nat.zero_le _, Nat.zero_le _⟩ [] [0, 1, 2, 3, 4, 5, 6, 7, 8] 9 (by decide +kernel) rfl (Wn := w_X11_counted cB cI cJ a_this a_cards a_county a_holes a_text a_letter a_where a_rank a_value a_hour a_readLetter a_readWhere a_readRank a_readValue a_readHour a_listName a_listDay a_voterName a_voterDay a_voterCounty a_heaps a_speed a_four a_byRules a_hours a_rest a_yet a_put v_kept v_length v_items v_readItems v_at v_lists v_voters v_needed v_cards v_county v_holes v_hour v_letter v_rank v_value v_where) rfl rfl rfl rfl rfl rfl rfl rfl (Nat.le_of_ble_eq_true rfl) dX11_counted_38 (fun H locs hP hD hS => ?_)
        refine lv_if_eq (tgt := 58) hx hb dX11_counted_41 (by decide) (fun c8 => ?_) (fun c8 => ?_)
        · have hf := wk_itT hf c8
          refine lv_iconst (v := (-1 : Int32)) hx hb dX11_counted_58 (by decide) ?_
          exact hret _ _ _ _ _ _ dX11_counted_59 (wk_rt hf (fun z => z)) rfl hP hD hS
        · have hf := wk_itF hf c8
          refine lv_aload_n hx hb dX11_counted_44 rfl (lv_at hl 0 rfl) ?_
          refine lv_iload_n hx hb dX11_counted_45 rfl (lv_at hl 1 rfl) ?_
          refine lv_iload_n hx hb dX11_counted_46 rfl (lv_at hl 2 rfl) ?_
          refine lv_iload_n hx hb dX11_counted_47 rfl (lv_at hl 3 rfl) ?_
          refine lv_iload hx hb dX11_counted_48 (lv_at hl 4 rfl) ?_
          refine lv_iload hx hb dX11_counted_50 (lv_at hl 5 rfl) ?_
          obtain ⟨r9, hc9, hf⟩ := wk_b1E hf
          refine wk_callVi2 C hP hD hS (c_X11_countedOf l D cB cI cJ N a_this a_cards a_county a_holes a_text a_letter a_where a_rank a_value a_hour a_readLetter a_readWhere a_readRank a_readValue a_readHour a_listName a_listDay a_voterName a_voterDay a_voterCounty a_heaps a_speed a_four a_byRules a_hours a_rest a_yet a_put v_kept v_length v_items v_readItems v_at v_lists v_voters v_needed v_cards v_county v_holes v_hour v_letter v_rank v_value v_where x1 x2 x3 x4 x5 hc9) (cwV 5 hts gX11_counted_X11_countedOf rfl rfl rfl hd_X11_countedOf ⟨Nat.le_of_ble_eq_true rfl, Nat.le_of_ble_eq_true rfl⟩) hl.1 ⟨Nat.zero_le _, Nat.zero_le _⟩ [0, 1, 2, 3, 4, 5, 6, 7, 8] [] 9 (by decide +kernel) rfl (Wn := w_X11_counted cB cI cJ a_this a_cards a_county a_holes a_text a_letter a_where a_rank a_value a_hour a_readLetter a_readWhere a_readRank a_readValue a_readHour a_listName a_listDay a_voterName a_voterDay a_voterCounty a_heaps a_speed a_four a_byRules a_hours a_rest a_yet a_put v_kept v_length v_items v_readItems v_at v_lists v_voters v_needed v_cards v_county v_holes v_hour v_letter v_rank v_value v_where) rfl rfl rfl rfl rfl rfl (ci := 11) rfl rfl (q0 := 0) rfl rfl rfl (Nat.le_of_ble_eq_true rfl) dX11_counted_52 (fun H locs hP hD hS => ?_)
          refine lv_goto (tgt := 59) hx hb dX11_counted_55 (by decide) ?_
          exact hret _ _ _ _ _ _ dX11_counted_59 (wk_rt hf (fun z => z)) rfl hP hD hS
abbrev w_X11_vote (cB cI cJ : ClassId) (a_this : Nat) (a_cards : Nat) (a_county : Nat) (a_holes : Nat) (a_text : Nat) (a_letter : Nat) (a_where : Nat) (a_rank : Nat) (a_value : Nat) (a_hour : Nat) (a_readLetter : Nat) (a_readWhere : Nat) (a_readRank : Nat) (a_readValue : Nat) (a_readHour : Nat) (a_listName : Nat) (a_listDay : Nat) (a_voterName : Nat) (a_voterDay : Nat) (a_voterCounty : Nat) (a_heaps : Nat) (a_speed : Nat) (a_four : Nat) (a_byRules : Nat) (a_hours : Nat) (a_rest : Nat) (a_yet : Nat) (a_put : Nat) (v_kept : Int32) (v_length : Int32) (v_items : Int32) (v_readItems : Int32) (v_at : Int32) (v_lists : Int32) (v_voters : Int32) (v_needed : Int32) (v_cards : Nat → Int32) (v_county : Nat → Int32) (v_holes : Nat → Int32) (v_hour : Nat → Int32) (v_letter : Nat → Int32) (v_rank : Nat → Int32) (v_value : Nat → Int32) (v_where : Nat → Int32) : va_W := [(a_this, .inr (11, [.ref a_cards, .ref a_county, .ref a_holes, .int v_kept, .int v_length, .ref a_text, .int v_items, .ref a_letter, .ref a_where, .ref a_rank, .ref a_value, .ref a_hour, .int v_readItems, .ref a_readLetter, .ref a_readWhere, .ref a_readRank, .ref a_readValue, .ref a_readHour, .int v_at, .int v_lists, .ref a_listName, .ref a_listDay, .int v_voters, .ref a_voterName, .ref a_voterDay, .ref a_voterCounty, .int v_needed, .ref a_heaps, .ref a_speed, .ref a_four, .ref a_byRules, .ref a_hours, .ref a_rest, .ref a_yet, .ref a_put])), (a_cards, .inl (cI, 3, .inl v_cards)), (a_county, .inl (cI, 120, .inl v_county)), (a_holes, .inl (cI, 1440, .inl v_holes)), (a_hour, .inl (cI, 40, .inl v_hour)), (a_letter, .inl (cI, 40, .inl v_letter)), (a_rank, .inl (cI, 40, .inl v_rank)), (a_value, .inl (cI, 40, .inl v_value)), (a_where, .inl (cI, 40, .inl v_where))]
theorem hd_X11_vote : yX11_vote.cls = RX11 ∧ yX11_vote.cls ≠ "java/lang/invoke/MethodHandle" ∧ yX11_vote.cls ≠ "java/lang/invoke/VarHandle" ∧ (parseMethodDescriptor yX11_vote.desc).map (fun d => d.parameters.length) = some 4 := by decide +kernel
abbrev rm_X11_vote : Room := { frames := 3, cells := 0, slots := 0, locals := 76 }
set_option maxHeartbeats 4000000 in
set_option maxRecDepth 100000 in
theorem c_X11_vote (l : Launch) (D : va_G) (cB cI cJ : ClassId) (N : Nat) (a_this : Nat) (a_cards : Nat) (a_county : Nat) (a_holes : Nat) (a_text : Nat) (a_letter : Nat) (a_where : Nat) (a_rank : Nat) (a_value : Nat) (a_hour : Nat) (a_readLetter : Nat) (a_readWhere : Nat) (a_readRank : Nat) (a_readValue : Nat) (a_readHour : Nat) (a_listName : Nat) (a_listDay : Nat) (a_voterName : Nat) (a_voterDay : Nat) (a_voterCounty : Nat) (a_heaps : Nat) (a_speed : Nat) (a_four : Nat) (a_byRules : Nat) (a_hours : Nat) (a_rest : Nat) (a_yet : Nat) (a_put : Nat) (v_kept : Int32) (v_length : Int32) (v_items : Int32) (v_readItems : Int32) (v_at : Int32) (v_lists : Int32) (v_voters : Int32) (v_needed : Int32) (v_cards : Nat → Int32) (v_county : Nat → Int32) (v_holes : Nat → Int32) (v_hour : Nat → Int32) (v_letter : Nat → Int32) (v_rank : Nat → Int32) (v_value : Nat → Int32) (v_where : Nat → Int32) (x1 : Int32) (x2 : Int32) (x3 : Int32) (x4 : Int32) {r : Int32} (hf : f_X11_vote N v_items v_cards v_county v_holes v_hour v_letter v_rank v_value v_where x1 x2 x3 x4 = some r) : MTi l yX11_vote wsX11_vote rm_X11_vote D (wk_T cB cI cJ) [.ref a_this, .int x1, .int x2, .int x3, .int x4] (w_X11_vote cB cI cJ a_this a_cards a_county a_holes a_text a_letter a_where a_rank a_value a_hour a_readLetter a_readWhere a_readRank a_readValue a_readHour a_listName a_listDay a_voterName a_voterDay a_voterCounty a_heaps a_speed a_four a_byRules a_hours a_rest a_yet a_put v_kept v_length v_items v_readItems v_at v_lists v_voters v_needed v_cards v_county v_holes v_hour v_letter v_rank v_value v_where) (w_X11_vote cB cI cJ a_this a_cards a_county a_holes a_text a_letter a_where a_rank a_value a_hour a_readLetter a_readWhere a_readRank a_readValue a_readHour a_listName a_listDay a_voterName a_voterDay a_voterCounty a_heaps a_speed a_four a_byRules a_hours a_rest a_yet a_put v_kept v_length v_items v_readItems v_at v_lists v_voters v_needed v_cards v_county v_holes v_hour v_letter v_rank v_value v_where) r := by
  refine MTi.of (cc := cX11_vote) (nL := 5) (rt := .int) (own := RX11) pn_X11 rfl rfl (Nat.le_of_ble_eq_true rfl) rfl ?_
  intro p e s m args below meth c A ls Q C hP hD hS hl hret
  obtain ⟨hx, hb, hml, hts, hown, hK, hN, hA, hlk⟩ := id C
  have hl : lv_has ls 5 [(0, .ref a_this), (1, .int x1), (2, .int x2), (3, .int x3), (4, .int x4)] := hl
  unfold f_X11_vote at hf
  refine lv_aload_n hx hb dX11_vote_0 rfl (lv_at hl 0 rfl) ?_
  refine lv_iload_n hx hb dX11_vote_1 rfl (lv_at hl 1 rfl) ?_
  obtain ⟨r1, hc1, hf⟩ := wk_b1E hf
  refine wk_callVi2 C hP hD hS (c_X11_isCard l D cB cI cJ N a_this a_cards a_county a_holes a_text a_letter a_where a_rank a_value a_hour a_readLetter a_readWhere a_readRank a_readValue a_readHour a_listName a_listDay a_voterName a_voterDay a_voterCounty a_heaps a_speed a_four a_byRules a_hours a_rest a_yet a_put v_kept v_length v_items v_readItems v_at v_lists v_voters v_needed v_cards x1 hc1) (cwV 1 hts gX11_vote_X11_isCard rfl rfl rfl hd_X11_isCard ⟨Nat.le_of_ble_eq_true rfl, Nat.le_of_ble_eq_true rfl⟩) hl.1 ⟨Nat.zero_le _, Nat.zero_le _⟩ [0, 1] [2, 3, 4, 5, 6, 7, 8] 9 (by decide +kernel) rfl (Wn := w_X11_vote cB cI cJ a_this a_cards a_county a_holes a_text a_letter a_where a_rank a_value a_hour a_readLetter a_readWhere a_readRank a_readValue a_readHour a_listName a_listDay a_voterName a_voterDay a_voterCounty a_heaps a_speed a_four a_byRules a_hours a_rest a_yet a_put v_kept v_length v_items v_readItems v_at v_lists v_voters v_needed v_cards v_county v_holes v_hour v_letter v_rank v_value v_where) rfl rfl rfl rfl rfl rfl (ci := 11) rfl rfl (q0 := 0) rfl rfl rfl (Nat.le_of_ble_eq_true rfl) dX11_vote_2 (fun H locs hP hD hS => ?_)
  refine lv_if_eq (tgt := 39) hx hb dX11_vote_5 (by decide) (fun c2 => ?_) (fun c2 => ?_)
  · have hf := wk_itT hf c2
    refine lv_iconst (v := (-1 : Int32)) hx hb dX11_vote_39 (by decide) ?_
    exact hret _ _ _ _ _ _ dX11_vote_40 (wk_rt hf (fun z => z)) rfl hP hD hS
  · have hf := wk_itF hf c2
    refine lv_iload_n hx hb dX11_vote_8 rfl (lv_at hl 2 rfl) ?_
    refine lv_i2l (v := (x2.toInt64)) hx hb dX11_vote_9 rfl ?_
    refine lv_lconst (v := (0 : Int64)) hx hb dX11_vote_10 (by decide) ?_
    refine lv_ldc2 (v := (2 : Int64)) hx hb hown (hts (.constantLong RX11 115 (2)) (List.mem_of_getElem? (i := 1) rfl)) dX11_vote_11 ?_
    obtain ⟨r3, hc3, hf⟩ := wk_b1E hf
    refine wk_callSi2 C hP hD hS (c_X11_in l D cB cI cJ N (x2.toInt64) (0 : Int64) (2 : Int64) hc3) (va_cwS 3 hts gX11_vote_X11_in rfl rfl rfl hd_X11_in.2 ⟨Nat.le_of_ble_eq_true rfl, Nat.le_of_ble_eq_true rfl⟩) hl.1 ⟨Nat.zero_le _, Nat.zero_le _⟩ [] [0, 1, 2, 3, 4, 5, 6, 7, 8] 9 (by decide +kernel) rfl (Wn := w_X11_vote cB cI cJ a_this a_cards a_county a_holes a_text a_letter a_where a_rank a_value a_hour a_readLetter a_readWhere a_readRank a_readValue a_readHour a_listName a_listDay a_voterName a_voterDay a_voterCounty a_heaps a_speed a_four a_byRules a_hours a_rest a_yet a_put v_kept v_length v_items v_readItems v_at v_lists v_voters v_needed v_cards v_county v_holes v_hour v_letter v_rank v_value v_where) rfl rfl rfl rfl rfl rfl rfl rfl (Nat.le_of_ble_eq_true rfl) dX11_vote_14 (fun H locs hP hD hS => ?_)
    refine lv_if_eq (tgt := 39) hx hb dX11_vote_17 (by decide) (fun c4 => ?_) (fun c4 => ?_)
    · have hf := wk_itT hf c4
      refine lv_iconst (v := (-1 : Int32)) hx hb dX11_vote_39 (by decide) ?_
      exact hret _ _ _ _ _ _ dX11_vote_40 (wk_rt hf (fun z => z)) rfl hP hD hS
    · have hf := wk_itF hf c4
      refine lv_iload_n hx hb dX11_vote_20 rfl (lv_at hl 3 rfl) ?_
      obtain ⟨r5, hc5, hf⟩ := wk_b1E hf
      refine wk_callSi2 C hP hD hS (c_X11_isHour l D cB cI cJ N x3 hc5) (va_cwS 1 hts gX11_vote_X11_isHour rfl rfl rfl hd_X11_isHour.2 ⟨Nat.le_of_ble_eq_true rfl, Nat.le_of_ble_eq_true rfl⟩) hl.1 ⟨Nat.zero_le _, Nat.zero_le _⟩ [] [0, 1, 2, 3, 4, 5, 6, 7, 8] 9 (by decide +kernel) rfl (Wn := w_X11_vote cB cI cJ a_this a_cards a_county a_holes a_text a_letter a_where a_rank a_value a_hour a_readLetter a_readWhere a_readRank a_readValue a_readHour a_listName a_listDay a_voterName a_voterDay a_voterCounty a_heaps a_speed a_four a_byRules a_hours a_rest a_yet a_put v_kept v_length v_items v_readItems v_at v_lists v_voters v_needed v_cards v_county v_holes v_hour v_letter v_rank v_value v_where) rfl rfl rfl rfl rfl rfl rfl rfl (Nat.le_of_ble_eq_true rfl) dX11_vote_21 (fun H locs hP hD hS => ?_)
      refine lv_if_eq (tgt := 39) hx hb dX11_vote_24 (by decide) (fun c6 => ?_) (fun c6 => ?_)
      · have hf := wk_itT hf c6
        refine lv_iconst (v := (-1 : Int32)) hx hb dX11_vote_39 (by decide) ?_
        exact hret _ _ _ _ _ _ dX11_vote_40 (wk_rt hf (fun z => z)) rfl hP hD hS
      · have hf := wk_itF hf c6
        refine lv_aload_n hx hb dX11_vote_27 rfl (lv_at hl 0 rfl) ?_
        refine lv_iload_n hx hb dX11_vote_28 rfl (lv_at hl 1 rfl) ?_
        refine lv_iload_n hx hb dX11_vote_29 rfl (lv_at hl 2 rfl) ?_
        refine lv_iload_n hx hb dX11_vote_30 rfl (lv_at hl 3 rfl) ?_
        refine lv_iload hx hb dX11_vote_31 (lv_at hl 4 rfl) ?_
        obtain ⟨r7, hc7, hf⟩ := wk_b1E hf
        refine wk_callVi2 C hP hD hS (c_X11_voteOf l D cB cI cJ N a_this a_cards a_county a_holes a_text a_letter a_where a_rank a_value a_hour a_readLetter a_readWhere a_readRank a_readValue a_readHour a_listName a_listDay a_voterName a_voterDay a_voterCounty a_heaps a_speed a_four a_byRules a_hours a_rest a_yet a_put v_kept v_length v_items v_readItems v_at v_lists v_voters v_needed v_county v_holes v_hour v_letter v_rank v_value v_where x1 x2 x3 x4 hc7) (cwV 4 hts gX11_vote_X11_voteOf rfl rfl rfl hd_X11_voteOf ⟨Nat.le_of_ble_eq_true rfl, Nat.le_of_ble_eq_true rfl⟩) hl.1 ⟨Nat.zero_le _, Nat.zero_le _⟩ [0, 2, 3, 4, 5, 6, 7, 8] [1] 9 (by decide +kernel) rfl (Wn := w_X11_vote cB cI cJ a_this a_cards a_county a_holes a_text a_letter a_where a_rank a_value a_hour a_readLetter a_readWhere a_readRank a_readValue a_readHour a_listName a_listDay a_voterName a_voterDay a_voterCounty a_heaps a_speed a_four a_byRules a_hours a_rest a_yet a_put v_kept v_length v_items v_readItems v_at v_lists v_voters v_needed v_cards v_county v_holes v_hour v_letter v_rank v_value v_where) rfl rfl rfl rfl rfl rfl (ci := 11) rfl rfl (q0 := 0) rfl rfl rfl (Nat.le_of_ble_eq_true rfl) dX11_vote_33 (fun H locs hP hD hS => ?_)
        refine lv_goto (tgt := 40) hx hb dX11_vote_36 (by decide) ?_
        exact hret _ _ _ _ _ _ dX11_vote_40 (wk_rt hf (fun z => z)) rfl hP hD hS
abbrev w_X11_most (cB cI cJ : ClassId) (a_this : Nat) (a_cards : Nat) (a_county : Nat) (a_holes : Nat) (a_text : Nat) (a_letter : Nat) (a_where : Nat) (a_rank : Nat) (a_value : Nat) (a_hour : Nat) (a_readLetter : Nat) (a_readWhere : Nat) (a_readRank : Nat) (a_readValue : Nat) (a_readHour : Nat) (a_listName : Nat) (a_listDay : Nat) (a_voterName : Nat) (a_voterDay : Nat) (a_voterCounty : Nat) (a_heaps : Nat) (a_speed : Nat) (a_four : Nat) (a_byRules : Nat) (a_hours : Nat) (a_rest : Nat) (a_yet : Nat) (a_put : Nat) (v_kept : Int32) (v_length : Int32) (v_items : Int32) (v_readItems : Int32) (v_at : Int32) (v_lists : Int32) (v_voters : Int32) (v_needed : Int32) (v_four : Nat → Int32) : va_W := [(a_this, .inr (11, [.ref a_cards, .ref a_county, .ref a_holes, .int v_kept, .int v_length, .ref a_text, .int v_items, .ref a_letter, .ref a_where, .ref a_rank, .ref a_value, .ref a_hour, .int v_readItems, .ref a_readLetter, .ref a_readWhere, .ref a_readRank, .ref a_readValue, .ref a_readHour, .int v_at, .int v_lists, .ref a_listName, .ref a_listDay, .int v_voters, .ref a_voterName, .ref a_voterDay, .ref a_voterCounty, .int v_needed, .ref a_heaps, .ref a_speed, .ref a_four, .ref a_byRules, .ref a_hours, .ref a_rest, .ref a_yet, .ref a_put])), (a_four, .inl (cI, 4, .inl v_four))]
theorem hd_X11_most : yX11_most.cls = RX11 ∧ yX11_most.cls ≠ "java/lang/invoke/MethodHandle" ∧ yX11_most.cls ≠ "java/lang/invoke/VarHandle" ∧ (parseMethodDescriptor yX11_most.desc).map (fun d => d.parameters.length) = some 0 := by decide +kernel
abbrev rm_X11_most : Room := { frames := 0, cells := 0, slots := 0, locals := 0 }
theorem in_X11_most_X11 : ∀ w ∈ wsX110, w ∈ wsX11_most := fun w h => List.mem_cons_of_mem _ (List.mem_append_right _ h)
set_option maxHeartbeats 4000000 in
set_option maxRecDepth 100000 in
theorem c_X11_most (l : Launch) (D : va_G) (cB cI cJ : ClassId) (N : Nat) (a_this : Nat) (a_cards : Nat) (a_county : Nat) (a_holes : Nat) (a_text : Nat) (a_letter : Nat) (a_where : Nat) (a_rank : Nat) (a_value : Nat) (a_hour : Nat) (a_readLetter : Nat) (a_readWhere : Nat) (a_readRank : Nat) (a_readValue : Nat) (a_readHour : Nat) (a_listName : Nat) (a_listDay : Nat) (a_voterName : Nat) (a_voterDay : Nat) (a_voterCounty : Nat) (a_heaps : Nat) (a_speed : Nat) (a_four : Nat) (a_byRules : Nat) (a_hours : Nat) (a_rest : Nat) (a_yet : Nat) (a_put : Nat) (v_kept : Int32) (v_length : Int32) (v_items : Int32) (v_readItems : Int32) (v_at : Int32) (v_lists : Int32) (v_voters : Int32) (v_needed : Int32) (v_four : Nat → Int32) {r : Int32} (hf : f_X11_most N v_four = some r) : MTi l yX11_most wsX11_most rm_X11_most D (wk_T cB cI cJ) [.ref a_this] (w_X11_most cB cI cJ a_this a_cards a_county a_holes a_text a_letter a_where a_rank a_value a_hour a_readLetter a_readWhere a_readRank a_readValue a_readHour a_listName a_listDay a_voterName a_voterDay a_voterCounty a_heaps a_speed a_four a_byRules a_hours a_rest a_yet a_put v_kept v_length v_items v_readItems v_at v_lists v_voters v_needed v_four) (w_X11_most cB cI cJ a_this a_cards a_county a_holes a_text a_letter a_where a_rank a_value a_hour a_readLetter a_readWhere a_readRank a_readValue a_readHour a_listName a_listDay a_voterName a_voterDay a_voterCounty a_heaps a_speed a_four a_byRules a_hours a_rest a_yet a_put v_kept v_length v_items v_readItems v_at v_lists v_voters v_needed v_four) r := by
  refine MTi.of (cc := cX11_most) (nL := 5) (rt := .int) (own := RX11) pn_X11 rfl rfl (Nat.le_of_ble_eq_true rfl) rfl ?_
  intro p e s m args below meth c A ls Q C hP hD hS hl hret
  obtain ⟨hx, hb, hml, hts, hown, hK, hN, hA, hlk⟩ := id C
  have hl : lv_has ls 5 [(0, .ref a_this)] := hl
  have L5 := wk_loopI (F := (fun k5 : Int32 → Int32 → Option Int32 => B_X11_most_5 N v_four k5)) (bot := fun _ _ => none) (fun k5 : Int32 → Int32 → Option Int32 => ∀ (x1 : Int32) (x2 : Int32), k5 x1 x2 = some r → ∀ (H : Heap) (locs : List Loc) (ls : Array Slot), va_P D vwCl (w_X11_most cB cI cJ a_this a_cards a_county a_holes a_text a_letter a_where a_rank a_value a_hour a_readLetter a_readWhere a_readRank a_readValue a_readHour a_listName a_listDay a_voterName a_voterDay a_voterCounty a_heaps a_speed a_four a_byRules a_hours a_rest a_yet a_put v_kept v_length v_items v_readItems v_at v_lists v_voters v_needed v_four) H → va_D A (w_X11_most cB cI cJ a_this a_cards a_county a_holes a_text a_letter a_where a_rank a_value a_hour a_readLetter a_readWhere a_readRank a_readValue a_readHour a_listName a_listDay a_voterName a_voterDay a_voterCounty a_heaps a_speed a_four a_byRules a_hours a_rest a_yet a_put v_kept v_length v_items v_readItems v_at v_lists v_voters v_needed v_four) → va_S A s.heap H locs → lv_has ls 5 [(0, .ref a_this), (1, .int x1), (2, .int x2)] → W p l e rm_X11_most s m args below meth c H locs 0 0 Q (F0 m 5 ls [])) (by intro x1 x2 hf; exact wk_no hf) (by
    intro k5 ih5
    have L28 := wk_loopI (F := (fun k28 : Int32 → Int32 → Int32 → Int32 → Option Int32 => B_X11_most_28 N v_four k5 k28)) (bot := fun _ _ _ _ => none) (fun k28 : Int32 → Int32 → Int32 → Int32 → Option Int32 => ∀ (x1 : Int32) (x2 : Int32) (x3 : Int32) (x4 : Int32), k28 x1 x2 x3 x4 = some r → ∀ (H : Heap) (locs : List Loc) (ls : Array Slot), va_P D vwCl (w_X11_most cB cI cJ a_this a_cards a_county a_holes a_text a_letter a_where a_rank a_value a_hour a_readLetter a_readWhere a_readRank a_readValue a_readHour a_listName a_listDay a_voterName a_voterDay a_voterCounty a_heaps a_speed a_four a_byRules a_hours a_rest a_yet a_put v_kept v_length v_items v_readItems v_at v_lists v_voters v_needed v_four) H → va_D A (w_X11_most cB cI cJ a_this a_cards a_county a_holes a_text a_letter a_where a_rank a_value a_hour a_readLetter a_readWhere a_readRank a_readValue a_readHour a_listName a_listDay a_voterName a_voterDay a_voterCounty a_heaps a_speed a_four a_byRules a_hours a_rest a_yet a_put v_kept v_length v_items v_readItems v_at v_lists v_voters v_needed v_four) → va_S A s.heap H locs → lv_has ls 5 [(0, .ref a_this), (1, .int x1), (2, .int x2), (3, .int x3), (4, .int x4)] → W p l e rm_X11_most s m args below meth c H locs 0 0 Q (F0 m 28 ls [])) (by intro x1 x2 x3 x4 hf; exact wk_no hf) (by
      intro k28 ih28
      intro x1 x2 x3 x4 hf H locs ls hP hD hS hl
      have hf : B_X11_most_28 N v_four k5 k28 x1 x2 x3 x4 = some r := hf
      unfold B_X11_most_28 at hf
      refine lv_iload hx hb dX11_most_28 (lv_at hl 4 rfl) ?_
      refine lv_iconst (v := (4 : Int32)) hx hb dX11_most_30 (by decide) ?_
      refine lv_icmp_ge (tgt := 72) hx hb dX11_most_31 (by decide) (fun c1 => ?_) (fun c1 => ?_)
      · have hf := wk_itT hf c1
        refine lv_iload_n hx hb dX11_most_72 rfl (lv_at hl 3 rfl) ?_
        refine lv_if_eq (tgt := 80) hx hb dX11_most_73 (by decide) (fun c2 => ?_) (fun c2 => ?_)
        · have hf := wk_itT hf c2
          refine lv_iload_n hx hb dX11_most_80 rfl (lv_at hl 1 rfl) ?_
          refine lv_istore_n (lv' := [(1, .int x1), (0, .ref a_this), (2, .int x2), (3, .int x3), (4, .int x4)]) hx hb dX11_most_81 rfl hl (by decide) rfl (fun ls hl => ?_)
          obtain ⟨y3, ey3⟩ : ∃ y : Int32, y = x2 + (1 : Int32) := ⟨_, rfl⟩
          have hf := wk_nmE hf ey3
          refine lv_iinc (v := y3) (lv' := [(2, .int y3), (1, .int x1), (0, .ref a_this), (3, .int x3), (4, .int x4)]) hx hb dX11_most_82 hl (k := 2) rfl (by rw [ey3]; rfl) (by decide) rfl (fun ls hl => ?_)
          refine lv_goto (tgt := 5) hx hb dX11_most_85 (by decide) ?_
          exact ih5 _ _ hf _ _ _ hP hD hS (lv_sub hl [2, 1, 0] rfl)
        · have hf := wk_itF hf c2
          refine lv_iload_n hx hb dX11_most_76 rfl (lv_at hl 2 rfl) ?_
          refine lv_goto (tgt := 81) hx hb dX11_most_77 (by decide) ?_
          refine lv_istore_n (lv' := [(1, .int x2), (0, .ref a_this), (2, .int x2), (3, .int x3), (4, .int x4)]) hx hb dX11_most_81 rfl hl (by decide) rfl (fun ls hl => ?_)
          obtain ⟨y4, ey4⟩ : ∃ y : Int32, y = x2 + (1 : Int32) := ⟨_, rfl⟩
          have hf := wk_nmE hf ey4
          refine lv_iinc (v := y4) (lv' := [(2, .int y4), (1, .int x2), (0, .ref a_this), (3, .int x3), (4, .int x4)]) hx hb dX11_most_82 hl (k := 2) rfl (by rw [ey4]; rfl) (by decide) rfl (fun ls hl => ?_)
          refine lv_goto (tgt := 5) hx hb dX11_most_85 (by decide) ?_
          exact ih5 _ _ hf _ _ _ hP hD hS (lv_sub hl [2, 1, 0] rfl)
      · have hf := wk_itF hf c1
        refine lv_iload_n hx hb dX11_most_34 rfl (lv_at hl 3 rfl) ?_
        refine lv_if_eq (tgt := 64) hx hb dX11_most_35 (by decide) (fun c5 => ?_) (fun c5 => ?_)
        · have hf := wk_itT hf c5
          refine lv_iconst (v := (0 : Int32)) hx hb dX11_most_64 (by decide) ?_
          refine lv_istore_n (lv' := [(3, .int (0 : Int32)), (0, .ref a_this), (1, .int x1), (2, .int x2), (4, .int x4)]) hx hb dX11_most_65 rfl hl (by decide) rfl (fun ls hl => ?_)
          obtain ⟨y6, ey6⟩ : ∃ y : Int32, y = x4 + (1 : Int32) := ⟨_, rfl⟩
          have hf := wk_nmE hf ey6
          refine lv_iinc (v := y6) (lv' := [(4, .int y6), (3, .int (0 : Int32)), (0, .ref a_this), (1, .int x1), (2, .int x2)]) hx hb dX11_most_66 hl (k := 4) rfl (by rw [ey6]; rfl) (by decide) rfl (fun ls hl => ?_)
          refine lv_goto (tgt := 28) hx hb dX11_most_69 (by decide) ?_
          exact ih28 _ _ _ _ hf _ _ _ hP hD hS (lv_sub hl [2, 3, 4, 1, 0] rfl)
        · have hf := wk_itF hf c5
          refine lv_iload hx hb dX11_most_38 (lv_at hl 4 rfl) ?_
          refine lv_iload_n hx hb dX11_most_40 rfl (lv_at hl 2 rfl) ?_
          refine lv_icmp_eq (tgt := 60) hx hb dX11_most_41 (by decide) (fun c7 => ?_) (fun c7 => ?_)
          · have hf := wk_itT hf c7
            refine lv_iconst (v := (1 : Int32)) hx hb dX11_most_60 (by decide) ?_
            refine lv_goto (tgt := 65) hx hb dX11_most_61 (by decide) ?_
            refine lv_istore_n (lv' := [(3, .int (1 : Int32)), (0, .ref a_this), (1, .int x1), (2, .int x2), (4, .int x4)]) hx hb dX11_most_65 rfl hl (by decide) rfl (fun ls hl => ?_)
            obtain ⟨y8, ey8⟩ : ∃ y : Int32, y = x4 + (1 : Int32) := ⟨_, rfl⟩
            have hf := wk_nmE hf ey8
            refine lv_iinc (v := y8) (lv' := [(4, .int y8), (3, .int (1 : Int32)), (0, .ref a_this), (1, .int x1), (2, .int x2)]) hx hb dX11_most_66 hl (k := 4) rfl (by rw [ey8]; rfl) (by decide) rfl (fun ls hl => ?_)
            refine lv_goto (tgt := 28) hx hb dX11_most_69 (by decide) ?_
            exact ih28 _ _ _ _ hf _ _ _ hP hD hS (lv_sub hl [2, 3, 4, 1, 0] rfl)
          · have hf := wk_itF hf c7
            refine lv_aload_n hx hb dX11_most_44 rfl (lv_at hl 0 rfl) ?_
            refine va_get (D := D) (ci := 11) (v := .ref a_four) (C := RX11) (T := TX11) (N := 35) hx hb hts in_X11_most_X11 hown hK hP 0 rfl rfl 29 (by decide) (hts (.fieldLink RX11 79 "HangingCardsModel" "four" "[I") (List.mem_of_getElem? (i := 1) rfl)) (fun _ h9 => h9) rfl dX11_most_45 ?_
            refine lv_iload hx hb dX11_most_48 (lv_at hl 4 rfl) ?_
            obtain ⟨hi9, hf⟩ := wk_ckE hf
            refine va_iald hx hb hK hP 1 0 rfl rfl hi9 dX11_most_50 ?_
            refine lv_aload_n hx hb dX11_most_51 rfl (lv_at hl 0 rfl) ?_
            refine va_get (D := D) (ci := 11) (v := .ref a_four) (C := RX11) (T := TX11) (N := 35) hx hb hts in_X11_most_X11 hown hK hP 0 rfl rfl 29 (by decide) (hts (.fieldLink RX11 79 "HangingCardsModel" "four" "[I") (List.mem_of_getElem? (i := 1) rfl)) (fun _ h9 => h9) rfl dX11_most_52 ?_
            refine lv_iload_n hx hb dX11_most_55 rfl (lv_at hl 2 rfl) ?_
            obtain ⟨hi10, hf⟩ := wk_ckE hf
            refine va_iald hx hb hK hP 1 0 rfl rfl hi10 dX11_most_56 ?_
            refine lv_icmp_ge (tgt := 64) hx hb dX11_most_57 (by decide) (fun c11 => ?_) (fun c11 => ?_)
            · have hf := wk_itT hf c11
              refine lv_iconst (v := (0 : Int32)) hx hb dX11_most_64 (by decide) ?_
              refine lv_istore_n (lv' := [(3, .int (0 : Int32)), (0, .ref a_this), (1, .int x1), (2, .int x2), (4, .int x4)]) hx hb dX11_most_65 rfl hl (by decide) rfl (fun ls hl => ?_)
              obtain ⟨y12, ey12⟩ : ∃ y : Int32, y = x4 + (1 : Int32) := ⟨_, rfl⟩
              have hf := wk_nmE hf ey12
              refine lv_iinc (v := y12) (lv' := [(4, .int y12), (3, .int (0 : Int32)), (0, .ref a_this), (1, .int x1), (2, .int x2)]) hx hb dX11_most_66 hl (k := 4) rfl (by rw [ey12]; rfl) (by decide) rfl (fun ls hl => ?_)
              refine lv_goto (tgt := 28) hx hb dX11_most_69 (by decide) ?_
              exact ih28 _ _ _ _ hf _ _ _ hP hD hS (lv_sub hl [2, 3, 4, 1, 0] rfl)
            · have hf := wk_itF hf c11
              refine lv_iconst (v := (1 : Int32)) hx hb dX11_most_60 (by decide) ?_
              refine lv_goto (tgt := 65) hx hb dX11_most_61 (by decide) ?_
              refine lv_istore_n (lv' := [(3, .int (1 : Int32)), (0, .ref a_this), (1, .int x1), (2, .int x2), (4, .int x4)]) hx hb dX11_most_65 rfl hl (by decide) rfl (fun ls hl => ?_)
              obtain ⟨y13, ey13⟩ : ∃ y : Int32, y = x4 + (1 : Int32) := ⟨_, rfl⟩
              have hf := wk_nmE hf ey13
              refine lv_iinc (v := y13) (lv' := [(4, .int y13), (3, .int (1 : Int32)), (0, .ref a_this), (1, .int x1), (2, .int x2)]) hx hb dX11_most_66 hl (k := 4) rfl (by rw [ey13]; rfl) (by decide) rfl (fun ls hl => ?_)
              refine lv_goto (tgt := 28) hx hb dX11_most_69 (by decide) ?_
              exact ih28 _ _ _ _ hf _ _ _ hP hD hS (lv_sub hl [2, 3, 4, 1, 0] rfl))
    intro x1 x2 hf H locs ls hP hD hS hl
    have hf : B_X11_most_5 N v_four k5 x1 x2 = some r := hf
    unfold B_X11_most_5 at hf
    refine lv_iload_n hx hb dX11_most_5 rfl (lv_at hl 2 rfl) ?_
    refine lv_iconst (v := (4 : Int32)) hx hb dX11_most_6 (by decide) ?_
    refine lv_icmp_ge (tgt := 88) hx hb dX11_most_7 (by decide) (fun c14 => ?_) (fun c14 => ?_)
    · have hf := wk_itT hf c14
      refine lv_iload_n hx hb dX11_most_88 rfl (lv_at hl 1 rfl) ?_
      exact hret _ _ _ _ _ _ dX11_most_89 (wk_rt hf (fun z => z)) rfl hP hD hS
    · have hf := wk_itF hf c14
      refine lv_aload_n hx hb dX11_most_10 rfl (lv_at hl 0 rfl) ?_
      refine va_get (D := D) (ci := 11) (v := .ref a_four) (C := RX11) (T := TX11) (N := 35) hx hb hts in_X11_most_X11 hown hK hP 0 rfl rfl 29 (by decide) (hts (.fieldLink RX11 79 "HangingCardsModel" "four" "[I") (List.mem_of_getElem? (i := 1) rfl)) (fun _ h9 => h9) rfl dX11_most_11 ?_
      refine lv_iload_n hx hb dX11_most_14 rfl (lv_at hl 2 rfl) ?_
      obtain ⟨hi15, hf⟩ := wk_ckE hf
      refine va_iald hx hb hK hP 1 0 rfl rfl hi15 dX11_most_15 ?_
      refine lv_if_le (tgt := 23) hx hb dX11_most_16 (by decide) (fun c16 => ?_) (fun c16 => ?_)
      · have hf := wk_itT hf c16
        refine lv_iconst (v := (0 : Int32)) hx hb dX11_most_23 (by decide) ?_
        refine lv_istore_n (lv' := [(3, .int (0 : Int32)), (0, .ref a_this), (1, .int x1), (2, .int x2)]) hx hb dX11_most_24 rfl hl (by decide) rfl (fun ls hl => ?_)
        refine lv_iconst (v := (0 : Int32)) hx hb dX11_most_25 (by decide) ?_
        refine lv_istore (lv' := [(4, .int (0 : Int32)), (3, .int (0 : Int32)), (0, .ref a_this), (1, .int x1), (2, .int x2)]) hx hb dX11_most_26 hl (by decide) rfl (fun ls hl => ?_)
        exact L28 N _ _ _ _ hf _ _ _ hP hD hS (lv_sub hl [2, 3, 4, 1, 0] rfl)
      · have hf := wk_itF hf c16
        refine lv_iconst (v := (1 : Int32)) hx hb dX11_most_19 (by decide) ?_
        refine lv_goto (tgt := 24) hx hb dX11_most_20 (by decide) ?_
        refine lv_istore_n (lv' := [(3, .int (1 : Int32)), (0, .ref a_this), (1, .int x1), (2, .int x2)]) hx hb dX11_most_24 rfl hl (by decide) rfl (fun ls hl => ?_)
        refine lv_iconst (v := (0 : Int32)) hx hb dX11_most_25 (by decide) ?_
        refine lv_istore (lv' := [(4, .int (0 : Int32)), (3, .int (1 : Int32)), (0, .ref a_this), (1, .int x1), (2, .int x2)]) hx hb dX11_most_26 hl (by decide) rfl (fun ls hl => ?_)
        exact L28 N _ _ _ _ hf _ _ _ hP hD hS (lv_sub hl [2, 3, 4, 1, 0] rfl))
  unfold f_X11_most at hf
  refine lv_bipush (v := (-4 : Int32)) hx hb dX11_most_0 (by decide) ?_
  refine lv_istore_n (lv' := [(1, .int (-4 : Int32)), (0, .ref a_this)]) hx hb dX11_most_2 rfl hl (by decide) rfl (fun ls hl => ?_)
  refine lv_iconst (v := (0 : Int32)) hx hb dX11_most_3 (by decide) ?_
  refine lv_istore_n (lv' := [(2, .int (0 : Int32)), (1, .int (-4 : Int32)), (0, .ref a_this)]) hx hb dX11_most_4 rfl hl (by decide) rfl (fun ls hl => ?_)
  exact L5 N _ _ hf _ _ _ hP hD hS (lv_sub hl [2, 1, 0] rfl)
abbrev w_X11_winner (cB cI cJ : ClassId) (a_this : Nat) (a_cards : Nat) (a_county : Nat) (a_holes : Nat) (a_text : Nat) (a_letter : Nat) (a_where : Nat) (a_rank : Nat) (a_value : Nat) (a_hour : Nat) (a_readLetter : Nat) (a_readWhere : Nat) (a_readRank : Nat) (a_readValue : Nat) (a_readHour : Nat) (a_listName : Nat) (a_listDay : Nat) (a_voterName : Nat) (a_voterDay : Nat) (a_voterCounty : Nat) (a_heaps : Nat) (a_speed : Nat) (a_four : Nat) (a_byRules : Nat) (a_hours : Nat) (a_rest : Nat) (a_yet : Nat) (a_put : Nat) (v_kept : Int32) (v_length : Int32) (v_items : Int32) (v_readItems : Int32) (v_at : Int32) (v_lists : Int32) (v_voters : Int32) (v_needed : Int32) (v_cards : Nat → Int32) (v_county : Nat → Int32) (v_four : Nat → Int32) (v_holes : Nat → Int32) (v_hour : Nat → Int32) (v_letter : Nat → Int32) (v_rank : Nat → Int32) (v_value : Nat → Int32) (v_where : Nat → Int32) : va_W := [(a_this, .inr (11, [.ref a_cards, .ref a_county, .ref a_holes, .int v_kept, .int v_length, .ref a_text, .int v_items, .ref a_letter, .ref a_where, .ref a_rank, .ref a_value, .ref a_hour, .int v_readItems, .ref a_readLetter, .ref a_readWhere, .ref a_readRank, .ref a_readValue, .ref a_readHour, .int v_at, .int v_lists, .ref a_listName, .ref a_listDay, .int v_voters, .ref a_voterName, .ref a_voterDay, .ref a_voterCounty, .int v_needed, .ref a_heaps, .ref a_speed, .ref a_four, .ref a_byRules, .ref a_hours, .ref a_rest, .ref a_yet, .ref a_put])), (a_cards, .inl (cI, 3, .inl v_cards)), (a_county, .inl (cI, 120, .inl v_county)), (a_four, .inl (cI, 4, .inl v_four)), (a_holes, .inl (cI, 1440, .inl v_holes)), (a_hour, .inl (cI, 40, .inl v_hour)), (a_letter, .inl (cI, 40, .inl v_letter)), (a_rank, .inl (cI, 40, .inl v_rank)), (a_value, .inl (cI, 40, .inl v_value)), (a_where, .inl (cI, 40, .inl v_where))]
theorem hd_X11_winner : yX11_winner.cls = RX11 ∧ yX11_winner.cls ≠ "java/lang/invoke/MethodHandle" ∧ yX11_winner.cls ≠ "java/lang/invoke/VarHandle" ∧ (parseMethodDescriptor yX11_winner.desc).map (fun d => d.parameters.length) = some 3 := by decide +kernel
abbrev rm_X11_winner : Room := { frames := 4, cells := 0, slots := 0, locals := 103 }
theorem in_X11_winner_X11 : ∀ w ∈ wsX110, w ∈ wsX11_winner := fun w h => List.mem_cons_of_mem _ (List.mem_append_right _ h)
set_option maxHeartbeats 4000000 in
set_option maxRecDepth 100000 in
theorem c_X11_winner (l : Launch) (D : va_G) (cB cI cJ : ClassId) (N : Nat) (a_this : Nat) (a_cards : Nat) (a_county : Nat) (a_holes : Nat) (a_text : Nat) (a_letter : Nat) (a_where : Nat) (a_rank : Nat) (a_value : Nat) (a_hour : Nat) (a_readLetter : Nat) (a_readWhere : Nat) (a_readRank : Nat) (a_readValue : Nat) (a_readHour : Nat) (a_listName : Nat) (a_listDay : Nat) (a_voterName : Nat) (a_voterDay : Nat) (a_voterCounty : Nat) (a_heaps : Nat) (a_speed : Nat) (a_four : Nat) (a_byRules : Nat) (a_hours : Nat) (a_rest : Nat) (a_yet : Nat) (a_put : Nat) (v_kept : Int32) (v_length : Int32) (v_items : Int32) (v_readItems : Int32) (v_at : Int32) (v_lists : Int32) (v_voters : Int32) (v_needed : Int32) (v_cards : Nat → Int32) (v_county : Nat → Int32) (v_four : Nat → Int32) (v_holes : Nat → Int32) (v_hour : Nat → Int32) (v_letter : Nat → Int32) (v_rank : Nat → Int32) (v_value : Nat → Int32) (v_where : Nat → Int32) (x1 : Int32) (x2 : Int32) (x3 : Int32) {r : Int32} {o_four : Nat → Int32} (hf : f_X11_winner N v_items v_cards v_county v_holes v_hour v_letter v_rank v_value v_where v_four x1 x2 x3 = some (r, o_four)) : MTi l yX11_winner wsX11_winner rm_X11_winner D (wk_T cB cI cJ) [.ref a_this, .int x1, .int x2, .int x3] (w_X11_winner cB cI cJ a_this a_cards a_county a_holes a_text a_letter a_where a_rank a_value a_hour a_readLetter a_readWhere a_readRank a_readValue a_readHour a_listName a_listDay a_voterName a_voterDay a_voterCounty a_heaps a_speed a_four a_byRules a_hours a_rest a_yet a_put v_kept v_length v_items v_readItems v_at v_lists v_voters v_needed v_cards v_county v_four v_holes v_hour v_letter v_rank v_value v_where) (w_X11_winner cB cI cJ a_this a_cards a_county a_holes a_text a_letter a_where a_rank a_value a_hour a_readLetter a_readWhere a_readRank a_readValue a_readHour a_listName a_listDay a_voterName a_voterDay a_voterCounty a_heaps a_speed a_four a_byRules a_hours a_rest a_yet a_put v_kept v_length v_items v_readItems v_at v_lists v_voters v_needed v_cards v_county o_four v_holes v_hour v_letter v_rank v_value v_where) r := by
  refine MTi.of (cc := cX11_winner) (nL := 5) (rt := .int) (own := RX11) pn_X11 rfl rfl (Nat.le_of_ble_eq_true rfl) rfl ?_
  intro p e s m args below meth c A ls Q C hP hD hS hl hret
  obtain ⟨hx, hb, hml, hts, hown, hK, hN, hA, hlk⟩ := id C
  have hl : lv_has ls 5 [(0, .ref a_this), (1, .int x1), (2, .int x2), (3, .int x3)] := hl
  have L24 := wk_loopI (F := (fun k24 : (Nat → Int32) → Int32 → Int32 → Int32 → Int32 → Option (Int32 × (Nat → Int32)) => B_X11_winner_24 N v_items v_cards v_county v_holes v_hour v_letter v_rank v_value v_where k24)) (bot := fun _ _ _ _ _ => none) (fun k24 : (Nat → Int32) → Int32 → Int32 → Int32 → Int32 → Option (Int32 × (Nat → Int32)) => ∀ (v_four : Nat → Int32) (x1 : Int32) (x2 : Int32) (x3 : Int32) (x4 : Int32), k24 v_four x1 x2 x3 x4 = some (r, o_four) → ∀ (H : Heap) (locs : List Loc) (ls : Array Slot), va_P D vwCl (w_X11_winner cB cI cJ a_this a_cards a_county a_holes a_text a_letter a_where a_rank a_value a_hour a_readLetter a_readWhere a_readRank a_readValue a_readHour a_listName a_listDay a_voterName a_voterDay a_voterCounty a_heaps a_speed a_four a_byRules a_hours a_rest a_yet a_put v_kept v_length v_items v_readItems v_at v_lists v_voters v_needed v_cards v_county v_four v_holes v_hour v_letter v_rank v_value v_where) H → va_D A (w_X11_winner cB cI cJ a_this a_cards a_county a_holes a_text a_letter a_where a_rank a_value a_hour a_readLetter a_readWhere a_readRank a_readValue a_readHour a_listName a_listDay a_voterName a_voterDay a_voterCounty a_heaps a_speed a_four a_byRules a_hours a_rest a_yet a_put v_kept v_length v_items v_readItems v_at v_lists v_voters v_needed v_cards v_county v_four v_holes v_hour v_letter v_rank v_value v_where) → va_S A s.heap H locs → lv_has ls 5 [(0, .ref a_this), (1, .int x1), (2, .int x2), (3, .int x3), (4, .int x4)] → W p l e rm_X11_winner s m args below meth c H locs 0 0 Q (F0 m 24 ls [])) (by intro v_four x1 x2 x3 x4 hf; exact wk_no hf) (by
    intro k24 ih24
    intro v_four x1 x2 x3 x4 hf H locs ls hP hD hS hl
    have hf : B_X11_winner_24 N v_items v_cards v_county v_holes v_hour v_letter v_rank v_value v_where k24 v_four x1 x2 x3 x4 = some (r, o_four) := hf
    unfold B_X11_winner_24 at hf
    refine lv_iload hx hb dX11_winner_24 (lv_at hl 4 rfl) ?_
    refine lv_iconst (v := (4 : Int32)) hx hb dX11_winner_26 (by decide) ?_
    refine lv_icmp_ge (tgt := 53) hx hb dX11_winner_27 (by decide) (fun c1 => ?_) (fun c1 => ?_)
    · have hf := wk_itT hf c1
      refine lv_aload_n hx hb dX11_winner_53 rfl (lv_at hl 0 rfl) ?_
      obtain ⟨r2, hc2, hf⟩ := wk_b1E hf
      refine wk_callVi2 C hP hD hS (c_X11_most l D cB cI cJ N a_this a_cards a_county a_holes a_text a_letter a_where a_rank a_value a_hour a_readLetter a_readWhere a_readRank a_readValue a_readHour a_listName a_listDay a_voterName a_voterDay a_voterCounty a_heaps a_speed a_four a_byRules a_hours a_rest a_yet a_put v_kept v_length v_items v_readItems v_at v_lists v_voters v_needed v_four hc2) (cwV 0 hts gX11_winner_X11_most rfl rfl rfl hd_X11_most ⟨Nat.le_of_ble_eq_true rfl, Nat.le_of_ble_eq_true rfl⟩) hl.1 ⟨Nat.zero_le _, Nat.zero_le _⟩ [0, 3] [1, 2, 4, 5, 6, 7, 8, 9] 10 (by decide +kernel) rfl (Wn := w_X11_winner cB cI cJ a_this a_cards a_county a_holes a_text a_letter a_where a_rank a_value a_hour a_readLetter a_readWhere a_readRank a_readValue a_readHour a_listName a_listDay a_voterName a_voterDay a_voterCounty a_heaps a_speed a_four a_byRules a_hours a_rest a_yet a_put v_kept v_length v_items v_readItems v_at v_lists v_voters v_needed v_cards v_county v_four v_holes v_hour v_letter v_rank v_value v_where) rfl rfl rfl rfl rfl rfl (ci := 11) rfl rfl (q0 := 0) rfl rfl rfl (Nat.le_of_ble_eq_true rfl) dX11_winner_54 (fun H locs hP hD hS => ?_)
      exact hret _ _ _ _ _ _ dX11_winner_57 (wk_rt hf (fun z => z.1)) (wk_rt hf (fun z => w_X11_winner cB cI cJ a_this a_cards a_county a_holes a_text a_letter a_where a_rank a_value a_hour a_readLetter a_readWhere a_readRank a_readValue a_readHour a_listName a_listDay a_voterName a_voterDay a_voterCounty a_heaps a_speed a_four a_byRules a_hours a_rest a_yet a_put v_kept v_length v_items v_readItems v_at v_lists v_voters v_needed v_cards v_county (z.2) v_holes v_hour v_letter v_rank v_value v_where)) hP hD hS
    · have hf := wk_itF hf c1
      refine lv_aload_n hx hb dX11_winner_30 rfl (lv_at hl 0 rfl) ?_
      refine va_get (D := D) (ci := 11) (v := .ref a_four) (C := RX11) (T := TX11) (N := 35) hx hb hts in_X11_winner_X11 hown hK hP 0 rfl rfl 29 (by decide) (hts (.fieldLink RX11 79 "HangingCardsModel" "four" "[I") (List.mem_of_getElem? (i := 2) rfl)) (fun _ h9 => h9) rfl dX11_winner_31 ?_
      refine lv_iload hx hb dX11_winner_34 (lv_at hl 4 rfl) ?_
      refine lv_aload_n hx hb dX11_winner_36 rfl (lv_at hl 0 rfl) ?_
      refine lv_iconst (v := (5 : Int32)) hx hb dX11_winner_37 (by decide) ?_
      refine lv_iload_n hx hb dX11_winner_38 rfl (lv_at hl 1 rfl) ?_
      refine lv_iload hx hb dX11_winner_39 (lv_at hl 4 rfl) ?_
      refine lv_iload_n hx hb dX11_winner_41 rfl (lv_at hl 2 rfl) ?_
      refine lv_iload_n hx hb dX11_winner_42 rfl (lv_at hl 3 rfl) ?_
      obtain ⟨r3, hc3, hf⟩ := wk_b1E hf
      refine wk_callVi2 C hP hD hS (c_X11_countedOf l D cB cI cJ N a_this a_cards a_county a_holes a_text a_letter a_where a_rank a_value a_hour a_readLetter a_readWhere a_readRank a_readValue a_readHour a_listName a_listDay a_voterName a_voterDay a_voterCounty a_heaps a_speed a_four a_byRules a_hours a_rest a_yet a_put v_kept v_length v_items v_readItems v_at v_lists v_voters v_needed v_cards v_county v_holes v_hour v_letter v_rank v_value v_where (5 : Int32) x1 x4 x2 x3 hc3) (cwV 5 hts gX11_winner_X11_countedOf rfl rfl rfl hd_X11_countedOf ⟨Nat.le_of_ble_eq_true rfl, Nat.le_of_ble_eq_true rfl⟩) hl.1 ⟨Nat.zero_le _, Nat.zero_le _⟩ [0, 1, 2, 4, 5, 6, 7, 8, 9] [3] 10 (by decide +kernel) rfl (Wn := w_X11_winner cB cI cJ a_this a_cards a_county a_holes a_text a_letter a_where a_rank a_value a_hour a_readLetter a_readWhere a_readRank a_readValue a_readHour a_listName a_listDay a_voterName a_voterDay a_voterCounty a_heaps a_speed a_four a_byRules a_hours a_rest a_yet a_put v_kept v_length v_items v_readItems v_at v_lists v_voters v_needed v_cards v_county v_four v_holes v_hour v_letter v_rank v_value v_where) rfl rfl rfl rfl rfl rfl (ci := 11) rfl rfl (q0 := 0) rfl rfl rfl (Nat.le_of_ble_eq_true rfl) dX11_winner_43 (fun H locs hP hD hS => ?_)
      obtain ⟨hi4, hf⟩ := wk_ckE hf
      refine va_iast hx hb hK hP hD hS 3 0 rfl rfl hi4 dX11_winner_46 (fun H locs hP hD hS => ?_)
      have hP : va_P D vwCl (w_X11_winner cB cI cJ a_this a_cards a_county a_holes a_text a_letter a_where a_rank a_value a_hour a_readLetter a_readWhere a_readRank a_readValue a_readHour a_listName a_listDay a_voterName a_voterDay a_voterCounty a_heaps a_speed a_four a_byRules a_hours a_rest a_yet a_put v_kept v_length v_items v_readItems v_at v_lists v_voters v_needed v_cards v_county (upd v_four x4.toNatClampNeg r3) v_holes v_hour v_letter v_rank v_value v_where) H := hP
      have hD : va_D A (w_X11_winner cB cI cJ a_this a_cards a_county a_holes a_text a_letter a_where a_rank a_value a_hour a_readLetter a_readWhere a_readRank a_readValue a_readHour a_listName a_listDay a_voterName a_voterDay a_voterCounty a_heaps a_speed a_four a_byRules a_hours a_rest a_yet a_put v_kept v_length v_items v_readItems v_at v_lists v_voters v_needed v_cards v_county (upd v_four x4.toNatClampNeg r3) v_holes v_hour v_letter v_rank v_value v_where) := hD
      obtain ⟨y5, ey5⟩ : ∃ y : Int32, y = x4 + (1 : Int32) := ⟨_, rfl⟩
      have hf := wk_nmE hf ey5
      refine lv_iinc (v := y5) (lv' := [(4, .int y5), (0, .ref a_this), (1, .int x1), (2, .int x2), (3, .int x3)]) hx hb dX11_winner_47 hl (k := 4) rfl (by rw [ey5]; rfl) (by decide) rfl (fun ls hl => ?_)
      refine lv_goto (tgt := 24) hx hb dX11_winner_50 (by decide) ?_
      exact ih24 _ _ _ _ _ hf _ _ _ hP hD hS (lv_sub hl [1, 2, 3, 4, 0] rfl))
  unfold f_X11_winner at hf
  refine lv_iload_n hx hb dX11_winner_0 rfl (lv_at hl 1 rfl) ?_
  refine lv_i2l (v := (x1.toInt64)) hx hb dX11_winner_1 rfl ?_
  refine lv_lconst (v := (0 : Int64)) hx hb dX11_winner_2 (by decide) ?_
  refine lv_ldc2 (v := (2 : Int64)) hx hb hown (hts (.constantLong RX11 115 (2)) (List.mem_of_getElem? (i := 1) rfl)) dX11_winner_3 ?_
  obtain ⟨r6, hc6, hf⟩ := wk_b1E hf
  refine wk_callSi2 C hP hD hS (c_X11_in l D cB cI cJ N (x1.toInt64) (0 : Int64) (2 : Int64) hc6) (va_cwS 3 hts gX11_winner_X11_in rfl rfl rfl hd_X11_in.2 ⟨Nat.le_of_ble_eq_true rfl, Nat.le_of_ble_eq_true rfl⟩) hl.1 ⟨Nat.zero_le _, Nat.zero_le _⟩ [] [0, 1, 2, 3, 4, 5, 6, 7, 8, 9] 10 (by decide +kernel) rfl (Wn := w_X11_winner cB cI cJ a_this a_cards a_county a_holes a_text a_letter a_where a_rank a_value a_hour a_readLetter a_readWhere a_readRank a_readValue a_readHour a_listName a_listDay a_voterName a_voterDay a_voterCounty a_heaps a_speed a_four a_byRules a_hours a_rest a_yet a_put v_kept v_length v_items v_readItems v_at v_lists v_voters v_needed v_cards v_county v_four v_holes v_hour v_letter v_rank v_value v_where) rfl rfl rfl rfl rfl rfl rfl rfl (Nat.le_of_ble_eq_true rfl) dX11_winner_6 (fun H locs hP hD hS => ?_)
  refine lv_if_eq (tgt := 19) hx hb dX11_winner_9 (by decide) (fun c7 => ?_) (fun c7 => ?_)
  · have hf := wk_itT hf c7
    refine lv_iconst (v := (-1 : Int32)) hx hb dX11_winner_19 (by decide) ?_
    exact hret _ _ _ _ _ _ dX11_winner_20 (wk_rt hf (fun z => z.1)) (wk_rt hf (fun z => w_X11_winner cB cI cJ a_this a_cards a_county a_holes a_text a_letter a_where a_rank a_value a_hour a_readLetter a_readWhere a_readRank a_readValue a_readHour a_listName a_listDay a_voterName a_voterDay a_voterCounty a_heaps a_speed a_four a_byRules a_hours a_rest a_yet a_put v_kept v_length v_items v_readItems v_at v_lists v_voters v_needed v_cards v_county (z.2) v_holes v_hour v_letter v_rank v_value v_where)) hP hD hS
  · have hf := wk_itF hf c7
    refine lv_iload_n hx hb dX11_winner_12 rfl (lv_at hl 2 rfl) ?_
    obtain ⟨r8, hc8, hf⟩ := wk_b1E hf
    refine wk_callSi2 C hP hD hS (c_X11_isHour l D cB cI cJ N x2 hc8) (va_cwS 1 hts gX11_winner_X11_isHour rfl rfl rfl hd_X11_isHour.2 ⟨Nat.le_of_ble_eq_true rfl, Nat.le_of_ble_eq_true rfl⟩) hl.1 ⟨Nat.zero_le _, Nat.zero_le _⟩ [] [0, 1, 2, 3, 4, 5, 6, 7, 8, 9] 10 (by decide +kernel) rfl (Wn := w_X11_winner cB cI cJ a_this a_cards a_county a_holes a_text a_letter a_where a_rank a_value a_hour a_readLetter a_readWhere a_readRank a_readValue a_readHour a_listName a_listDay a_voterName a_voterDay a_voterCounty a_heaps a_speed a_four a_byRules a_hours a_rest a_yet a_put v_kept v_length v_items v_readItems v_at v_lists v_voters v_needed v_cards v_county v_four v_holes v_hour v_letter v_rank v_value v_where) rfl rfl rfl rfl rfl rfl rfl rfl (Nat.le_of_ble_eq_true rfl) dX11_winner_13 (fun H locs hP hD hS => ?_)
    refine lv_if_ne (tgt := 21) hx hb dX11_winner_16 (by decide) (fun c9 => ?_) (fun c9 => ?_)
    · have hf := wk_itF hf c9
      refine lv_iconst (v := (0 : Int32)) hx hb dX11_winner_21 (by decide) ?_
      refine lv_istore (lv' := [(4, .int (0 : Int32)), (0, .ref a_this), (1, .int x1), (2, .int x2), (3, .int x3)]) hx hb dX11_winner_22 hl (by decide) rfl (fun ls hl => ?_)
      exact L24 N _ _ _ _ _ hf _ _ _ hP hD hS (lv_sub hl [1, 2, 3, 4, 0] rfl)
    · have hf := wk_itT hf c9
      refine lv_iconst (v := (-1 : Int32)) hx hb dX11_winner_19 (by decide) ?_
      exact hret _ _ _ _ _ _ dX11_winner_20 (wk_rt hf (fun z => z.1)) (wk_rt hf (fun z => w_X11_winner cB cI cJ a_this a_cards a_county a_holes a_text a_letter a_where a_rank a_value a_hour a_readLetter a_readWhere a_readRank a_readValue a_readHour a_listName a_listDay a_voterName a_voterDay a_voterCounty a_heaps a_speed a_four a_byRules a_hours a_rest a_yet a_put v_kept v_length v_items v_readItems v_at v_lists v_voters v_needed v_cards v_county (z.2) v_holes v_hour v_letter v_rank v_value v_where)) hP hD hS
abbrev w_X11_counts (cB cI cJ : ClassId) (a_this : Nat) (a_cards : Nat) (a_county : Nat) (a_holes : Nat) (a_text : Nat) (a_letter : Nat) (a_where : Nat) (a_rank : Nat) (a_value : Nat) (a_hour : Nat) (a_readLetter : Nat) (a_readWhere : Nat) (a_readRank : Nat) (a_readValue : Nat) (a_readHour : Nat) (a_listName : Nat) (a_listDay : Nat) (a_voterName : Nat) (a_voterDay : Nat) (a_voterCounty : Nat) (a_heaps : Nat) (a_speed : Nat) (a_four : Nat) (a_byRules : Nat) (a_hours : Nat) (a_rest : Nat) (a_yet : Nat) (a_put : Nat) (v_kept : Int32) (v_length : Int32) (v_items : Int32) (v_readItems : Int32) (v_at : Int32) (v_lists : Int32) (v_voters : Int32) (v_needed : Int32) (v_byRules : Nat → Int32) (v_cards : Nat → Int32) (v_county : Nat → Int32) (v_holes : Nat → Int32) : va_W := [(a_this, .inr (11, [.ref a_cards, .ref a_county, .ref a_holes, .int v_kept, .int v_length, .ref a_text, .int v_items, .ref a_letter, .ref a_where, .ref a_rank, .ref a_value, .ref a_hour, .int v_readItems, .ref a_readLetter, .ref a_readWhere, .ref a_readRank, .ref a_readValue, .ref a_readHour, .int v_at, .int v_lists, .ref a_listName, .ref a_listDay, .int v_voters, .ref a_voterName, .ref a_voterDay, .ref a_voterCounty, .int v_needed, .ref a_heaps, .ref a_speed, .ref a_four, .ref a_byRules, .ref a_hours, .ref a_rest, .ref a_yet, .ref a_put])), (a_byRules, .inl (cI, 120, .inl v_byRules)), (a_cards, .inl (cI, 3, .inl v_cards)), (a_county, .inl (cI, 120, .inl v_county)), (a_holes, .inl (cI, 1440, .inl v_holes))]
theorem hd_X11_counts : yX11_counts.cls = RX11 ∧ yX11_counts.cls ≠ "java/lang/invoke/MethodHandle" ∧ yX11_counts.cls ≠ "java/lang/invoke/VarHandle" ∧ (parseMethodDescriptor yX11_counts.desc).map (fun d => d.parameters.length) = some 1 := by decide +kernel
abbrev rm_X11_counts : Room := { frames := 1, cells := 0, slots := 0, locals := 28 }
theorem in_X11_counts_X11 : ∀ w ∈ wsX110, w ∈ wsX11_counts := fun w h => List.mem_cons_of_mem _ (List.mem_append_right _ h)
set_option maxHeartbeats 4000000 in
set_option maxRecDepth 100000 in
theorem c_X11_counts (l : Launch) (D : va_G) (cB cI cJ : ClassId) (N : Nat) (a_this : Nat) (a_cards : Nat) (a_county : Nat) (a_holes : Nat) (a_text : Nat) (a_letter : Nat) (a_where : Nat) (a_rank : Nat) (a_value : Nat) (a_hour : Nat) (a_readLetter : Nat) (a_readWhere : Nat) (a_readRank : Nat) (a_readValue : Nat) (a_readHour : Nat) (a_listName : Nat) (a_listDay : Nat) (a_voterName : Nat) (a_voterDay : Nat) (a_voterCounty : Nat) (a_heaps : Nat) (a_speed : Nat) (a_four : Nat) (a_byRules : Nat) (a_hours : Nat) (a_rest : Nat) (a_yet : Nat) (a_put : Nat) (v_kept : Int32) (v_length : Int32) (v_items : Int32) (v_readItems : Int32) (v_at : Int32) (v_lists : Int32) (v_voters : Int32) (v_needed : Int32) (v_byRules : Nat → Int32) (v_cards : Nat → Int32) (v_county : Nat → Int32) (v_holes : Nat → Int32) (x1 : Int32) {o_byRules : Nat → Int32} (hf : f_X11_counts N v_cards v_county v_holes v_byRules x1 = some o_byRules) : MTv l yX11_counts wsX11_counts rm_X11_counts D (wk_T cB cI cJ) [.ref a_this, .int x1] (w_X11_counts cB cI cJ a_this a_cards a_county a_holes a_text a_letter a_where a_rank a_value a_hour a_readLetter a_readWhere a_readRank a_readValue a_readHour a_listName a_listDay a_voterName a_voterDay a_voterCounty a_heaps a_speed a_four a_byRules a_hours a_rest a_yet a_put v_kept v_length v_items v_readItems v_at v_lists v_voters v_needed v_byRules v_cards v_county v_holes) (w_X11_counts cB cI cJ a_this a_cards a_county a_holes a_text a_letter a_where a_rank a_value a_hour a_readLetter a_readWhere a_readRank a_readValue a_readHour a_listName a_listDay a_voterName a_voterDay a_voterCounty a_heaps a_speed a_four a_byRules a_hours a_rest a_yet a_put v_kept v_length v_items v_readItems v_at v_lists v_voters v_needed o_byRules v_cards v_county v_holes) := by
  refine MTv.of (cc := cX11_counts) (nL := 5) (own := RX11) pn_X11 rfl rfl (Nat.le_of_ble_eq_true rfl) ?_
  intro p e s m args below meth c A ls Q C hP hD hS hl hret
  obtain ⟨hx, hb, hml, hts, hown, hK, hN, hA, hlk⟩ := id C
  have hl : lv_has ls 5 [(0, .ref a_this), (1, .int x1)] := hl
  have L23 := wk_loopI (F := (fun k23 : (Nat → Int32) → Int32 → Int32 → Option (Nat → Int32) => B_X11_counts_23 N v_cards v_county v_holes k23)) (bot := fun _ _ _ => none) (fun k23 : (Nat → Int32) → Int32 → Int32 → Option (Nat → Int32) => ∀ (v_byRules : Nat → Int32) (x1 : Int32) (x2 : Int32), k23 v_byRules x1 x2 = some o_byRules → ∀ (H : Heap) (locs : List Loc) (ls : Array Slot), va_P D vwCl (w_X11_counts cB cI cJ a_this a_cards a_county a_holes a_text a_letter a_where a_rank a_value a_hour a_readLetter a_readWhere a_readRank a_readValue a_readHour a_listName a_listDay a_voterName a_voterDay a_voterCounty a_heaps a_speed a_four a_byRules a_hours a_rest a_yet a_put v_kept v_length v_items v_readItems v_at v_lists v_voters v_needed v_byRules v_cards v_county v_holes) H → va_D A (w_X11_counts cB cI cJ a_this a_cards a_county a_holes a_text a_letter a_where a_rank a_value a_hour a_readLetter a_readWhere a_readRank a_readValue a_readHour a_listName a_listDay a_voterName a_voterDay a_voterCounty a_heaps a_speed a_four a_byRules a_hours a_rest a_yet a_put v_kept v_length v_items v_readItems v_at v_lists v_voters v_needed v_byRules v_cards v_county v_holes) → va_S A s.heap H locs → lv_has ls 5 [(0, .ref a_this), (1, .int x1), (2, .int x2)] → W p l e rm_X11_counts s m args below meth c H locs 0 0 Q (F0 m 23 ls [])) (by intro v_byRules x1 x2 hf; exact wk_no hf) (by
    intro k23 ih23
    have L35 := wk_loopI (F := (fun k35 : (Nat → Int32) → Int32 → Int32 → Int32 → Option (Nat → Int32) => B_X11_counts_35 N v_cards v_county v_holes k23 k35)) (bot := fun _ _ _ _ => none) (fun k35 : (Nat → Int32) → Int32 → Int32 → Int32 → Option (Nat → Int32) => ∀ (v_byRules : Nat → Int32) (x1 : Int32) (x2 : Int32) (x3 : Int32), k35 v_byRules x1 x2 x3 = some o_byRules → ∀ (H : Heap) (locs : List Loc) (ls : Array Slot), va_P D vwCl (w_X11_counts cB cI cJ a_this a_cards a_county a_holes a_text a_letter a_where a_rank a_value a_hour a_readLetter a_readWhere a_readRank a_readValue a_readHour a_listName a_listDay a_voterName a_voterDay a_voterCounty a_heaps a_speed a_four a_byRules a_hours a_rest a_yet a_put v_kept v_length v_items v_readItems v_at v_lists v_voters v_needed v_byRules v_cards v_county v_holes) H → va_D A (w_X11_counts cB cI cJ a_this a_cards a_county a_holes a_text a_letter a_where a_rank a_value a_hour a_readLetter a_readWhere a_readRank a_readValue a_readHour a_listName a_listDay a_voterName a_voterDay a_voterCounty a_heaps a_speed a_four a_byRules a_hours a_rest a_yet a_put v_kept v_length v_items v_readItems v_at v_lists v_voters v_needed v_byRules v_cards v_county v_holes) → va_S A s.heap H locs → lv_has ls 5 [(0, .ref a_this), (1, .int x1), (2, .int x2), (3, .int x3)] → W p l e rm_X11_counts s m args below meth c H locs 0 0 Q (F0 m 35 ls [])) (by intro v_byRules x1 x2 x3 hf; exact wk_no hf) (by
      intro k35 ih35
      intro v_byRules x1 x2 x3 hf H locs ls hP hD hS hl
      have hf : B_X11_counts_35 N v_cards v_county v_holes k23 k35 v_byRules x1 x2 x3 = some o_byRules := hf
      unfold B_X11_counts_35 at hf
      refine lv_iload_n hx hb dX11_counts_35 rfl (lv_at hl 3 rfl) ?_
      refine lv_bipush (v := (6 : Int32)) hx hb dX11_counts_36 (by decide) ?_
      refine lv_icmp_ge (tgt := 87) hx hb dX11_counts_38 (by decide) (fun c1 => ?_) (fun c1 => ?_)
      · have hf := wk_itT hf c1
        obtain ⟨y2, ey2⟩ : ∃ y : Int32, y = x2 + (1 : Int32) := ⟨_, rfl⟩
        have hf := wk_nmE hf ey2
        refine lv_iinc (v := y2) (lv' := [(2, .int y2), (0, .ref a_this), (1, .int x1), (3, .int x3)]) hx hb dX11_counts_87 hl (k := 2) rfl (by rw [ey2]; rfl) (by decide) rfl (fun ls hl => ?_)
        refine lv_goto (tgt := 23) hx hb dX11_counts_90 (by decide) ?_
        exact ih23 _ _ _ hf _ _ _ hP hD hS (lv_sub hl [1, 2, 0] rfl)
      · have hf := wk_itF hf c1
        refine lv_aload_n hx hb dX11_counts_41 rfl (lv_at hl 0 rfl) ?_
        refine lv_iload_n hx hb dX11_counts_42 rfl (lv_at hl 2 rfl) ?_
        refine lv_iload_n hx hb dX11_counts_43 rfl (lv_at hl 1 rfl) ?_
        refine lv_iload_n hx hb dX11_counts_44 rfl (lv_at hl 3 rfl) ?_
        refine lv_iconst (v := (0 : Int32)) hx hb dX11_counts_45 (by decide) ?_
        obtain ⟨r3, hc3, hf⟩ := wk_b1E hf
        refine wk_callVi2 C hP hD hS (c_X11_votes l D cB cI cJ N a_this a_cards a_county a_holes a_text a_letter a_where a_rank a_value a_hour a_readLetter a_readWhere a_readRank a_readValue a_readHour a_listName a_listDay a_voterName a_voterDay a_voterCounty a_heaps a_speed a_four a_byRules a_hours a_rest a_yet a_put v_kept v_length v_items v_readItems v_at v_lists v_voters v_needed v_holes x2 x1 x3 (0 : Int32) hc3) (cwV 4 hts gX11_counts_X11_votes rfl rfl rfl hd_X11_votes ⟨Nat.le_of_ble_eq_true rfl, Nat.le_of_ble_eq_true rfl⟩) hl.1 ⟨Nat.zero_le _, Nat.zero_le _⟩ [0, 4] [1, 2, 3] 5 (by decide +kernel) rfl (Wn := w_X11_counts cB cI cJ a_this a_cards a_county a_holes a_text a_letter a_where a_rank a_value a_hour a_readLetter a_readWhere a_readRank a_readValue a_readHour a_listName a_listDay a_voterName a_voterDay a_voterCounty a_heaps a_speed a_four a_byRules a_hours a_rest a_yet a_put v_kept v_length v_items v_readItems v_at v_lists v_voters v_needed v_byRules v_cards v_county v_holes) rfl rfl rfl rfl rfl rfl (ci := 11) rfl rfl (q0 := 0) rfl rfl rfl (Nat.le_of_ble_eq_true rfl) dX11_counts_46 (fun H locs hP hD hS => ?_)
        refine lv_istore (lv' := [(4, .int r3), (0, .ref a_this), (1, .int x1), (2, .int x2), (3, .int x3)]) hx hb dX11_counts_49 hl (by decide) rfl (fun ls hl => ?_)
        refine lv_iload hx hb dX11_counts_51 (lv_at hl 0 rfl) ?_
        refine lv_if_lt (tgt := 81) hx hb dX11_counts_53 (by decide) (fun c4 => ?_) (fun c4 => ?_)
        · have hf := wk_itT hf c4
          obtain ⟨y5, ey5⟩ : ∃ y : Int32, y = x3 + (1 : Int32) := ⟨_, rfl⟩
          have hf := wk_nmE hf ey5
          refine lv_iinc (v := y5) (lv' := [(3, .int y5), (4, .int r3), (0, .ref a_this), (1, .int x1), (2, .int x2)]) hx hb dX11_counts_81 hl (k := 4) rfl (by rw [ey5]; rfl) (by decide) rfl (fun ls hl => ?_)
          refine lv_goto (tgt := 35) hx hb dX11_counts_84 (by decide) ?_
          exact ih35 _ _ _ _ hf _ _ _ hP hD hS (lv_sub hl [2, 3, 4, 0] rfl)
        · have hf := wk_itF hf c4
          refine lv_aload_n hx hb dX11_counts_56 rfl (lv_at hl 1 rfl) ?_
          refine va_get (D := D) (ci := 11) (v := .ref a_byRules) (C := RX11) (T := TX11) (N := 35) hx hb hts in_X11_counts_X11 hown hK hP 0 rfl rfl 30 (by decide) (hts (.fieldLink RX11 82 "HangingCardsModel" "byRules" "[I") (List.mem_of_getElem? (i := 1) rfl)) (fun _ h9 => h9) rfl dX11_counts_57 ?_
          refine lv_bipush (v := (24 : Int32)) hx hb dX11_counts_60 (by decide) ?_
          refine lv_aload_n hx hb dX11_counts_62 rfl (lv_at hl 1 rfl) ?_
          refine va_get (D := D) (ci := 11) (v := .ref a_county) (C := RX11) (T := TX11) (N := 35) hx hb hts in_X11_counts_X11 hown hK hP 0 rfl rfl 1 (by decide) (hts (.fieldLink RX11 13 "HangingCardsModel" "county" "[I") (List.mem_of_getElem? (i := 3) rfl)) (fun _ h9 => h9) rfl dX11_counts_63 ?_
          refine lv_iload_n hx hb dX11_counts_66 rfl (lv_at hl 3 rfl) ?_
          obtain ⟨hi6, hf⟩ := wk_ckE hf
          refine va_iald hx hb hK hP 3 0 rfl rfl hi6 dX11_counts_67 ?_
          refine lv_imul hx hb dX11_counts_68 ?_
          refine lv_iconst (v := (4 : Int32)) hx hb dX11_counts_69 (by decide) ?_
          refine lv_iload_n hx hb dX11_counts_70 rfl (lv_at hl 4 rfl) ?_
          refine lv_imul hx hb dX11_counts_71 ?_
          refine lv_iadd hx hb dX11_counts_72 ?_
          refine lv_iload hx hb dX11_counts_73 (lv_at hl 0 rfl) ?_
          refine lv_iadd hx hb dX11_counts_75 ?_
          refine lv_dup2_11 hx hb dX11_counts_76 rfl rfl ?_
          obtain ⟨hi7, hf⟩ := wk_ckE hf
          refine va_iald hx hb hK hP 1 0 rfl rfl hi7 dX11_counts_77 ?_
          refine lv_iconst (v := (1 : Int32)) hx hb dX11_counts_78 (by decide) ?_
          refine lv_iadd hx hb dX11_counts_79 ?_
          obtain ⟨hi8, hf⟩ := wk_ckE hf
          refine va_iast hx hb hK hP hD hS 1 0 rfl rfl hi8 dX11_counts_80 (fun H locs hP hD hS => ?_)
          have hP : va_P D vwCl (w_X11_counts cB cI cJ a_this a_cards a_county a_holes a_text a_letter a_where a_rank a_value a_hour a_readLetter a_readWhere a_readRank a_readValue a_readHour a_listName a_listDay a_voterName a_voterDay a_voterCounty a_heaps a_speed a_four a_byRules a_hours a_rest a_yet a_put v_kept v_length v_items v_readItems v_at v_lists v_voters v_needed (upd v_byRules ((((24 : Int32) * (v_county x2.toNatClampNeg)) + ((4 : Int32) * x3)) + r3).toNatClampNeg ((v_byRules ((((24 : Int32) * (v_county x2.toNatClampNeg)) + ((4 : Int32) * x3)) + r3).toNatClampNeg) + (1 : Int32))) v_cards v_county v_holes) H := hP
          have hD : va_D A (w_X11_counts cB cI cJ a_this a_cards a_county a_holes a_text a_letter a_where a_rank a_value a_hour a_readLetter a_readWhere a_readRank a_readValue a_readHour a_listName a_listDay a_voterName a_voterDay a_voterCounty a_heaps a_speed a_four a_byRules a_hours a_rest a_yet a_put v_kept v_length v_items v_readItems v_at v_lists v_voters v_needed (upd v_byRules ((((24 : Int32) * (v_county x2.toNatClampNeg)) + ((4 : Int32) * x3)) + r3).toNatClampNeg ((v_byRules ((((24 : Int32) * (v_county x2.toNatClampNeg)) + ((4 : Int32) * x3)) + r3).toNatClampNeg) + (1 : Int32))) v_cards v_county v_holes) := hD
          obtain ⟨y9, ey9⟩ : ∃ y : Int32, y = x3 + (1 : Int32) := ⟨_, rfl⟩
          have hf := wk_nmE hf ey9
          refine lv_iinc (v := y9) (lv' := [(3, .int y9), (4, .int r3), (0, .ref a_this), (1, .int x1), (2, .int x2)]) hx hb dX11_counts_81 hl (k := 4) rfl (by rw [ey9]; rfl) (by decide) rfl (fun ls hl => ?_)
          refine lv_goto (tgt := 35) hx hb dX11_counts_84 (by decide) ?_
          exact ih35 _ _ _ _ hf _ _ _ hP hD hS (lv_sub hl [2, 3, 4, 0] rfl))
    intro v_byRules x1 x2 hf H locs ls hP hD hS hl
    have hf : B_X11_counts_23 N v_cards v_county v_holes k23 v_byRules x1 x2 = some o_byRules := hf
    unfold B_X11_counts_23 at hf
    refine lv_iload_n hx hb dX11_counts_23 rfl (lv_at hl 2 rfl) ?_
    refine lv_aload_n hx hb dX11_counts_24 rfl (lv_at hl 0 rfl) ?_
    refine va_get (D := D) (ci := 11) (v := .ref a_cards) (C := RX11) (T := TX11) (N := 35) hx hb hts in_X11_counts_X11 hown hK hP 0 rfl rfl 0 (by decide) (hts (.fieldLink RX11 7 "HangingCardsModel" "cards" "[I") (List.mem_of_getElem? (i := 2) rfl)) (fun _ h9 => h9) rfl dX11_counts_25 ?_
    refine lv_iconst (v := (0 : Int32)) hx hb dX11_counts_28 (by decide) ?_
    obtain ⟨hi10, hf⟩ := wk_ckE hf
    refine va_iald hx hb hK hP 2 0 rfl rfl hi10 dX11_counts_29 ?_
    refine lv_icmp_ge (tgt := 93) hx hb dX11_counts_30 (by decide) (fun c11 => ?_) (fun c11 => ?_)
    · have hf := wk_itT hf c11
      exact hret _ _ _ _ _ dX11_counts_93 (wk_rt hf (fun z => w_X11_counts cB cI cJ a_this a_cards a_county a_holes a_text a_letter a_where a_rank a_value a_hour a_readLetter a_readWhere a_readRank a_readValue a_readHour a_listName a_listDay a_voterName a_voterDay a_voterCounty a_heaps a_speed a_four a_byRules a_hours a_rest a_yet a_put v_kept v_length v_items v_readItems v_at v_lists v_voters v_needed z v_cards v_county v_holes)) hP hD hS
    · have hf := wk_itF hf c11
      refine lv_iconst (v := (1 : Int32)) hx hb dX11_counts_33 (by decide) ?_
      refine lv_istore_n (lv' := [(3, .int (1 : Int32)), (0, .ref a_this), (1, .int x1), (2, .int x2)]) hx hb dX11_counts_34 rfl hl (by decide) rfl (fun ls hl => ?_)
      exact L35 N _ _ _ _ hf _ _ _ hP hD hS (lv_sub hl [1, 2, 3, 0] rfl))
  have L2 := wk_loopI (F := (fun k2 : (Nat → Int32) → Int32 → Int32 → Option (Nat → Int32) => B_X11_counts_2 N v_cards v_county v_holes k2)) (bot := fun _ _ _ => none) (fun k2 : (Nat → Int32) → Int32 → Int32 → Option (Nat → Int32) => ∀ (v_byRules : Nat → Int32) (x1 : Int32) (x2 : Int32), k2 v_byRules x1 x2 = some o_byRules → ∀ (H : Heap) (locs : List Loc) (ls : Array Slot), va_P D vwCl (w_X11_counts cB cI cJ a_this a_cards a_county a_holes a_text a_letter a_where a_rank a_value a_hour a_readLetter a_readWhere a_readRank a_readValue a_readHour a_listName a_listDay a_voterName a_voterDay a_voterCounty a_heaps a_speed a_four a_byRules a_hours a_rest a_yet a_put v_kept v_length v_items v_readItems v_at v_lists v_voters v_needed v_byRules v_cards v_county v_holes) H → va_D A (w_X11_counts cB cI cJ a_this a_cards a_county a_holes a_text a_letter a_where a_rank a_value a_hour a_readLetter a_readWhere a_readRank a_readValue a_readHour a_listName a_listDay a_voterName a_voterDay a_voterCounty a_heaps a_speed a_four a_byRules a_hours a_rest a_yet a_put v_kept v_length v_items v_readItems v_at v_lists v_voters v_needed v_byRules v_cards v_county v_holes) → va_S A s.heap H locs → lv_has ls 5 [(0, .ref a_this), (1, .int x1), (2, .int x2)] → W p l e rm_X11_counts s m args below meth c H locs 0 0 Q (F0 m 2 ls [])) (by intro v_byRules x1 x2 hf; exact wk_no hf) (by
    intro k2 ih2
    intro v_byRules x1 x2 hf H locs ls hP hD hS hl
    have hf : B_X11_counts_2 N v_cards v_county v_holes k2 v_byRules x1 x2 = some o_byRules := hf
    unfold B_X11_counts_2 at hf
    refine lv_iload_n hx hb dX11_counts_2 rfl (lv_at hl 2 rfl) ?_
    refine lv_bipush (v := (120 : Int32)) hx hb dX11_counts_3 (by decide) ?_
    refine lv_icmp_ge (tgt := 21) hx hb dX11_counts_5 (by decide) (fun c12 => ?_) (fun c12 => ?_)
    · have hf := wk_itT hf c12
      refine lv_iconst (v := (0 : Int32)) hx hb dX11_counts_21 (by decide) ?_
      refine lv_istore_n (lv' := [(2, .int (0 : Int32)), (0, .ref a_this), (1, .int x1)]) hx hb dX11_counts_22 rfl hl (by decide) rfl (fun ls hl => ?_)
      exact L23 N _ _ _ hf _ _ _ hP hD hS (lv_sub hl [1, 2, 0] rfl)
    · have hf := wk_itF hf c12
      refine lv_aload_n hx hb dX11_counts_8 rfl (lv_at hl 0 rfl) ?_
      refine va_get (D := D) (ci := 11) (v := .ref a_byRules) (C := RX11) (T := TX11) (N := 35) hx hb hts in_X11_counts_X11 hown hK hP 0 rfl rfl 30 (by decide) (hts (.fieldLink RX11 82 "HangingCardsModel" "byRules" "[I") (List.mem_of_getElem? (i := 1) rfl)) (fun _ h9 => h9) rfl dX11_counts_9 ?_
      refine lv_iload_n hx hb dX11_counts_12 rfl (lv_at hl 2 rfl) ?_
      refine lv_iconst (v := (0 : Int32)) hx hb dX11_counts_13 (by decide) ?_
      obtain ⟨hi13, hf⟩ := wk_ckE hf
      refine va_iast hx hb hK hP hD hS 1 0 rfl rfl hi13 dX11_counts_14 (fun H locs hP hD hS => ?_)
      have hP : va_P D vwCl (w_X11_counts cB cI cJ a_this a_cards a_county a_holes a_text a_letter a_where a_rank a_value a_hour a_readLetter a_readWhere a_readRank a_readValue a_readHour a_listName a_listDay a_voterName a_voterDay a_voterCounty a_heaps a_speed a_four a_byRules a_hours a_rest a_yet a_put v_kept v_length v_items v_readItems v_at v_lists v_voters v_needed (upd v_byRules x2.toNatClampNeg (0 : Int32)) v_cards v_county v_holes) H := hP
      have hD : va_D A (w_X11_counts cB cI cJ a_this a_cards a_county a_holes a_text a_letter a_where a_rank a_value a_hour a_readLetter a_readWhere a_readRank a_readValue a_readHour a_listName a_listDay a_voterName a_voterDay a_voterCounty a_heaps a_speed a_four a_byRules a_hours a_rest a_yet a_put v_kept v_length v_items v_readItems v_at v_lists v_voters v_needed (upd v_byRules x2.toNatClampNeg (0 : Int32)) v_cards v_county v_holes) := hD
      obtain ⟨y14, ey14⟩ : ∃ y : Int32, y = x2 + (1 : Int32) := ⟨_, rfl⟩
      have hf := wk_nmE hf ey14
      refine lv_iinc (v := y14) (lv' := [(2, .int y14), (0, .ref a_this), (1, .int x1)]) hx hb dX11_counts_15 hl (k := 2) rfl (by rw [ey14]; rfl) (by decide) rfl (fun ls hl => ?_)
      refine lv_goto (tgt := 2) hx hb dX11_counts_18 (by decide) ?_
      exact ih2 _ _ _ hf _ _ _ hP hD hS (lv_sub hl [1, 2, 0] rfl))
  unfold f_X11_counts at hf
  refine lv_iconst (v := (0 : Int32)) hx hb dX11_counts_0 (by decide) ?_
  refine lv_istore_n (lv' := [(2, .int (0 : Int32)), (0, .ref a_this), (1, .int x1)]) hx hb dX11_counts_1 rfl hl (by decide) rfl (fun ls hl => ?_)
  exact L2 N _ _ _ hf _ _ _ hP hD hS (lv_sub hl [1, 2, 0] rfl)
abbrev w_X11_mixes (cB cI cJ : ClassId) (a_this : Nat) (a_cards : Nat) (a_county : Nat) (a_holes : Nat) (a_text : Nat) (a_letter : Nat) (a_where : Nat) (a_rank : Nat) (a_value : Nat) (a_hour : Nat) (a_readLetter : Nat) (a_readWhere : Nat) (a_readRank : Nat) (a_readValue : Nat) (a_readHour : Nat) (a_listName : Nat) (a_listDay : Nat) (a_voterName : Nat) (a_voterDay : Nat) (a_voterCounty : Nat) (a_heaps : Nat) (a_speed : Nat) (a_four : Nat) (a_byRules : Nat) (a_hours : Nat) (a_rest : Nat) (a_yet : Nat) (a_put : Nat) (v_kept : Int32) (v_length : Int32) (v_items : Int32) (v_readItems : Int32) (v_at : Int32) (v_lists : Int32) (v_voters : Int32) (v_needed : Int32) (v_byRules : Nat → Int32) (v_four : Nat → Int32) : va_W := [(a_this, .inr (11, [.ref a_cards, .ref a_county, .ref a_holes, .int v_kept, .int v_length, .ref a_text, .int v_items, .ref a_letter, .ref a_where, .ref a_rank, .ref a_value, .ref a_hour, .int v_readItems, .ref a_readLetter, .ref a_readWhere, .ref a_readRank, .ref a_readValue, .ref a_readHour, .int v_at, .int v_lists, .ref a_listName, .ref a_listDay, .int v_voters, .ref a_voterName, .ref a_voterDay, .ref a_voterCounty, .int v_needed, .ref a_heaps, .ref a_speed, .ref a_four, .ref a_byRules, .ref a_hours, .ref a_rest, .ref a_yet, .ref a_put])), (a_byRules, .inl (cI, 120, .inl v_byRules)), (a_four, .inl (cI, 4, .inl v_four))]
theorem hd_X11_mixes : yX11_mixes.cls = RX11 ∧ yX11_mixes.cls ≠ "java/lang/invoke/MethodHandle" ∧ yX11_mixes.cls ≠ "java/lang/invoke/VarHandle" ∧ (parseMethodDescriptor yX11_mixes.desc).map (fun d => d.parameters.length) = some 1 := by decide +kernel
abbrev rm_X11_mixes : Room := { frames := 0, cells := 0, slots := 0, locals := 0 }
theorem in_X11_mixes_X11 : ∀ w ∈ wsX110, w ∈ wsX11_mixes := fun w h => List.mem_cons_of_mem _ (List.mem_append_right _ h)
set_option maxHeartbeats 4000000 in
set_option maxRecDepth 100000 in
theorem c_X11_mixes (l : Launch) (D : va_G) (cB cI cJ : ClassId) (N : Nat) (a_this : Nat) (a_cards : Nat) (a_county : Nat) (a_holes : Nat) (a_text : Nat) (a_letter : Nat) (a_where : Nat) (a_rank : Nat) (a_value : Nat) (a_hour : Nat) (a_readLetter : Nat) (a_readWhere : Nat) (a_readRank : Nat) (a_readValue : Nat) (a_readHour : Nat) (a_listName : Nat) (a_listDay : Nat) (a_voterName : Nat) (a_voterDay : Nat) (a_voterCounty : Nat) (a_heaps : Nat) (a_speed : Nat) (a_four : Nat) (a_byRules : Nat) (a_hours : Nat) (a_rest : Nat) (a_yet : Nat) (a_put : Nat) (v_kept : Int32) (v_length : Int32) (v_items : Int32) (v_readItems : Int32) (v_at : Int32) (v_lists : Int32) (v_voters : Int32) (v_needed : Int32) (v_byRules : Nat → Int32) (v_four : Nat → Int32) (x1 : Int32) {o_four : Nat → Int32} (hf : f_X11_mixes N v_byRules v_four x1 = some o_four) : MTv l yX11_mixes wsX11_mixes rm_X11_mixes D (wk_T cB cI cJ) [.ref a_this, .int x1] (w_X11_mixes cB cI cJ a_this a_cards a_county a_holes a_text a_letter a_where a_rank a_value a_hour a_readLetter a_readWhere a_readRank a_readValue a_readHour a_listName a_listDay a_voterName a_voterDay a_voterCounty a_heaps a_speed a_four a_byRules a_hours a_rest a_yet a_put v_kept v_length v_items v_readItems v_at v_lists v_voters v_needed v_byRules v_four) (w_X11_mixes cB cI cJ a_this a_cards a_county a_holes a_text a_letter a_where a_rank a_value a_hour a_readLetter a_readWhere a_readRank a_readValue a_readHour a_listName a_listDay a_voterName a_voterDay a_voterCounty a_heaps a_speed a_four a_byRules a_hours a_rest a_yet a_put v_kept v_length v_items v_readItems v_at v_lists v_voters v_needed v_byRules o_four) := by
  refine MTv.of (cc := cX11_mixes) (nL := 4) (own := RX11) pn_X11 rfl rfl (Nat.le_of_ble_eq_true rfl) ?_
  intro p e s m args below meth c A ls Q C hP hD hS hl hret
  obtain ⟨hx, hb, hml, hts, hown, hK, hN, hA, hlk⟩ := id C
  have hl : lv_has ls 4 [(0, .ref a_this), (1, .int x1)] := hl
  have L2 := wk_loopI (F := (fun k2 : (Nat → Int32) → Int32 → Int32 → Option (Nat → Int32) => B_X11_mixes_2 N v_byRules k2)) (bot := fun _ _ _ => none) (fun k2 : (Nat → Int32) → Int32 → Int32 → Option (Nat → Int32) => ∀ (v_four : Nat → Int32) (x1 : Int32) (x2 : Int32), k2 v_four x1 x2 = some o_four → ∀ (H : Heap) (locs : List Loc) (ls : Array Slot), va_P D vwCl (w_X11_mixes cB cI cJ a_this a_cards a_county a_holes a_text a_letter a_where a_rank a_value a_hour a_readLetter a_readWhere a_readRank a_readValue a_readHour a_listName a_listDay a_voterName a_voterDay a_voterCounty a_heaps a_speed a_four a_byRules a_hours a_rest a_yet a_put v_kept v_length v_items v_readItems v_at v_lists v_voters v_needed v_byRules v_four) H → va_D A (w_X11_mixes cB cI cJ a_this a_cards a_county a_holes a_text a_letter a_where a_rank a_value a_hour a_readLetter a_readWhere a_readRank a_readValue a_readHour a_listName a_listDay a_voterName a_voterDay a_voterCounty a_heaps a_speed a_four a_byRules a_hours a_rest a_yet a_put v_kept v_length v_items v_readItems v_at v_lists v_voters v_needed v_byRules v_four) → va_S A s.heap H locs → lv_has ls 4 [(0, .ref a_this), (1, .int x1), (2, .int x2)] → W p l e rm_X11_mixes s m args below meth c H locs 0 0 Q (F0 m 2 ls [])) (by intro v_four x1 x2 hf; exact wk_no hf) (by
    intro k2 ih2
    have L16 := wk_loopI (F := (fun k16 : (Nat → Int32) → Int32 → Int32 → Int32 → Option (Nat → Int32) => B_X11_mixes_16 N v_byRules k2 k16)) (bot := fun _ _ _ _ => none) (fun k16 : (Nat → Int32) → Int32 → Int32 → Int32 → Option (Nat → Int32) => ∀ (v_four : Nat → Int32) (x1 : Int32) (x2 : Int32) (x3 : Int32), k16 v_four x1 x2 x3 = some o_four → ∀ (H : Heap) (locs : List Loc) (ls : Array Slot), va_P D vwCl (w_X11_mixes cB cI cJ a_this a_cards a_county a_holes a_text a_letter a_where a_rank a_value a_hour a_readLetter a_readWhere a_readRank a_readValue a_readHour a_listName a_listDay a_voterName a_voterDay a_voterCounty a_heaps a_speed a_four a_byRules a_hours a_rest a_yet a_put v_kept v_length v_items v_readItems v_at v_lists v_voters v_needed v_byRules v_four) H → va_D A (w_X11_mixes cB cI cJ a_this a_cards a_county a_holes a_text a_letter a_where a_rank a_value a_hour a_readLetter a_readWhere a_readRank a_readValue a_readHour a_listName a_listDay a_voterName a_voterDay a_voterCounty a_heaps a_speed a_four a_byRules a_hours a_rest a_yet a_put v_kept v_length v_items v_readItems v_at v_lists v_voters v_needed v_byRules v_four) → va_S A s.heap H locs → lv_has ls 4 [(0, .ref a_this), (1, .int x1), (2, .int x2), (3, .int x3)] → W p l e rm_X11_mixes s m args below meth c H locs 0 0 Q (F0 m 16 ls [])) (by intro v_four x1 x2 x3 hf; exact wk_no hf) (by
      intro k16 ih16
      intro v_four x1 x2 x3 hf H locs ls hP hD hS hl
      have hf : B_X11_mixes_16 N v_byRules k2 k16 v_four x1 x2 x3 = some o_four := hf
      unfold B_X11_mixes_16 at hf
      refine lv_iload_n hx hb dX11_mixes_16 rfl (lv_at hl 3 rfl) ?_
      refine lv_iconst (v := (5 : Int32)) hx hb dX11_mixes_17 (by decide) ?_
      refine lv_icmp_ge (tgt := 58) hx hb dX11_mixes_18 (by decide) (fun c1 => ?_) (fun c1 => ?_)
      · have hf := wk_itT hf c1
        obtain ⟨y2, ey2⟩ : ∃ y : Int32, y = x2 + (1 : Int32) := ⟨_, rfl⟩
        have hf := wk_nmE hf ey2
        refine lv_iinc (v := y2) (lv' := [(2, .int y2), (0, .ref a_this), (1, .int x1), (3, .int x3)]) hx hb dX11_mixes_58 hl (k := 2) rfl (by rw [ey2]; rfl) (by decide) rfl (fun ls hl => ?_)
        refine lv_goto (tgt := 2) hx hb dX11_mixes_61 (by decide) ?_
        exact ih2 _ _ _ hf _ _ _ hP hD hS (lv_sub hl [1, 2, 0] rfl)
      · have hf := wk_itF hf c1
        refine lv_aload_n hx hb dX11_mixes_21 rfl (lv_at hl 0 rfl) ?_
        refine va_get (D := D) (ci := 11) (v := .ref a_four) (C := RX11) (T := TX11) (N := 35) hx hb hts in_X11_mixes_X11 hown hK hP 0 rfl rfl 29 (by decide) (hts (.fieldLink RX11 79 "HangingCardsModel" "four" "[I") (List.mem_of_getElem? (i := 1) rfl)) (fun _ h9 => h9) rfl dX11_mixes_22 ?_
        refine lv_iload_n hx hb dX11_mixes_25 rfl (lv_at hl 2 rfl) ?_
        refine lv_dup2_11 hx hb dX11_mixes_26 rfl rfl ?_
        obtain ⟨hi3, hf⟩ := wk_ckE hf
        refine va_iald hx hb hK hP 2 0 rfl rfl hi3 dX11_mixes_27 ?_
        refine lv_aload_n hx hb dX11_mixes_28 rfl (lv_at hl 0 rfl) ?_
        refine va_get (D := D) (ci := 11) (v := .ref a_byRules) (C := RX11) (T := TX11) (N := 35) hx hb hts in_X11_mixes_X11 hown hK hP 0 rfl rfl 30 (by decide) (hts (.fieldLink RX11 82 "HangingCardsModel" "byRules" "[I") (List.mem_of_getElem? (i := 2) rfl)) (fun _ h9 => h9) rfl dX11_mixes_29 ?_
        refine lv_bipush (v := (24 : Int32)) hx hb dX11_mixes_32 (by decide) ?_
        refine lv_iload_n hx hb dX11_mixes_34 rfl (lv_at hl 3 rfl) ?_
        refine lv_imul hx hb dX11_mixes_35 ?_
        refine lv_iconst (v := (4 : Int32)) hx hb dX11_mixes_36 (by decide) ?_
        refine lv_iload_n hx hb dX11_mixes_37 rfl (lv_at hl 1 rfl) ?_
        refine lv_iconst (v := (3 : Int32)) hx hb dX11_mixes_38 (by decide) ?_
        refine lv_iload_n hx hb dX11_mixes_39 rfl (lv_at hl 3 rfl) ?_
        refine lv_imul hx hb dX11_mixes_40 ?_
        refine lv_ishr hx hb dX11_mixes_41 ?_
        refine lv_bipush (v := (7 : Int32)) hx hb dX11_mixes_42 (by decide) ?_
        refine lv_iand hx hb dX11_mixes_44 ?_
        refine lv_imul hx hb dX11_mixes_45 ?_
        refine lv_iadd hx hb dX11_mixes_46 ?_
        refine lv_iload_n hx hb dX11_mixes_47 rfl (lv_at hl 2 rfl) ?_
        refine lv_iadd hx hb dX11_mixes_48 ?_
        obtain ⟨hi4, hf⟩ := wk_ckE hf
        refine va_iald hx hb hK hP 1 0 rfl rfl hi4 dX11_mixes_49 ?_
        refine lv_iadd hx hb dX11_mixes_50 ?_
        obtain ⟨hi5, hf⟩ := wk_ckE hf
        refine va_iast hx hb hK hP hD hS 2 0 rfl rfl hi5 dX11_mixes_51 (fun H locs hP hD hS => ?_)
        have hP : va_P D vwCl (w_X11_mixes cB cI cJ a_this a_cards a_county a_holes a_text a_letter a_where a_rank a_value a_hour a_readLetter a_readWhere a_readRank a_readValue a_readHour a_listName a_listDay a_voterName a_voterDay a_voterCounty a_heaps a_speed a_four a_byRules a_hours a_rest a_yet a_put v_kept v_length v_items v_readItems v_at v_lists v_voters v_needed v_byRules (upd v_four x2.toNatClampNeg ((v_four x2.toNatClampNeg) + (v_byRules ((((24 : Int32) * x3) + ((4 : Int32) * ((x1 >>> (((3 : Int32) * x3) &&& 31)) &&& (7 : Int32)))) + x2).toNatClampNeg)))) H := hP
        have hD : va_D A (w_X11_mixes cB cI cJ a_this a_cards a_county a_holes a_text a_letter a_where a_rank a_value a_hour a_readLetter a_readWhere a_readRank a_readValue a_readHour a_listName a_listDay a_voterName a_voterDay a_voterCounty a_heaps a_speed a_four a_byRules a_hours a_rest a_yet a_put v_kept v_length v_items v_readItems v_at v_lists v_voters v_needed v_byRules (upd v_four x2.toNatClampNeg ((v_four x2.toNatClampNeg) + (v_byRules ((((24 : Int32) * x3) + ((4 : Int32) * ((x1 >>> (((3 : Int32) * x3) &&& 31)) &&& (7 : Int32)))) + x2).toNatClampNeg)))) := hD
        obtain ⟨y6, ey6⟩ : ∃ y : Int32, y = x3 + (1 : Int32) := ⟨_, rfl⟩
        have hf := wk_nmE hf ey6
        refine lv_iinc (v := y6) (lv' := [(3, .int y6), (0, .ref a_this), (1, .int x1), (2, .int x2)]) hx hb dX11_mixes_52 hl (k := 3) rfl (by rw [ey6]; rfl) (by decide) rfl (fun ls hl => ?_)
        refine lv_goto (tgt := 16) hx hb dX11_mixes_55 (by decide) ?_
        exact ih16 _ _ _ _ hf _ _ _ hP hD hS (lv_sub hl [1, 2, 3, 0] rfl))
    intro v_four x1 x2 hf H locs ls hP hD hS hl
    have hf : B_X11_mixes_2 N v_byRules k2 v_four x1 x2 = some o_four := hf
    unfold B_X11_mixes_2 at hf
    refine lv_iload_n hx hb dX11_mixes_2 rfl (lv_at hl 2 rfl) ?_
    refine lv_iconst (v := (4 : Int32)) hx hb dX11_mixes_3 (by decide) ?_
    refine lv_icmp_ge (tgt := 64) hx hb dX11_mixes_4 (by decide) (fun c7 => ?_) (fun c7 => ?_)
    · have hf := wk_itT hf c7
      exact hret _ _ _ _ _ dX11_mixes_64 (wk_rt hf (fun z => w_X11_mixes cB cI cJ a_this a_cards a_county a_holes a_text a_letter a_where a_rank a_value a_hour a_readLetter a_readWhere a_readRank a_readValue a_readHour a_listName a_listDay a_voterName a_voterDay a_voterCounty a_heaps a_speed a_four a_byRules a_hours a_rest a_yet a_put v_kept v_length v_items v_readItems v_at v_lists v_voters v_needed v_byRules z)) hP hD hS
    · have hf := wk_itF hf c7
      refine lv_aload_n hx hb dX11_mixes_7 rfl (lv_at hl 0 rfl) ?_
      refine va_get (D := D) (ci := 11) (v := .ref a_four) (C := RX11) (T := TX11) (N := 35) hx hb hts in_X11_mixes_X11 hown hK hP 0 rfl rfl 29 (by decide) (hts (.fieldLink RX11 79 "HangingCardsModel" "four" "[I") (List.mem_of_getElem? (i := 1) rfl)) (fun _ h9 => h9) rfl dX11_mixes_8 ?_
      refine lv_iload_n hx hb dX11_mixes_11 rfl (lv_at hl 2 rfl) ?_
      refine lv_iconst (v := (0 : Int32)) hx hb dX11_mixes_12 (by decide) ?_
      obtain ⟨hi8, hf⟩ := wk_ckE hf
      refine va_iast hx hb hK hP hD hS 2 0 rfl rfl hi8 dX11_mixes_13 (fun H locs hP hD hS => ?_)
      have hP : va_P D vwCl (w_X11_mixes cB cI cJ a_this a_cards a_county a_holes a_text a_letter a_where a_rank a_value a_hour a_readLetter a_readWhere a_readRank a_readValue a_readHour a_listName a_listDay a_voterName a_voterDay a_voterCounty a_heaps a_speed a_four a_byRules a_hours a_rest a_yet a_put v_kept v_length v_items v_readItems v_at v_lists v_voters v_needed v_byRules (upd v_four x2.toNatClampNeg (0 : Int32))) H := hP
      have hD : va_D A (w_X11_mixes cB cI cJ a_this a_cards a_county a_holes a_text a_letter a_where a_rank a_value a_hour a_readLetter a_readWhere a_readRank a_readValue a_readHour a_listName a_listDay a_voterName a_voterDay a_voterCounty a_heaps a_speed a_four a_byRules a_hours a_rest a_yet a_put v_kept v_length v_items v_readItems v_at v_lists v_voters v_needed v_byRules (upd v_four x2.toNatClampNeg (0 : Int32))) := hD
      refine lv_iconst (v := (0 : Int32)) hx hb dX11_mixes_14 (by decide) ?_
      refine lv_istore_n (lv' := [(3, .int (0 : Int32)), (0, .ref a_this), (1, .int x1), (2, .int x2)]) hx hb dX11_mixes_15 rfl hl (by decide) rfl (fun ls hl => ?_)
      exact L16 N _ _ _ _ hf _ _ _ hP hD hS (lv_sub hl [1, 2, 3, 0] rfl))
  unfold f_X11_mixes at hf
  refine lv_iconst (v := (0 : Int32)) hx hb dX11_mixes_0 (by decide) ?_
  refine lv_istore_n (lv' := [(2, .int (0 : Int32)), (0, .ref a_this), (1, .int x1)]) hx hb dX11_mixes_1 rfl hl (by decide) rfl (fun ls hl => ?_)
  exact L2 N _ _ _ hf _ _ _ hP hD hS (lv_sub hl [1, 2, 0] rfl)
