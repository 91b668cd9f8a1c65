abbrev w_X11_like (cB cI cJ : ClassId) (a_this : Nat) (a_cards : Nat) (a_county : Nat) (a_holes : Nat) (a_text : Nat) (a_letter : Nat) (a_where : Nat) (a_rank : Nat) (a_value : Nat) (a_hour : Nat) (a_readLetter : Nat) (a_readWhere : Nat) (a_readRank : Nat) (a_readValue : Nat) (a_readHour : Nat) (a_listName : Nat) (a_listDay : Nat) (a_voterName : Nat) (a_voterDay : Nat) (a_voterCounty : Nat) (a_heaps : Nat) (a_speed : Nat) (a_four : Nat) (a_byRules : Nat) (a_hours : Nat) (a_rest : Nat) (a_yet : Nat) (a_put : Nat) (v_kept : Int32) (v_length : Int32) (v_items : Int32) (v_readItems : Int32) (v_at : Int32) (v_lists : Int32) (v_voters : Int32) (v_needed : Int32) (v_listName : Nat → Int64) (v_voterName : Nat → Int64) : va_W := [(a_this, .inr (11, [.ref a_cards, .ref a_county, .ref a_holes, .int v_kept, .int v_length, .ref a_text, .int v_items, .ref a_letter, .ref a_where, .ref a_rank, .ref a_value, .ref a_hour, .int v_readItems, .ref a_readLetter, .ref a_readWhere, .ref a_readRank, .ref a_readValue, .ref a_readHour, .int v_at, .int v_lists, .ref a_listName, .ref a_listDay, .int v_voters, .ref a_voterName, .ref a_voterDay, .ref a_voterCounty, .int v_needed, .ref a_heaps, .ref a_speed, .ref a_four, .ref a_byRules, .ref a_hours, .ref a_rest, .ref a_yet, .ref a_put])), (a_listName, .inl (cJ, 8, .inr (.inl v_listName))), (a_voterName, .inl (cJ, 12, .inr (.inl v_voterName)))]
theorem hd_X11_like : yX11_like.cls = RX11 ∧ yX11_like.cls ≠ "java/lang/invoke/MethodHandle" ∧ yX11_like.cls ≠ "java/lang/invoke/VarHandle" ∧ (parseMethodDescriptor yX11_like.desc).map (fun d => d.parameters.length) = some 2 := by decide +kernel
abbrev rm_X11_like : Room := { frames := 3, cells := 0, slots := 0, locals := 70 }
theorem in_X11_like_X11 : ∀ w ∈ wsX110, w ∈ wsX11_like := fun w h => List.mem_cons_of_mem _ (List.mem_append_right _ h)
set_option maxHeartbeats 4000000 in
set_option maxRecDepth 100000 in
theorem c_X11_like (l : Launch) (D : va_G) (cB cI cJ : ClassId) (N : Nat) (a_this : Nat) (a_cards : Nat) (a_county : Nat) (a_holes : Nat) (a_text : Nat) (a_letter : Nat) (a_where : Nat) (a_rank : Nat) (a_value : Nat) (a_hour : Nat) (a_readLetter : Nat) (a_readWhere : Nat) (a_readRank : Nat) (a_readValue : Nat) (a_readHour : Nat) (a_listName : Nat) (a_listDay : Nat) (a_voterName : Nat) (a_voterDay : Nat) (a_voterCounty : Nat) (a_heaps : Nat) (a_speed : Nat) (a_four : Nat) (a_byRules : Nat) (a_hours : Nat) (a_rest : Nat) (a_yet : Nat) (a_put : Nat) (v_kept : Int32) (v_length : Int32) (v_items : Int32) (v_readItems : Int32) (v_at : Int32) (v_lists : Int32) (v_voters : Int32) (v_needed : Int32) (v_listName : Nat → Int64) (v_voterName : Nat → Int64) (x1 : Int32) (x2 : Int32) {r : Int32} (hf : f_X11_like N v_lists v_voters v_listName v_voterName x1 x2 = some r) : MTi l yX11_like wsX11_like rm_X11_like D (wk_T cB cI cJ) [.ref a_this, .int x1, .int x2] (w_X11_like cB cI cJ a_this a_cards a_county a_holes a_text a_letter a_where a_rank a_value a_hour a_readLetter a_readWhere a_readRank a_readValue a_readHour a_listName a_listDay a_voterName a_voterDay a_voterCounty a_heaps a_speed a_four a_byRules a_hours a_rest a_yet a_put v_kept v_length v_items v_readItems v_at v_lists v_voters v_needed v_listName v_voterName) (w_X11_like cB cI cJ a_this a_cards a_county a_holes a_text a_letter a_where a_rank a_value a_hour a_readLetter a_readWhere a_readRank a_readValue a_readHour a_listName a_listDay a_voterName a_voterDay a_voterCounty a_heaps a_speed a_four a_byRules a_hours a_rest a_yet a_put v_kept v_length v_items v_readItems v_at v_lists v_voters v_needed v_listName v_voterName) r := by
  refine MTi.of (cc := cX11_like) (nL := 3) (rt := .int) (own := RX11) pn_X11 rfl rfl (Nat.le_of_ble_eq_true rfl) rfl ?_
  intro p e s m args below meth c A ls Q C hP hD hS hl hret
  obtain ⟨hx, hb, hml, hts, hown, hK, hN, hA, hlk⟩ := id C
  have hl : lv_has ls 3 [(0, .ref a_this), (1, .int x1), (2, .int x2)] := hl
  unfold f_X11_like at hf
  refine lv_aload_n hx hb dX11_like_0 rfl (lv_at hl 0 rfl) ?_
  refine lv_iload_n hx hb dX11_like_1 rfl (lv_at hl 1 rfl) ?_
  obtain ⟨r1, hc1, hf⟩ := wk_b1E hf
  refine wk_callVi2 C hP hD hS (c_X11_isVoter l D cB cI cJ N a_this a_cards a_county a_holes a_text a_letter a_where a_rank a_value a_hour a_readLetter a_readWhere a_readRank a_readValue a_readHour a_listName a_listDay a_voterName a_voterDay a_voterCounty a_heaps a_speed a_four a_byRules a_hours a_rest a_yet a_put v_kept v_length v_items v_readItems v_at v_lists v_voters v_needed x1 hc1) (cwV 1 hts gX11_like_X11_isVoter rfl rfl rfl hd_X11_isVoter ⟨Nat.le_of_ble_eq_true rfl, Nat.le_of_ble_eq_true rfl⟩) hl.1 ⟨Nat.zero_le _, Nat.zero_le _⟩ [0] [1, 2] 3 (by decide +kernel) rfl (Wn := w_X11_like cB cI cJ a_this a_cards a_county a_holes a_text a_letter a_where a_rank a_value a_hour a_readLetter a_readWhere a_readRank a_readValue a_readHour a_listName a_listDay a_voterName a_voterDay a_voterCounty a_heaps a_speed a_four a_byRules a_hours a_rest a_yet a_put v_kept v_length v_items v_readItems v_at v_lists v_voters v_needed v_listName v_voterName) rfl rfl rfl rfl rfl rfl (ci := 11) rfl rfl (q0 := 0) rfl rfl rfl (Nat.le_of_ble_eq_true rfl) dX11_like_2 (fun H locs hP hD hS => ?_)
  refine lv_if_eq (tgt := 33) hx hb dX11_like_5 (by decide) (fun c2 => ?_) (fun c2 => ?_)
  · have hf := wk_itT hf c2
    refine lv_iconst (v := (-1 : Int32)) hx hb dX11_like_33 (by decide) ?_
    exact hret _ _ _ _ _ _ dX11_like_34 (wk_rt hf (fun z => z)) rfl hP hD hS
  · have hf := wk_itF hf c2
    refine lv_iload_n hx hb dX11_like_8 rfl (lv_at hl 2 rfl) ?_
    refine lv_i2l (v := (x2.toInt64)) hx hb dX11_like_9 rfl ?_
    refine lv_lconst (v := (0 : Int64)) hx hb dX11_like_10 (by decide) ?_
    refine lv_aload_n hx hb dX11_like_11 rfl (lv_at hl 0 rfl) ?_
    refine va_get (D := D) (ci := 11) (v := .int v_lists) (C := RX11) (T := TX11) (N := 35) hx hb hts in_X11_like_X11 hown hK hP 0 rfl rfl 19 (by decide) (hts (.fieldLink RX11 230 "HangingCardsModel" "lists" "I") (List.mem_of_getElem? (i := 1) rfl)) (fun _ h9 => h9) rfl dX11_like_12 ?_
    refine lv_iconst (v := (1 : Int32)) hx hb dX11_like_15 (by decide) ?_
    refine lv_isub hx hb dX11_like_16 ?_
    refine lv_i2l (v := ((v_lists - (1 : Int32)).toInt64)) hx hb dX11_like_17 rfl ?_
    obtain ⟨r3, hc3, hf⟩ := wk_b1E hf
    refine wk_callSi2 C hP hD hS (c_X11_in l D cB cI cJ N (x2.toInt64) (0 : Int64) ((v_lists - (1 : Int32)).toInt64) hc3) (va_cwS 3 hts gX11_like_X11_in rfl rfl rfl hd_X11_in.2 ⟨Nat.le_of_ble_eq_true rfl, Nat.le_of_ble_eq_true rfl⟩) hl.1 ⟨Nat.zero_le _, Nat.zero_le _⟩ [] [0, 1, 2] 3 (by decide +kernel) rfl (Wn := w_X11_like cB cI cJ a_this a_cards a_county a_holes a_text a_letter a_where a_rank a_value a_hour a_readLetter a_readWhere a_readRank a_readValue a_readHour a_listName a_listDay a_voterName a_voterDay a_voterCounty a_heaps a_speed a_four a_byRules a_hours a_rest a_yet a_put v_kept v_length v_items v_readItems v_at v_lists v_voters v_needed v_listName v_voterName) rfl rfl rfl rfl rfl rfl rfl rfl (Nat.le_of_ble_eq_true rfl) dX11_like_18 (fun H locs hP hD hS => ?_)
    refine lv_if_eq (tgt := 33) hx hb dX11_like_21 (by decide) (fun c4 => ?_) (fun c4 => ?_)
    · have hf := wk_itT hf c4
      refine lv_iconst (v := (-1 : Int32)) hx hb dX11_like_33 (by decide) ?_
      exact hret _ _ _ _ _ _ dX11_like_34 (wk_rt hf (fun z => z)) rfl hP hD hS
    · have hf := wk_itF hf c4
      refine lv_aload_n hx hb dX11_like_24 rfl (lv_at hl 0 rfl) ?_
      refine lv_iload_n hx hb dX11_like_25 rfl (lv_at hl 1 rfl) ?_
      refine lv_iload_n hx hb dX11_like_26 rfl (lv_at hl 2 rfl) ?_
      obtain ⟨r5, hc5, hf⟩ := wk_b1E hf
      refine wk_callVi2 C hP hD hS (c_X11_likeOf l D cB cI cJ N a_this a_cards a_county a_holes a_text a_letter a_where a_rank a_value a_hour a_readLetter a_readWhere a_readRank a_readValue a_readHour a_listName a_listDay a_voterName a_voterDay a_voterCounty a_heaps a_speed a_four a_byRules a_hours a_rest a_yet a_put v_kept v_length v_items v_readItems v_at v_lists v_voters v_needed v_listName v_voterName x1 x2 hc5) (cwV 2 hts gX11_like_X11_likeOf rfl rfl rfl hd_X11_likeOf ⟨Nat.le_of_ble_eq_true rfl, Nat.le_of_ble_eq_true rfl⟩) hl.1 ⟨Nat.zero_le _, Nat.zero_le _⟩ [0, 1, 2] [] 3 (by decide +kernel) rfl (Wn := w_X11_like cB cI cJ a_this a_cards a_county a_holes a_text a_letter a_where a_rank a_value a_hour a_readLetter a_readWhere a_readRank a_readValue a_readHour a_listName a_listDay a_voterName a_voterDay a_voterCounty a_heaps a_speed a_four a_byRules a_hours a_rest a_yet a_put v_kept v_length v_items v_readItems v_at v_lists v_voters v_needed v_listName v_voterName) rfl rfl rfl rfl rfl rfl (ci := 11) rfl rfl (q0 := 0) rfl rfl rfl (Nat.le_of_ble_eq_true rfl) dX11_like_27 (fun H locs hP hD hS => ?_)
      refine lv_goto (tgt := 34) hx hb dX11_like_30 (by decide) ?_
      exact hret _ _ _ _ _ _ dX11_like_34 (wk_rt hf (fun z => z)) rfl hP hD hS
abbrev w_X11_strikes1 (cB cI cJ : ClassId) (a_this : Nat) (a_cards : Nat) (a_county : Nat) (a_holes : Nat) (a_text : Nat) (a_letter : Nat) (a_where : Nat) (a_rank : Nat) (a_value : Nat) (a_hour : Nat) (a_readLetter : Nat) (a_readWhere : Nat) (a_readRank : Nat) (a_readValue : Nat) (a_readHour : Nat) (a_listName : Nat) (a_listDay : Nat) (a_voterName : Nat) (a_voterDay : Nat) (a_voterCounty : Nat) (a_heaps : Nat) (a_speed : Nat) (a_four : Nat) (a_byRules : Nat) (a_hours : Nat) (a_rest : Nat) (a_yet : Nat) (a_put : Nat) (v_kept : Int32) (v_length : Int32) (v_items : Int32) (v_readItems : Int32) (v_at : Int32) (v_lists : Int32) (v_voters : Int32) (v_needed : Int32) (v_listDay : Nat → Int32) (v_listName : Nat → Int64) (v_voterDay : Nat → Int32) (v_voterName : Nat → Int64) : va_W := [(a_this, .inr (11, [.ref a_cards, .ref a_county, .ref a_holes, .int v_kept, .int v_length, .ref a_text, .int v_items, .ref a_letter, .ref a_where, .ref a_rank, .ref a_value, .ref a_hour, .int v_readItems, .ref a_readLetter, .ref a_readWhere, .ref a_readRank, .ref a_readValue, .ref a_readHour, .int v_at, .int v_lists, .ref a_listName, .ref a_listDay, .int v_voters, .ref a_voterName, .ref a_voterDay, .ref a_voterCounty, .int v_needed, .ref a_heaps, .ref a_speed, .ref a_four, .ref a_byRules, .ref a_hours, .ref a_rest, .ref a_yet, .ref a_put])), (a_listDay, .inl (cI, 8, .inl v_listDay)), (a_listName, .inl (cJ, 8, .inr (.inl v_listName))), (a_voterDay, .inl (cI, 12, .inl v_voterDay)), (a_voterName, .inl (cJ, 12, .inr (.inl v_voterName)))]
theorem hd_X11_strikes1 : yX11_strikes1.cls = RX11 ∧ yX11_strikes1.cls ≠ "java/lang/invoke/MethodHandle" ∧ yX11_strikes1.cls ≠ "java/lang/invoke/VarHandle" ∧ (parseMethodDescriptor yX11_strikes1.desc).map (fun d => d.parameters.length) = some 2 := by decide +kernel
abbrev rm_X11_strikes1 : Room := { frames := 3, cells := 0, slots := 0, locals := 70 }
theorem in_X11_strikes1_X11 : ∀ w ∈ wsX110, w ∈ wsX11_strikes1 := fun w h => List.mem_cons_of_mem _ (List.mem_append_right _ h)
set_option maxHeartbeats 4000000 in
set_option maxRecDepth 100000 in
theorem c_X11_strikes1 (l : Launch) (D : va_G) (cB cI cJ : ClassId) (N : Nat) (a_this : Nat) (a_cards : Nat) (a_county : Nat) (a_holes : Nat) (a_text : Nat) (a_letter : Nat) (a_where : Nat) (a_rank : Nat) (a_value : Nat) (a_hour : Nat) (a_readLetter : Nat) (a_readWhere : Nat) (a_readRank : Nat) (a_readValue : Nat) (a_readHour : Nat) (a_listName : Nat) (a_listDay : Nat) (a_voterName : Nat) (a_voterDay : Nat) (a_voterCounty : Nat) (a_heaps : Nat) (a_speed : Nat) (a_four : Nat) (a_byRules : Nat) (a_hours : Nat) (a_rest : Nat) (a_yet : Nat) (a_put : Nat) (v_kept : Int32) (v_length : Int32) (v_items : Int32) (v_readItems : Int32) (v_at : Int32) (v_lists : Int32) (v_voters : Int32) (v_needed : Int32) (v_listDay : Nat → Int32) (v_listName : Nat → Int64) (v_voterDay : Nat → Int32) (v_voterName : Nat → Int64) (x1 : Int32) (x2 : Int32) {r : Bool} (hf : f_X11_strikes1 N v_needed v_listDay v_listName v_voterDay v_voterName x1 x2 = some r) : MTi l yX11_strikes1 wsX11_strikes1 rm_X11_strikes1 D (wk_T cB cI cJ) [.ref a_this, .int x1, .int x2] (w_X11_strikes1 cB cI cJ a_this a_cards a_county a_holes a_text a_letter a_where a_rank a_value a_hour a_readLetter a_readWhere a_readRank a_readValue a_readHour a_listName a_listDay a_voterName a_voterDay a_voterCounty a_heaps a_speed a_four a_byRules a_hours a_rest a_yet a_put v_kept v_length v_items v_readItems v_at v_lists v_voters v_needed v_listDay v_listName v_voterDay v_voterName) (w_X11_strikes1 cB cI cJ a_this a_cards a_county a_holes a_text a_letter a_where a_rank a_value a_hour a_readLetter a_readWhere a_readRank a_readValue a_readHour a_listName a_listDay a_voterName a_voterDay a_voterCounty a_heaps a_speed a_four a_byRules a_hours a_rest a_yet a_put v_kept v_length v_items v_readItems v_at v_lists v_voters v_needed v_listDay v_listName v_voterDay v_voterName) (wk_bI r) := by
  refine MTi.of (cc := cX11_strikes1) (nL := 4) (rt := .boolean) (own := RX11) pn_X11 rfl rfl (Nat.le_of_ble_eq_true rfl) (wk_nz r) ?_
  intro p e s m args below meth c A ls Q C hP hD hS hl hret
  obtain ⟨hx, hb, hml, hts, hown, hK, hN, hA, hlk⟩ := id C
  have hl : lv_has ls 4 [(0, .ref a_this), (1, .int x1), (2, .int x2)] := hl
  have J38 : ∀ (x1 : Int32) (x2 : Int32) (s0 : Int32), B_X11_strikes1_38 N v_needed v_listDay v_listName v_voterDay v_voterName x1 x2 s0 = some r → ∀ (H : Heap) (locs : List Loc) (ls : Array Slot), va_P D vwCl (w_X11_strikes1 cB cI cJ a_this a_cards a_county a_holes a_text a_letter a_where a_rank a_value a_hour a_readLetter a_readWhere a_readRank a_readValue a_readHour a_listName a_listDay a_voterName a_voterDay a_voterCounty a_heaps a_speed a_four a_byRules a_hours a_rest a_yet a_put v_kept v_length v_items v_readItems v_at v_lists v_voters v_needed v_listDay v_listName v_voterDay v_voterName) H → va_D A (w_X11_strikes1 cB cI cJ a_this a_cards a_county a_holes a_text a_letter a_where a_rank a_value a_hour a_readLetter a_readWhere a_readRank a_readValue a_readHour a_listName a_listDay a_voterName a_voterDay a_voterCounty a_heaps a_speed a_four a_byRules a_hours a_rest a_yet a_put v_kept v_length v_items v_readItems v_at v_lists v_voters v_needed v_listDay v_listName v_voterDay v_voterName) → va_S A s.heap H locs → lv_has ls 4 [(0, .ref a_this), (1, .int x1), (2, .int x2)] → W p l e rm_X11_strikes1 s m args below meth c H locs 0 0 Q (F0 m 38 ls [.int s0]) := by
    intro x1 x2 s0 hf H locs ls hP hD hS hl
    unfold B_X11_strikes1_38 at hf
    refine lv_istore_n (lv' := [(3, .int s0), (0, .ref a_this), (1, .int x1), (2, .int x2)]) hx hb dX11_strikes1_38 rfl hl (by decide) rfl (fun ls hl => ?_)
    refine lv_aload_n hx hb dX11_strikes1_39 rfl (lv_at hl 1 rfl) ?_
    refine lv_iload_n hx hb dX11_strikes1_40 rfl (lv_at hl 2 rfl) ?_
    refine lv_iload_n hx hb dX11_strikes1_41 rfl (lv_at hl 3 rfl) ?_
    obtain ⟨r1, hc1, hf⟩ := wk_b1E hf
    refine wk_callVi2 C hP hD hS (c_X11_likeOf l D cB cI cJ N a_this a_cards a_county a_holes a_text a_letter a_where a_rank a_value a_hour a_readLetter a_readWhere a_readRank a_readValue a_readHour a_listName a_listDay a_voterName a_voterDay a_voterCounty a_heaps a_speed a_four a_byRules a_hours a_rest a_yet a_put v_kept v_length v_items v_readItems v_at v_lists v_voters v_needed v_listName v_voterName x1 x2 hc1) (cwV 2 hts gX11_strikes1_X11_likeOf rfl rfl rfl hd_X11_likeOf ⟨Nat.le_of_ble_eq_true rfl, Nat.le_of_ble_eq_true rfl⟩) hl.1 ⟨Nat.zero_le _, Nat.zero_le _⟩ [0, 2, 4] [1, 3] 5 (by decide +kernel) rfl (Wn := w_X11_strikes1 cB cI cJ a_this a_cards a_county a_holes a_text a_letter a_where a_rank a_value a_hour a_readLetter a_readWhere a_readRank a_readValue a_readHour a_listName a_listDay a_voterName a_voterDay a_voterCounty a_heaps a_speed a_four a_byRules a_hours a_rest a_yet a_put v_kept v_length v_items v_readItems v_at v_lists v_voters v_needed v_listDay v_listName v_voterDay v_voterName) rfl rfl rfl rfl rfl rfl (ci := 11) rfl rfl (q0 := 0) rfl rfl rfl (Nat.le_of_ble_eq_true rfl) dX11_strikes1_42 (fun H locs hP hD hS => ?_)
    refine lv_aload_n hx hb dX11_strikes1_45 rfl (lv_at hl 1 rfl) ?_
    refine va_get (D := D) (ci := 11) (v := .int v_needed) (C := RX11) (T := TX11) (N := 35) hx hb hts in_X11_strikes1_X11 hown hK hP 0 rfl rfl 26 (by decide) (hts (.fieldLink RX11 69 "HangingCardsModel" "needed" "I") (List.mem_of_getElem? (i := 3) rfl)) (fun _ h9 => h9) rfl dX11_strikes1_46 ?_
    refine lv_icmp_lt (tgt := 60) hx hb dX11_strikes1_49 (by decide) (fun c2 => ?_) (fun c2 => ?_)
    · have hf := wk_itT hf c2
      refine lv_iconst (v := (0 : Int32)) hx hb dX11_strikes1_60 (by decide) ?_
      exact hret _ _ _ _ _ _ dX11_strikes1_61 (wk_rt hf (fun z => wk_bI z)) rfl hP hD hS
    · have hf := wk_itF hf c2
      refine lv_iload_n hx hb dX11_strikes1_52 rfl (lv_at hl 0 rfl) ?_
      refine lv_if_ne (tgt := 60) hx hb dX11_strikes1_53 (by decide) (fun c3 => ?_) (fun c3 => ?_)
      · have hf := wk_itF hf c3
        refine lv_iconst (v := (0 : Int32)) hx hb dX11_strikes1_60 (by decide) ?_
        exact hret _ _ _ _ _ _ dX11_strikes1_61 (wk_rt hf (fun z => wk_bI z)) rfl hP hD hS
      · have hf := wk_itT hf c3
        refine lv_iconst (v := (1 : Int32)) hx hb dX11_strikes1_56 (by decide) ?_
        refine lv_goto (tgt := 61) hx hb dX11_strikes1_57 (by decide) ?_
        exact hret _ _ _ _ _ _ dX11_strikes1_61 (wk_rt hf (fun z => wk_bI z)) rfl hP hD hS
  unfold f_X11_strikes1 at hf
  refine lv_aload_n hx hb dX11_strikes1_0 rfl (lv_at hl 0 rfl) ?_
  refine va_get (D := D) (ci := 11) (v := .ref a_voterDay) (C := RX11) (T := TX11) (N := 35) hx hb hts in_X11_strikes1_X11 hown hK hP 0 rfl rfl 24 (by decide) (hts (.fieldLink RX11 63 "HangingCardsModel" "voterDay" "[I") (List.mem_of_getElem? (i := 1) rfl)) (fun _ h9 => h9) rfl dX11_strikes1_1 ?_
  refine lv_iload_n hx hb dX11_strikes1_4 rfl (lv_at hl 1 rfl) ?_
  obtain ⟨hi4, hf⟩ := wk_ckE hf
  refine va_iald hx hb hK hP 3 0 rfl rfl hi4 dX11_strikes1_5 ?_
  refine lv_if_lt (tgt := 37) hx hb dX11_strikes1_6 (by decide) (fun c5 => ?_) (fun c5 => ?_)
  · have hf := wk_itT hf c5
    refine lv_iconst (v := (0 : Int32)) hx hb dX11_strikes1_37 (by decide) ?_
    exact J38 _ _ _ hf _ _ _ hP hD hS (lv_sub hl [0, 1, 2] rfl)
  · have hf := wk_itF hf c5
    refine lv_aload_n hx hb dX11_strikes1_9 rfl (lv_at hl 0 rfl) ?_
    refine va_get (D := D) (ci := 11) (v := .ref a_listDay) (C := RX11) (T := TX11) (N := 35) hx hb hts in_X11_strikes1_X11 hown hK hP 0 rfl rfl 21 (by decide) (hts (.fieldLink RX11 57 "HangingCardsModel" "listDay" "[I") (List.mem_of_getElem? (i := 2) rfl)) (fun _ h9 => h9) rfl dX11_strikes1_10 ?_
    refine lv_iload_n hx hb dX11_strikes1_13 rfl (lv_at hl 2 rfl) ?_
    obtain ⟨hi6, hf⟩ := wk_ckE hf
    refine va_iald hx hb hK hP 1 0 rfl rfl hi6 dX11_strikes1_14 ?_
    refine lv_if_lt (tgt := 37) hx hb dX11_strikes1_15 (by decide) (fun c7 => ?_) (fun c7 => ?_)
    · have hf := wk_itT hf c7
      refine lv_iconst (v := (0 : Int32)) hx hb dX11_strikes1_37 (by decide) ?_
      exact J38 _ _ _ hf _ _ _ hP hD hS (lv_sub hl [0, 1, 2] rfl)
    · have hf := wk_itF hf c7
      refine lv_aload_n hx hb dX11_strikes1_18 rfl (lv_at hl 0 rfl) ?_
      refine va_get (D := D) (ci := 11) (v := .ref a_voterDay) (C := RX11) (T := TX11) (N := 35) hx hb hts in_X11_strikes1_X11 hown hK hP 0 rfl rfl 24 (by decide) (hts (.fieldLink RX11 63 "HangingCardsModel" "voterDay" "[I") (List.mem_of_getElem? (i := 1) rfl)) (fun _ h9 => h9) rfl dX11_strikes1_19 ?_
      refine lv_iload_n hx hb dX11_strikes1_22 rfl (lv_at hl 1 rfl) ?_
      obtain ⟨hi8, hf⟩ := wk_ckE hf
      refine va_iald hx hb hK hP 3 0 rfl rfl hi8 dX11_strikes1_23 ?_
      refine lv_aload_n hx hb dX11_strikes1_24 rfl (lv_at hl 0 rfl) ?_
      refine va_get (D := D) (ci := 11) (v := .ref a_listDay) (C := RX11) (T := TX11) (N := 35) hx hb hts in_X11_strikes1_X11 hown hK hP 0 rfl rfl 21 (by decide) (hts (.fieldLink RX11 57 "HangingCardsModel" "listDay" "[I") (List.mem_of_getElem? (i := 2) rfl)) (fun _ h9 => h9) rfl dX11_strikes1_25 ?_
      refine lv_iload_n hx hb dX11_strikes1_28 rfl (lv_at hl 2 rfl) ?_
      obtain ⟨hi9, hf⟩ := wk_ckE hf
      refine va_iald hx hb hK hP 1 0 rfl rfl hi9 dX11_strikes1_29 ?_
      refine lv_icmp_eq (tgt := 37) hx hb dX11_strikes1_30 (by decide) (fun c10 => ?_) (fun c10 => ?_)
      · have hf := wk_itT hf c10
        refine lv_iconst (v := (0 : Int32)) hx hb dX11_strikes1_37 (by decide) ?_
        exact J38 _ _ _ hf _ _ _ hP hD hS (lv_sub hl [0, 1, 2] rfl)
      · have hf := wk_itF hf c10
        refine lv_iconst (v := (1 : Int32)) hx hb dX11_strikes1_33 (by decide) ?_
        refine lv_goto (tgt := 38) hx hb dX11_strikes1_34 (by decide) ?_
        exact J38 _ _ _ hf _ _ _ hP hD hS (lv_sub hl [0, 1, 2] rfl)
abbrev w_X11_struckAs (cB cI cJ : ClassId) (a_this : Nat) (a_cards : Nat) (a_county : Nat) (a_holes : Nat) (a_text : Nat) (a_letter : Nat) (a_where : Nat) (a_rank : Nat) (a_value : Nat) (a_hour : Nat) (a_readLetter : Nat) (a_readWhere : Nat) (a_readRank : Nat) (a_readValue : Nat) (a_readHour : Nat) (a_listName : Nat) (a_listDay : Nat) (a_voterName : Nat) (a_voterDay : Nat) (a_voterCounty : Nat) (a_heaps : Nat) (a_speed : Nat) (a_four : Nat) (a_byRules : Nat) (a_hours : Nat) (a_rest : Nat) (a_yet : Nat) (a_put : Nat) (v_kept : Int32) (v_length : Int32) (v_items : Int32) (v_readItems : Int32) (v_at : Int32) (v_lists : Int32) (v_voters : Int32) (v_needed : Int32) (v_listDay : Nat → Int32) (v_listName : Nat → Int64) (v_voterDay : Nat → Int32) (v_voterName : Nat → Int64) : va_W := [(a_this, .inr (11, [.ref a_cards, .ref a_county, .ref a_holes, .int v_kept, .int v_length, .ref a_text, .int v_items, .ref a_letter, .ref a_where, .ref a_rank, .ref a_value, .ref a_hour, .int v_readItems, .ref a_readLetter, .ref a_readWhere, .ref a_readRank, .ref a_readValue, .ref a_readHour, .int v_at, .int v_lists, .ref a_listName, .ref a_listDay, .int v_voters, .ref a_voterName, .ref a_voterDay, .ref a_voterCounty, .int v_needed, .ref a_heaps, .ref a_speed, .ref a_four, .ref a_byRules, .ref a_hours, .ref a_rest, .ref a_yet, .ref a_put])), (a_listDay, .inl (cI, 8, .inl v_listDay)), (a_listName, .inl (cJ, 8, .inr (.inl v_listName))), (a_voterDay, .inl (cI, 12, .inl v_voterDay)), (a_voterName, .inl (cJ, 12, .inr (.inl v_voterName)))]
theorem hd_X11_struckAs : yX11_struckAs.cls = RX11 ∧ yX11_struckAs.cls ≠ "java/lang/invoke/MethodHandle" ∧ yX11_struckAs.cls ≠ "java/lang/invoke/VarHandle" ∧ (parseMethodDescriptor yX11_struckAs.desc).map (fun d => d.parameters.length) = some 1 := by decide +kernel
abbrev rm_X11_struckAs : Room := { frames := 4, cells := 0, slots := 0, locals := 93 }
theorem in_X11_struckAs_X11 : ∀ w ∈ wsX110, w ∈ wsX11_struckAs := fun w h => List.mem_cons_of_mem _ (List.mem_append_right _ h)
set_option maxHeartbeats 4000000 in
set_option maxRecDepth 100000 in
theorem c_X11_struckAs (l : Launch) (D : va_G) (cB cI cJ : ClassId) (N : Nat) (a_this : Nat) (a_cards : Nat) (a_county : Nat) (a_holes : Nat) (a_text : Nat) (a_letter : Nat) (a_where : Nat) (a_rank : Nat) (a_value : Nat) (a_hour : Nat) (a_readLetter : Nat) (a_readWhere : Nat) (a_readRank : Nat) (a_readValue : Nat) (a_readHour : Nat) (a_listName : Nat) (a_listDay : Nat) (a_voterName : Nat) (a_voterDay : Nat) (a_voterCounty : Nat) (a_heaps : Nat) (a_speed : Nat) (a_four : Nat) (a_byRules : Nat) (a_hours : Nat) (a_rest : Nat) (a_yet : Nat) (a_put : Nat) (v_kept : Int32) (v_length : Int32) (v_items : Int32) (v_readItems : Int32) (v_at : Int32) (v_lists : Int32) (v_voters : Int32) (v_needed : Int32) (v_listDay : Nat → Int32) (v_listName : Nat → Int64) (v_voterDay : Nat → Int32) (v_voterName : Nat → Int64) (x1 : Int32) {r : Int32} (hf : f_X11_struckAs N v_lists v_needed v_listDay v_listName v_voterDay v_voterName x1 = some r) : MTi l yX11_struckAs wsX11_struckAs rm_X11_struckAs D (wk_T cB cI cJ) [.ref a_this, .int x1] (w_X11_struckAs cB cI cJ a_this a_cards a_county a_holes a_text a_letter a_where a_rank a_value a_hour a_readLetter a_readWhere a_readRank a_readValue a_readHour a_listName a_listDay a_voterName a_voterDay a_voterCounty a_heaps a_speed a_four a_byRules a_hours a_rest a_yet a_put v_kept v_length v_items v_readItems v_at v_lists v_voters v_needed v_listDay v_listName v_voterDay v_voterName) (w_X11_struckAs cB cI cJ a_this a_cards a_county a_holes a_text a_letter a_where a_rank a_value a_hour a_readLetter a_readWhere a_readRank a_readValue a_readHour a_listName a_listDay a_voterName a_voterDay a_voterCounty a_heaps a_speed a_four a_byRules a_hours a_rest a_yet a_put v_kept v_length v_items v_readItems v_at v_lists v_voters v_needed v_listDay v_listName v_voterDay v_voterName) r := by
  refine MTi.of (cc := cX11_struckAs) (nL := 4) (rt := .int) (own := RX11) pn_X11 rfl rfl (Nat.le_of_ble_eq_true rfl) rfl ?_
  intro p e s m args below meth c A ls Q C hP hD hS hl hret
  obtain ⟨hx, hb, hml, hts, hown, hK, hN, hA, hlk⟩ := id C
  have hl : lv_has ls 4 [(0, .ref a_this), (1, .int x1)] := hl
  have L5 := wk_loopI (F := (fun k5 : Int32 → Int32 → Int32 → Option Int32 => B_X11_struckAs_5 N v_lists v_needed v_listDay v_listName v_voterDay v_voterName k5)) (bot := fun _ _ _ => none) (fun k5 : Int32 → Int32 → Int32 → Option Int32 => ∀ (x1 : Int32) (x2 : Int32) (x3 : Int32), k5 x1 x2 x3 = some r → ∀ (H : Heap) (locs : List Loc) (ls : Array Slot), va_P D vwCl (w_X11_struckAs cB cI cJ a_this a_cards a_county a_holes a_text a_letter a_where a_rank a_value a_hour a_readLetter a_readWhere a_readRank a_readValue a_readHour a_listName a_listDay a_voterName a_voterDay a_voterCounty a_heaps a_speed a_four a_byRules a_hours a_rest a_yet a_put v_kept v_length v_items v_readItems v_at v_lists v_voters v_needed v_listDay v_listName v_voterDay v_voterName) H → va_D A (w_X11_struckAs cB cI cJ a_this a_cards a_county a_holes a_text a_letter a_where a_rank a_value a_hour a_readLetter a_readWhere a_readRank a_readValue a_readHour a_listName a_listDay a_voterName a_voterDay a_voterCounty a_heaps a_speed a_four a_byRules a_hours a_rest a_yet a_put v_kept v_length v_items v_readItems v_at v_lists v_voters v_needed v_listDay v_listName v_voterDay v_voterName) → va_S A s.heap H locs → lv_has ls 4 [(0, .ref a_this), (1, .int x1), (2, .int x2), (3, .int x3)] → W p l e rm_X11_struckAs s m args below meth c H locs 0 0 Q (F0 m 5 ls [])) (by intro x1 x2 x3 hf; exact wk_no hf) (by
    intro k5 ih5
    intro x1 x2 x3 hf H locs ls hP hD hS hl
    have hf : B_X11_struckAs_5 N v_lists v_needed v_listDay v_listName v_voterDay v_voterName k5 x1 x2 x3 = some r := hf
    unfold B_X11_struckAs_5 at hf
    refine lv_iload_n hx hb dX11_struckAs_5 rfl (lv_at hl 3 rfl) ?_
    refine lv_aload_n hx hb dX11_struckAs_6 rfl (lv_at hl 0 rfl) ?_
    refine va_get (D := D) (ci := 11) (v := .int v_lists) (C := RX11) (T := TX11) (N := 35) hx hb hts in_X11_struckAs_X11 hown hK hP 0 rfl rfl 19 (by decide) (hts (.fieldLink RX11 230 "HangingCardsModel" "lists" "I") (List.mem_of_getElem? (i := 1) rfl)) (fun _ h9 => h9) rfl dX11_struckAs_7 ?_
    refine lv_icmp_ge (tgt := 53) hx hb dX11_struckAs_10 (by decide) (fun c1 => ?_) (fun c1 => ?_)
    · have hf := wk_itT hf c1
      refine lv_iload_n hx hb dX11_struckAs_53 rfl (lv_at hl 2 rfl) ?_
      exact hret _ _ _ _ _ _ dX11_struckAs_54 (wk_rt hf (fun z => z)) rfl hP hD hS
    · have hf := wk_itF hf c1
      refine lv_aload_n hx hb dX11_struckAs_13 rfl (lv_at hl 0 rfl) ?_
      refine lv_iload_n hx hb dX11_struckAs_14 rfl (lv_at hl 1 rfl) ?_
      refine lv_iload_n hx hb dX11_struckAs_15 rfl (lv_at hl 3 rfl) ?_
      obtain ⟨r2, hc2, hf⟩ := wk_b1E hf
      refine wk_callVi2 C hP hD hS (c_X11_strikes1 l D cB cI cJ N a_this a_cards a_county a_holes a_text a_letter a_where a_rank a_value a_hour a_readLetter a_readWhere a_readRank a_readValue a_readHour a_listName a_listDay a_voterName a_voterDay a_voterCounty a_heaps a_speed a_four a_byRules a_hours a_rest a_yet a_put v_kept v_length v_items v_readItems v_at v_lists v_voters v_needed v_listDay v_listName v_voterDay v_voterName x1 x3 hc2) (cwV 2 hts gX11_struckAs_X11_strikes1 rfl rfl rfl hd_X11_strikes1 ⟨Nat.le_of_ble_eq_true rfl, Nat.le_of_ble_eq_true rfl⟩) hl.1 ⟨Nat.zero_le _, Nat.zero_le _⟩ [0, 1, 2, 3, 4] [] 5 (by decide +kernel) rfl (Wn := w_X11_struckAs cB cI cJ a_this a_cards a_county a_holes a_text a_letter a_where a_rank a_value a_hour a_readLetter a_readWhere a_readRank a_readValue a_readHour a_listName a_listDay a_voterName a_voterDay a_voterCounty a_heaps a_speed a_four a_byRules a_hours a_rest a_yet a_put v_kept v_length v_items v_readItems v_at v_lists v_voters v_needed v_listDay v_listName v_voterDay v_voterName) rfl rfl rfl rfl rfl rfl (ci := 11) rfl rfl (q0 := 0) rfl rfl rfl (Nat.le_of_ble_eq_true rfl) dX11_struckAs_16 (fun H locs hP hD hS => ?_)
      refine lv_if_eq (tgt := 45) hx hb dX11_struckAs_19 (by decide) (fun c3 => ?_) (fun c3 => ?_)
      · have hf := wk_itT hf c3
        refine lv_iload_n hx hb dX11_struckAs_45 rfl (lv_at hl 2 rfl) ?_
        refine lv_istore_n (lv' := [(2, .int x2), (0, .ref a_this), (1, .int x1), (3, .int x3)]) hx hb dX11_struckAs_46 rfl hl (by decide) rfl (fun ls hl => ?_)
        obtain ⟨y4, ey4⟩ : ∃ y : Int32, y = x3 + (1 : Int32) := ⟨_, rfl⟩
        have hf := wk_nmE hf ey4
        refine lv_iinc (v := y4) (lv' := [(3, .int y4), (2, .int x2), (0, .ref a_this), (1, .int x1)]) hx hb dX11_struckAs_47 hl (k := 3) rfl (by rw [ey4]; rfl) (by decide) rfl (fun ls hl => ?_)
        refine lv_goto (tgt := 5) hx hb dX11_struckAs_50 (by decide) ?_
        exact ih5 _ _ _ hf _ _ _ hP hD hS (lv_sub hl [2, 3, 1, 0] rfl)
      · have hf := wk_itF hf c3
        refine lv_iload_n hx hb dX11_struckAs_22 rfl (lv_at hl 2 rfl) ?_
        refine lv_if_lt (tgt := 41) hx hb dX11_struckAs_23 (by decide) (fun c5 => ?_) (fun c5 => ?_)
        · have hf := wk_itT hf c5
          refine lv_iload_n hx hb dX11_struckAs_41 rfl (lv_at hl 3 rfl) ?_
          refine lv_goto (tgt := 46) hx hb dX11_struckAs_42 (by decide) ?_
          refine lv_istore_n (lv' := [(2, .int x3), (0, .ref a_this), (1, .int x1), (3, .int x3)]) hx hb dX11_struckAs_46 rfl hl (by decide) rfl (fun ls hl => ?_)
          obtain ⟨y6, ey6⟩ : ∃ y : Int32, y = x3 + (1 : Int32) := ⟨_, rfl⟩
          have hf := wk_nmE hf ey6
          refine lv_iinc (v := y6) (lv' := [(3, .int y6), (2, .int x3), (0, .ref a_this), (1, .int x1)]) hx hb dX11_struckAs_47 hl (k := 3) rfl (by rw [ey6]; rfl) (by decide) rfl (fun ls hl => ?_)
          refine lv_goto (tgt := 5) hx hb dX11_struckAs_50 (by decide) ?_
          exact ih5 _ _ _ hf _ _ _ hP hD hS (lv_sub hl [2, 3, 1, 0] rfl)
        · have hf := wk_itF hf c5
          refine lv_aload_n hx hb dX11_struckAs_26 rfl (lv_at hl 0 rfl) ?_
          refine lv_iload_n hx hb dX11_struckAs_27 rfl (lv_at hl 1 rfl) ?_
          refine lv_iload_n hx hb dX11_struckAs_28 rfl (lv_at hl 3 rfl) ?_
          obtain ⟨r7, hc7, hf⟩ := wk_b1E hf
          refine wk_callVi2 C hP hD hS (c_X11_likeOf l D cB cI cJ N a_this a_cards a_county a_holes a_text a_letter a_where a_rank a_value a_hour a_readLetter a_readWhere a_readRank a_readValue a_readHour a_listName a_listDay a_voterName a_voterDay a_voterCounty a_heaps a_speed a_four a_byRules a_hours a_rest a_yet a_put v_kept v_length v_items v_readItems v_at v_lists v_voters v_needed v_listName v_voterName x1 x3 hc7) (cwV 2 hts gX11_struckAs_X11_likeOf rfl rfl rfl hd_X11_likeOf ⟨Nat.le_of_ble_eq_true rfl, Nat.le_of_ble_eq_true rfl⟩) hl.1 ⟨Nat.zero_le _, Nat.zero_le _⟩ [0, 2, 4] [1, 3] 5 (by decide +kernel) rfl (Wn := w_X11_struckAs cB cI cJ a_this a_cards a_county a_holes a_text a_letter a_where a_rank a_value a_hour a_readLetter a_readWhere a_readRank a_readValue a_readHour a_listName a_listDay a_voterName a_voterDay a_voterCounty a_heaps a_speed a_four a_byRules a_hours a_rest a_yet a_put v_kept v_length v_items v_readItems v_at v_lists v_voters v_needed v_listDay v_listName v_voterDay v_voterName) rfl rfl rfl rfl rfl rfl (ci := 11) rfl rfl (q0 := 0) rfl rfl rfl (Nat.le_of_ble_eq_true rfl) dX11_struckAs_29 (fun H locs hP hD hS => ?_)
          refine lv_aload_n hx hb dX11_struckAs_32 rfl (lv_at hl 0 rfl) ?_
          refine lv_iload_n hx hb dX11_struckAs_33 rfl (lv_at hl 1 rfl) ?_
          refine lv_iload_n hx hb dX11_struckAs_34 rfl (lv_at hl 2 rfl) ?_
          obtain ⟨r8, hc8, hf⟩ := wk_b1E hf
          refine wk_callVi2 C hP hD hS (c_X11_likeOf l D cB cI cJ N a_this a_cards a_county a_holes a_text a_letter a_where a_rank a_value a_hour a_readLetter a_readWhere a_readRank a_readValue a_readHour a_listName a_listDay a_voterName a_voterDay a_voterCounty a_heaps a_speed a_four a_byRules a_hours a_rest a_yet a_put v_kept v_length v_items v_readItems v_at v_lists v_voters v_needed v_listName v_voterName x1 x2 hc8) (cwV 2 hts gX11_struckAs_X11_likeOf rfl rfl rfl hd_X11_likeOf ⟨Nat.le_of_ble_eq_true rfl, Nat.le_of_ble_eq_true rfl⟩) hl.1 ⟨Nat.zero_le _, Nat.zero_le _⟩ [0, 2, 4] [1, 3] 5 (by decide +kernel) rfl (Wn := w_X11_struckAs cB cI cJ a_this a_cards a_county a_holes a_text a_letter a_where a_rank a_value a_hour a_readLetter a_readWhere a_readRank a_readValue a_readHour a_listName a_listDay a_voterName a_voterDay a_voterCounty a_heaps a_speed a_four a_byRules a_hours a_rest a_yet a_put v_kept v_length v_items v_readItems v_at v_lists v_voters v_needed v_listDay v_listName v_voterDay v_voterName) rfl rfl rfl rfl rfl rfl (ci := 11) rfl rfl (q0 := 0) rfl rfl rfl (Nat.le_of_ble_eq_true rfl) dX11_struckAs_35 (fun H locs hP hD hS => ?_)
          refine lv_icmp_le (tgt := 45) hx hb dX11_struckAs_38 (by decide) (fun c9 => ?_) (fun c9 => ?_)
          · have hf := wk_itT hf c9
            refine lv_iload_n hx hb dX11_struckAs_45 rfl (lv_at hl 2 rfl) ?_
            refine lv_istore_n (lv' := [(2, .int x2), (0, .ref a_this), (1, .int x1), (3, .int x3)]) hx hb dX11_struckAs_46 rfl hl (by decide) rfl (fun ls hl => ?_)
            obtain ⟨y10, ey10⟩ : ∃ y : Int32, y = x3 + (1 : Int32) := ⟨_, rfl⟩
            have hf := wk_nmE hf ey10
            refine lv_iinc (v := y10) (lv' := [(3, .int y10), (2, .int x2), (0, .ref a_this), (1, .int x1)]) hx hb dX11_struckAs_47 hl (k := 3) rfl (by rw [ey10]; rfl) (by decide) rfl (fun ls hl => ?_)
            refine lv_goto (tgt := 5) hx hb dX11_struckAs_50 (by decide) ?_
            exact ih5 _ _ _ hf _ _ _ hP hD hS (lv_sub hl [2, 3, 1, 0] rfl)
          · have hf := wk_itF hf c9
            refine lv_iload_n hx hb dX11_struckAs_41 rfl (lv_at hl 3 rfl) ?_
            refine lv_goto (tgt := 46) hx hb dX11_struckAs_42 (by decide) ?_
            refine lv_istore_n (lv' := [(2, .int x3), (0, .ref a_this), (1, .int x1), (3, .int x3)]) hx hb dX11_struckAs_46 rfl hl (by decide) rfl (fun ls hl => ?_)
            obtain ⟨y11, ey11⟩ : ∃ y : Int32, y = x3 + (1 : Int32) := ⟨_, rfl⟩
            have hf := wk_nmE hf ey11
            refine lv_iinc (v := y11) (lv' := [(3, .int y11), (2, .int x3), (0, .ref a_this), (1, .int x1)]) hx hb dX11_struckAs_47 hl (k := 3) rfl (by rw [ey11]; rfl) (by decide) rfl (fun ls hl => ?_)
            refine lv_goto (tgt := 5) hx hb dX11_struckAs_50 (by decide) ?_
            exact ih5 _ _ _ hf _ _ _ hP hD hS (lv_sub hl [2, 3, 1, 0] rfl))
  unfold f_X11_struckAs at hf
  refine lv_bipush (v := (-4 : Int32)) hx hb dX11_struckAs_0 (by decide) ?_
  refine lv_istore_n (lv' := [(2, .int (-4 : Int32)), (0, .ref a_this), (1, .int x1)]) hx hb dX11_struckAs_2 rfl hl (by decide) rfl (fun ls hl => ?_)
  refine lv_iconst (v := (0 : Int32)) hx hb dX11_struckAs_3 (by decide) ?_
  refine lv_istore_n (lv' := [(3, .int (0 : Int32)), (2, .int (-4 : Int32)), (0, .ref a_this), (1, .int x1)]) hx hb dX11_struckAs_4 rfl hl (by decide) rfl (fun ls hl => ?_)
  exact L5 N _ _ _ hf _ _ _ hP hD hS (lv_sub hl [2, 3, 1, 0] rfl)
abbrev w_X11_rightly (cB cI cJ : ClassId) (a_this : Nat) (a_cards : Nat) (a_county : Nat) (a_holes : Nat) (a_text : Nat) (a_letter : Nat) (a_where : Nat) (a_rank : Nat) (a_value : Nat) (a_hour : Nat) (a_readLetter : Nat) (a_readWhere : Nat) (a_readRank : Nat) (a_readValue : Nat) (a_readHour : Nat) (a_listName : Nat) (a_listDay : Nat) (a_voterName : Nat) (a_voterDay : Nat) (a_voterCounty : Nat) (a_heaps : Nat) (a_speed : Nat) (a_four : Nat) (a_byRules : Nat) (a_hours : Nat) (a_rest : Nat) (a_yet : Nat) (a_put : Nat) (v_kept : Int32) (v_length : Int32) (v_items : Int32) (v_readItems : Int32) (v_at : Int32) (v_lists : Int32) (v_voters : Int32) (v_needed : Int32) (v_listDay : Nat → Int32) (v_listName : Nat → Int64) (v_voterDay : Nat → Int32) (v_voterName : Nat → Int64) : va_W := [(a_this, .inr (11, [.ref a_cards, .ref a_county, .ref a_holes, .int v_kept, .int v_length, .ref a_text, .int v_items, .ref a_letter, .ref a_where, .ref a_rank, .ref a_value, .ref a_hour, .int v_readItems, .ref a_readLetter, .ref a_readWhere, .ref a_readRank, .ref a_readValue, .ref a_readHour, .int v_at, .int v_lists, .ref a_listName, .ref a_listDay, .int v_voters, .ref a_voterName, .ref a_voterDay, .ref a_voterCounty, .int v_needed, .ref a_heaps, .ref a_speed, .ref a_four, .ref a_byRules, .ref a_hours, .ref a_rest, .ref a_yet, .ref a_put])), (a_listDay, .inl (cI, 8, .inl v_listDay)), (a_listName, .inl (cJ, 8, .inr (.inl v_listName))), (a_voterDay, .inl (cI, 12, .inl v_voterDay)), (a_voterName, .inl (cJ, 12, .inr (.inl v_voterName)))]
theorem hd_X11_rightly : yX11_rightly.cls = RX11 ∧ yX11_rightly.cls ≠ "java/lang/invoke/MethodHandle" ∧ yX11_rightly.cls ≠ "java/lang/invoke/VarHandle" ∧ (parseMethodDescriptor yX11_rightly.desc).map (fun d => d.parameters.length) = some 1 := by decide +kernel
abbrev rm_X11_rightly : Room := { frames := 5, cells := 0, slots := 0, locals := 116 }
theorem in_X11_rightly_X11 : ∀ w ∈ wsX110, w ∈ wsX11_rightly := fun w h => List.mem_cons_of_mem _ (List.mem_append_right _ h)
set_option maxHeartbeats 4000000 in
set_option maxRecDepth 100000 in
theorem c_X11_rightly (l : Launch) (D : va_G) (cB cI cJ : ClassId) (N : Nat) (a_this : Nat) (a_cards : Nat) (a_county : Nat) (a_holes : Nat) (a_text : Nat) (a_letter : Nat) (a_where : Nat) (a_rank : Nat) (a_value : Nat) (a_hour : Nat) (a_readLetter : Nat) (a_readWhere : Nat) (a_readRank : Nat) (a_readValue : Nat) (a_readHour : Nat) (a_listName : Nat) (a_listDay : Nat) (a_voterName : Nat) (a_voterDay : Nat) (a_voterCounty : Nat) (a_heaps : Nat) (a_speed : Nat) (a_four : Nat) (a_byRules : Nat) (a_hours : Nat) (a_rest : Nat) (a_yet : Nat) (a_put : Nat) (v_kept : Int32) (v_length : Int32) (v_items : Int32) (v_readItems : Int32) (v_at : Int32) (v_lists : Int32) (v_voters : Int32) (v_needed : Int32) (v_listDay : Nat → Int32) (v_listName : Nat → Int64) (v_voterDay : Nat → Int32) (v_voterName : Nat → Int64) (x1 : Int32) {r : Int32} (hf : f_X11_rightly N v_lists v_needed v_listDay v_listName v_voterDay v_voterName x1 = some r) : MTi l yX11_rightly wsX11_rightly rm_X11_rightly D (wk_T cB cI cJ) [.ref a_this, .int x1] (w_X11_rightly cB cI cJ a_this a_cards a_county a_holes a_text a_letter a_where a_rank a_value a_hour a_readLetter a_readWhere a_readRank a_readValue a_readHour a_listName a_listDay a_voterName a_voterDay a_voterCounty a_heaps a_speed a_four a_byRules a_hours a_rest a_yet a_put v_kept v_length v_items v_readItems v_at v_lists v_voters v_needed v_listDay v_listName v_voterDay v_voterName) (w_X11_rightly cB cI cJ a_this a_cards a_county a_holes a_text a_letter a_where a_rank a_value a_hour a_readLetter a_readWhere a_readRank a_readValue a_readHour a_listName a_listDay a_voterName a_voterDay a_voterCounty a_heaps a_speed a_four a_byRules a_hours a_rest a_yet a_put v_kept v_length v_items v_readItems v_at v_lists v_voters v_needed v_listDay v_listName v_voterDay v_voterName) r := by
  refine MTi.of (cc := cX11_rightly) (nL := 4) (rt := .int) (own := RX11) pn_X11 rfl rfl (Nat.le_of_ble_eq_true rfl) rfl ?_
  intro p e s m args below meth c A ls Q C hP hD hS hl hret
  obtain ⟨hx, hb, hml, hts, hown, hK, hN, hA, hlk⟩ := id C
  have hl : lv_has ls 4 [(0, .ref a_this), (1, .int x1)] := hl
  have J36 : ∀ (x1 : Int32) (x2 : Int32) (s0 : Int32), B_X11_rightly_36 N v_lists v_needed v_listDay v_listName v_voterDay v_voterName x1 x2 s0 = some r → ∀ (H : Heap) (locs : List Loc) (ls : Array Slot), va_P D vwCl (w_X11_rightly cB cI cJ a_this a_cards a_county a_holes a_text a_letter a_where a_rank a_value a_hour a_readLetter a_readWhere a_readRank a_readValue a_readHour a_listName a_listDay a_voterName a_voterDay a_voterCounty a_heaps a_speed a_four a_byRules a_hours a_rest a_yet a_put v_kept v_length v_items v_readItems v_at v_lists v_voters v_needed v_listDay v_listName v_voterDay v_voterName) H → va_D A (w_X11_rightly cB cI cJ a_this a_cards a_county a_holes a_text a_letter a_where a_rank a_value a_hour a_readLetter a_readWhere a_readRank a_readValue a_readHour a_listName a_listDay a_voterName a_voterDay a_voterCounty a_heaps a_speed a_four a_byRules a_hours a_rest a_yet a_put v_kept v_length v_items v_readItems v_at v_lists v_voters v_needed v_listDay v_listName v_voterDay v_voterName) → va_S A s.heap H locs → lv_has ls 4 [(0, .ref a_this), (1, .int x1), (2, .int x2)] → W p l e rm_X11_rightly s m args below meth c H locs 0 0 Q (F0 m 36 ls [.int s0]) := by
    intro x1 x2 s0 hf H locs ls hP hD hS hl
    unfold B_X11_rightly_36 at hf
    refine lv_istore_n (lv' := [(3, .int s0), (0, .ref a_this), (1, .int x1), (2, .int x2)]) hx hb dX11_rightly_36 rfl hl (by decide) rfl (fun ls hl => ?_)
    refine lv_iload_n hx hb dX11_rightly_37 rfl (lv_at hl 0 rfl) ?_
    refine lv_if_ne (tgt := 45) hx hb dX11_rightly_38 (by decide) (fun c1 => ?_) (fun c1 => ?_)
    · have hf := wk_itF hf c1
      refine lv_aload_n hx hb dX11_rightly_45 rfl (lv_at hl 1 rfl) ?_
      refine va_get (D := D) (ci := 11) (v := .ref a_voterName) (C := RX11) (T := TX11) (N := 35) hx hb hts in_X11_rightly_X11 hown hK hP 0 rfl rfl 23 (by decide) (hts (.fieldLink RX11 60 "HangingCardsModel" "voterName" "[J") (List.mem_of_getElem? (i := 3) rfl)) (fun _ h9 => h9) rfl dX11_rightly_46 ?_
      refine lv_iload_n hx hb dX11_rightly_49 rfl (lv_at hl 2 rfl) ?_
      obtain ⟨hi2, hf⟩ := wk_ckE hf
      refine va_lald hx hb hK hP 4 2 rfl rfl hi2 dX11_rightly_50 ?_
      refine lv_aload_n hx hb dX11_rightly_51 rfl (lv_at hl 1 rfl) ?_
      refine va_get (D := D) (ci := 11) (v := .ref a_listName) (C := RX11) (T := TX11) (N := 35) hx hb hts in_X11_rightly_X11 hown hK hP 0 rfl rfl 20 (by decide) (hts (.fieldLink RX11 53 "HangingCardsModel" "listName" "[J") (List.mem_of_getElem? (i := 4) rfl)) (fun _ h9 => h9) rfl dX11_rightly_52 ?_
      refine lv_iload_n hx hb dX11_rightly_55 rfl (lv_at hl 3 rfl) ?_
      obtain ⟨hi3, hf⟩ := wk_ckE hf
      refine va_lald hx hb hK hP 2 2 rfl rfl hi3 dX11_rightly_56 ?_
      refine W.lcmp hx hb dX11_rightly_57 ?_
      refine lv_if_ne (tgt := 65) hx hb dX11_rightly_58 (by decide) (fun c4 => ?_) (fun c4 => ?_)
      · have hf := wk_itF hf c4
        refine lv_iconst (v := (0 : Int32)) hx hb dX11_rightly_65 (by decide) ?_
        exact hret _ _ _ _ _ _ dX11_rightly_66 (wk_rt hf (fun z => z)) rfl hP hD hS
      · have hf := wk_itT hf c4
        refine lv_iconst (v := (2 : Int32)) hx hb dX11_rightly_61 (by decide) ?_
        refine lv_goto (tgt := 66) hx hb dX11_rightly_62 (by decide) ?_
        exact hret _ _ _ _ _ _ dX11_rightly_66 (wk_rt hf (fun z => z)) rfl hP hD hS
    · have hf := wk_itT hf c1
      refine lv_iconst (v := (1 : Int32)) hx hb dX11_rightly_41 (by decide) ?_
      refine lv_goto (tgt := 66) hx hb dX11_rightly_42 (by decide) ?_
      exact hret _ _ _ _ _ _ dX11_rightly_66 (wk_rt hf (fun z => z)) rfl hP hD hS
  unfold f_X11_rightly at hf
  refine lv_aload_n hx hb dX11_rightly_0 rfl (lv_at hl 0 rfl) ?_
  refine lv_iload_n hx hb dX11_rightly_1 rfl (lv_at hl 1 rfl) ?_
  obtain ⟨r5, hc5, hf⟩ := wk_b1E hf
  refine wk_callVi2 C hP hD hS (c_X11_struckAs l D cB cI cJ N a_this a_cards a_county a_holes a_text a_letter a_where a_rank a_value a_hour a_readLetter a_readWhere a_readRank a_readValue a_readHour a_listName a_listDay a_voterName a_voterDay a_voterCounty a_heaps a_speed a_four a_byRules a_hours a_rest a_yet a_put v_kept v_length v_items v_readItems v_at v_lists v_voters v_needed v_listDay v_listName v_voterDay v_voterName x1 hc5) (cwV 1 hts gX11_rightly_X11_struckAs rfl rfl rfl hd_X11_struckAs ⟨Nat.le_of_ble_eq_true rfl, Nat.le_of_ble_eq_true rfl⟩) hl.1 ⟨Nat.zero_le _, Nat.zero_le _⟩ [0, 1, 2, 3, 4] [] 5 (by decide +kernel) rfl (Wn := w_X11_rightly cB cI cJ a_this a_cards a_county a_holes a_text a_letter a_where a_rank a_value a_hour a_readLetter a_readWhere a_readRank a_readValue a_readHour a_listName a_listDay a_voterName a_voterDay a_voterCounty a_heaps a_speed a_four a_byRules a_hours a_rest a_yet a_put v_kept v_length v_items v_readItems v_at v_lists v_voters v_needed v_listDay v_listName v_voterDay v_voterName) rfl rfl rfl rfl rfl rfl (ci := 11) rfl rfl (q0 := 0) rfl rfl rfl (Nat.le_of_ble_eq_true rfl) dX11_rightly_2 (fun H locs hP hD hS => ?_)
  refine lv_istore_n (lv' := [(2, .int r5), (0, .ref a_this), (1, .int x1)]) hx hb dX11_rightly_5 rfl hl (by decide) rfl (fun ls hl => ?_)
  refine lv_iload_n hx hb dX11_rightly_6 rfl (lv_at hl 0 rfl) ?_
  refine lv_if_ge (tgt := 13) hx hb dX11_rightly_7 (by decide) (fun c6 => ?_) (fun c6 => ?_)
  · have hf := wk_itT hf c6
    refine lv_aload_n hx hb dX11_rightly_13 rfl (lv_at hl 1 rfl) ?_
    refine va_get (D := D) (ci := 11) (v := .ref a_voterDay) (C := RX11) (T := TX11) (N := 35) hx hb hts in_X11_rightly_X11 hown hK hP 0 rfl rfl 24 (by decide) (hts (.fieldLink RX11 63 "HangingCardsModel" "voterDay" "[I") (List.mem_of_getElem? (i := 1) rfl)) (fun _ h9 => h9) rfl dX11_rightly_14 ?_
    refine lv_iload_n hx hb dX11_rightly_17 rfl (lv_at hl 2 rfl) ?_
    obtain ⟨hi7, hf⟩ := wk_ckE hf
    refine va_iald hx hb hK hP 3 0 rfl rfl hi7 dX11_rightly_18 ?_
    refine lv_if_lt (tgt := 35) hx hb dX11_rightly_19 (by decide) (fun c8 => ?_) (fun c8 => ?_)
    · have hf := wk_itT hf c8
      refine lv_iconst (v := (0 : Int32)) hx hb dX11_rightly_35 (by decide) ?_
      exact J36 _ _ _ hf _ _ _ hP hD hS (lv_sub hl [1, 2, 0] rfl)
    · have hf := wk_itF hf c8
      refine lv_aload_n hx hb dX11_rightly_22 rfl (lv_at hl 1 rfl) ?_
      refine va_get (D := D) (ci := 11) (v := .ref a_listDay) (C := RX11) (T := TX11) (N := 35) hx hb hts in_X11_rightly_X11 hown hK hP 0 rfl rfl 21 (by decide) (hts (.fieldLink RX11 57 "HangingCardsModel" "listDay" "[I") (List.mem_of_getElem? (i := 2) rfl)) (fun _ h9 => h9) rfl dX11_rightly_23 ?_
      refine lv_iload_n hx hb dX11_rightly_26 rfl (lv_at hl 0 rfl) ?_
      obtain ⟨hi9, hf⟩ := wk_ckE hf
      refine va_iald hx hb hK hP 1 0 rfl rfl hi9 dX11_rightly_27 ?_
      refine lv_if_lt (tgt := 35) hx hb dX11_rightly_28 (by decide) (fun c10 => ?_) (fun c10 => ?_)
      · have hf := wk_itT hf c10
        refine lv_iconst (v := (0 : Int32)) hx hb dX11_rightly_35 (by decide) ?_
        exact J36 _ _ _ hf _ _ _ hP hD hS (lv_sub hl [1, 2, 0] rfl)
      · have hf := wk_itF hf c10
        refine lv_iconst (v := (1 : Int32)) hx hb dX11_rightly_31 (by decide) ?_
        refine lv_goto (tgt := 36) hx hb dX11_rightly_32 (by decide) ?_
        exact J36 _ _ _ hf _ _ _ hP hD hS (lv_sub hl [1, 2, 0] rfl)
  · have hf := wk_itF hf c6
    refine lv_bipush (v := (-4 : Int32)) hx hb dX11_rightly_10 (by decide) ?_
    exact hret _ _ _ _ _ _ dX11_rightly_12 (wk_rt hf (fun z => z)) rfl hP hD hS
abbrev w_X11_struck (cB cI cJ : ClassId) (a_this : Nat) (a_cards : Nat) (a_county : Nat) (a_holes : Nat) (a_text : Nat) (a_letter : Nat) (a_where : Nat) (a_rank : Nat) (a_value : Nat) (a_hour : Nat) (a_readLetter : Nat) (a_readWhere : Nat) (a_readRank : Nat) (a_readValue : Nat) (a_readHour : Nat) (a_listName : Nat) (a_listDay : Nat) (a_voterName : Nat) (a_voterDay : Nat) (a_voterCounty : Nat) (a_heaps : Nat) (a_speed : Nat) (a_four : Nat) (a_byRules : Nat) (a_hours : Nat) (a_rest : Nat) (a_yet : Nat) (a_put : Nat) (v_kept : Int32) (v_length : Int32) (v_items : Int32) (v_readItems : Int32) (v_at : Int32) (v_lists : Int32) (v_voters : Int32) (v_needed : Int32) (v_listDay : Nat → Int32) (v_listName : Nat → Int64) (v_voterDay : Nat → Int32) (v_voterName : Nat → Int64) : va_W := [(a_this, .inr (11, [.ref a_cards, .ref a_county, .ref a_holes, .int v_kept, .int v_length, .ref a_text, .int v_items, .ref a_letter, .ref a_where, .ref a_rank, .ref a_value, .ref a_hour, .int v_readItems, .ref a_readLetter, .ref a_readWhere, .ref a_readRank, .ref a_readValue, .ref a_readHour, .int v_at, .int v_lists, .ref a_listName, .ref a_listDay, .int v_voters, .ref a_voterName, .ref a_voterDay, .ref a_voterCounty, .int v_needed, .ref a_heaps, .ref a_speed, .ref a_four, .ref a_byRules, .ref a_hours, .ref a_rest, .ref a_yet, .ref a_put])), (a_listDay, .inl (cI, 8, .inl v_listDay)), (a_listName, .inl (cJ, 8, .inr (.inl v_listName))), (a_voterDay, .inl (cI, 12, .inl v_voterDay)), (a_voterName, .inl (cJ, 12, .inr (.inl v_voterName)))]
theorem hd_X11_struck : yX11_struck.cls = RX11 ∧ yX11_struck.cls ≠ "java/lang/invoke/MethodHandle" ∧ yX11_struck.cls ≠ "java/lang/invoke/VarHandle" ∧ (parseMethodDescriptor yX11_struck.desc).map (fun d => d.parameters.length) = some 2 := by decide +kernel
abbrev rm_X11_struck : Room := { frames := 6, cells := 0, slots := 0, locals := 139 }
set_option maxHeartbeats 4000000 in
set_option maxRecDepth 100000 in
theorem c_X11_struck (l : Launch) (D : va_G) (cB cI cJ : ClassId) (N : Nat) (a_this : Nat) (a_cards : Nat) (a_county : Nat) (a_holes : Nat) (a_text : Nat) (a_letter : Nat) (a_where : Nat) (a_rank : Nat) (a_value : Nat) (a_hour : Nat) (a_readLetter : Nat) (a_readWhere : Nat) (a_readRank : Nat) (a_readValue : Nat) (a_readHour : Nat) (a_listName : Nat) (a_listDay : Nat) (a_voterName : Nat) (a_voterDay : Nat) (a_voterCounty : Nat) (a_heaps : Nat) (a_speed : Nat) (a_four : Nat) (a_byRules : Nat) (a_hours : Nat) (a_rest : Nat) (a_yet : Nat) (a_put : Nat) (v_kept : Int32) (v_length : Int32) (v_items : Int32) (v_readItems : Int32) (v_at : Int32) (v_lists : Int32) (v_voters : Int32) (v_needed : Int32) (v_listDay : Nat → Int32) (v_listName : Nat → Int64) (v_voterDay : Nat → Int32) (v_voterName : Nat → Int64) (x1 : Int32) (x2 : Int32) {r : Int32} (hf : f_X11_struck N v_lists v_voters v_needed v_listDay v_listName v_voterDay v_voterName x1 x2 = some r) : MTi l yX11_struck wsX11_struck rm_X11_struck D (wk_T cB cI cJ) [.ref a_this, .int x1, .int x2] (w_X11_struck cB cI cJ a_this a_cards a_county a_holes a_text a_letter a_where a_rank a_value a_hour a_readLetter a_readWhere a_readRank a_readValue a_readHour a_listName a_listDay a_voterName a_voterDay a_voterCounty a_heaps a_speed a_four a_byRules a_hours a_rest a_yet a_put v_kept v_length v_items v_readItems v_at v_lists v_voters v_needed v_listDay v_listName v_voterDay v_voterName) (w_X11_struck cB cI cJ a_this a_cards a_county a_holes a_text a_letter a_where a_rank a_value a_hour a_readLetter a_readWhere a_readRank a_readValue a_readHour a_listName a_listDay a_voterName a_voterDay a_voterCounty a_heaps a_speed a_four a_byRules a_hours a_rest a_yet a_put v_kept v_length v_items v_readItems v_at v_lists v_voters v_needed v_listDay v_listName v_voterDay v_voterName) r := by
  refine MTi.of (cc := cX11_struck) (nL := 3) (rt := .int) (own := RX11) pn_X11 rfl rfl (Nat.le_of_ble_eq_true rfl) rfl ?_
  intro p e s m args below meth c A ls Q C hP hD hS hl hret
  obtain ⟨hx, hb, hml, hts, hown, hK, hN, hA, hlk⟩ := id C
  have hl : lv_has ls 3 [(0, .ref a_this), (1, .int x1), (2, .int x2)] := hl
  unfold f_X11_struck at hf
  refine lv_aload_n hx hb dX11_struck_0 rfl (lv_at hl 0 rfl) ?_
  refine lv_iload_n hx hb dX11_struck_1 rfl (lv_at hl 1 rfl) ?_
  obtain ⟨r1, hc1, hf⟩ := wk_b1E hf
  refine wk_callVi2 C hP hD hS (c_X11_isVoter l D cB cI cJ N a_this a_cards a_county a_holes a_text a_letter a_where a_rank a_value a_hour a_readLetter a_readWhere a_readRank a_readValue a_readHour a_listName a_listDay a_voterName a_voterDay a_voterCounty a_heaps a_speed a_four a_byRules a_hours a_rest a_yet a_put v_kept v_length v_items v_readItems v_at v_lists v_voters v_needed x1 hc1) (cwV 1 hts gX11_struck_X11_isVoter rfl rfl rfl hd_X11_isVoter ⟨Nat.le_of_ble_eq_true rfl, Nat.le_of_ble_eq_true rfl⟩) hl.1 ⟨Nat.zero_le _, Nat.zero_le _⟩ [0] [1, 2, 3, 4] 5 (by decide +kernel) rfl (Wn := w_X11_struck cB cI cJ a_this a_cards a_county a_holes a_text a_letter a_where a_rank a_value a_hour a_readLetter a_readWhere a_readRank a_readValue a_readHour a_listName a_listDay a_voterName a_voterDay a_voterCounty a_heaps a_speed a_four a_byRules a_hours a_rest a_yet a_put v_kept v_length v_items v_readItems v_at v_lists v_voters v_needed v_listDay v_listName v_voterDay v_voterName) rfl rfl rfl rfl rfl rfl (ci := 11) rfl rfl (q0 := 0) rfl rfl rfl (Nat.le_of_ble_eq_true rfl) dX11_struck_2 (fun H locs hP hD hS => ?_)
  refine lv_if_eq (tgt := 18) hx hb dX11_struck_5 (by decide) (fun c2 => ?_) (fun c2 => ?_)
  · have hf := wk_itT hf c2
    refine lv_iconst (v := (-1 : Int32)) hx hb dX11_struck_18 (by decide) ?_
    exact hret _ _ _ _ _ _ dX11_struck_19 (wk_rt hf (fun z => z)) rfl hP hD hS
  · have hf := wk_itF hf c2
    refine lv_iload_n hx hb dX11_struck_8 rfl (lv_at hl 2 rfl) ?_
    refine lv_i2l (v := (x2.toInt64)) hx hb dX11_struck_9 rfl ?_
    refine lv_lconst (v := (0 : Int64)) hx hb dX11_struck_10 (by decide) ?_
    refine lv_lconst (v := (1 : Int64)) hx hb dX11_struck_11 (by decide) ?_
    obtain ⟨r3, hc3, hf⟩ := wk_b1E hf
    refine wk_callSi2 C hP hD hS (c_X11_in l D cB cI cJ N (x2.toInt64) (0 : Int64) (1 : Int64) hc3) (va_cwS 3 hts gX11_struck_X11_in rfl rfl rfl hd_X11_in.2 ⟨Nat.le_of_ble_eq_true rfl, Nat.le_of_ble_eq_true rfl⟩) hl.1 ⟨Nat.zero_le _, Nat.zero_le _⟩ [] [0, 1, 2, 3, 4] 5 (by decide +kernel) rfl (Wn := w_X11_struck cB cI cJ a_this a_cards a_county a_holes a_text a_letter a_where a_rank a_value a_hour a_readLetter a_readWhere a_readRank a_readValue a_readHour a_listName a_listDay a_voterName a_voterDay a_voterCounty a_heaps a_speed a_four a_byRules a_hours a_rest a_yet a_put v_kept v_length v_items v_readItems v_at v_lists v_voters v_needed v_listDay v_listName v_voterDay v_voterName) rfl rfl rfl rfl rfl rfl rfl rfl (Nat.le_of_ble_eq_true rfl) dX11_struck_12 (fun H locs hP hD hS => ?_)
    refine lv_if_ne (tgt := 20) hx hb dX11_struck_15 (by decide) (fun c4 => ?_) (fun c4 => ?_)
    · have hf := wk_itF hf c4
      refine lv_iload_n hx hb dX11_struck_20 rfl (lv_at hl 2 rfl) ?_
      refine lv_if_ne (tgt := 32) hx hb dX11_struck_21 (by decide) (fun c5 => ?_) (fun c5 => ?_)
      · have hf := wk_itF hf c5
        refine lv_aload_n hx hb dX11_struck_32 rfl (lv_at hl 0 rfl) ?_
        refine lv_iload_n hx hb dX11_struck_33 rfl (lv_at hl 1 rfl) ?_
        obtain ⟨r6, hc6, hf⟩ := wk_b1E hf
        refine wk_callVi2 C hP hD hS (c_X11_rightly l D cB cI cJ N a_this a_cards a_county a_holes a_text a_letter a_where a_rank a_value a_hour a_readLetter a_readWhere a_readRank a_readValue a_readHour a_listName a_listDay a_voterName a_voterDay a_voterCounty a_heaps a_speed a_four a_byRules a_hours a_rest a_yet a_put v_kept v_length v_items v_readItems v_at v_lists v_voters v_needed v_listDay v_listName v_voterDay v_voterName x1 hc6) (cwV 1 hts gX11_struck_X11_rightly rfl rfl rfl hd_X11_rightly ⟨Nat.le_of_ble_eq_true rfl, Nat.le_of_ble_eq_true rfl⟩) hl.1 ⟨Nat.zero_le _, Nat.zero_le _⟩ [0, 1, 2, 3, 4] [] 5 (by decide +kernel) rfl (Wn := w_X11_struck cB cI cJ a_this a_cards a_county a_holes a_text a_letter a_where a_rank a_value a_hour a_readLetter a_readWhere a_readRank a_readValue a_readHour a_listName a_listDay a_voterName a_voterDay a_voterCounty a_heaps a_speed a_four a_byRules a_hours a_rest a_yet a_put v_kept v_length v_items v_readItems v_at v_lists v_voters v_needed v_listDay v_listName v_voterDay v_voterName) rfl rfl rfl rfl rfl rfl (ci := 11) rfl rfl (q0 := 0) rfl rfl rfl (Nat.le_of_ble_eq_true rfl) dX11_struck_34 (fun H locs hP hD hS => ?_)
        exact hret _ _ _ _ _ _ dX11_struck_37 (wk_rt hf (fun z => z)) rfl hP hD hS
      · have hf := wk_itT hf c5
        refine lv_aload_n hx hb dX11_struck_24 rfl (lv_at hl 0 rfl) ?_
        refine lv_iload_n hx hb dX11_struck_25 rfl (lv_at hl 1 rfl) ?_
        obtain ⟨r7, hc7, hf⟩ := wk_b1E hf
        refine wk_callVi2 C hP hD hS (c_X11_struckAs l D cB cI cJ N a_this a_cards a_county a_holes a_text a_letter a_where a_rank a_value a_hour a_readLetter a_readWhere a_readRank a_readValue a_readHour a_listName a_listDay a_voterName a_voterDay a_voterCounty a_heaps a_speed a_four a_byRules a_hours a_rest a_yet a_put v_kept v_length v_items v_readItems v_at v_lists v_voters v_needed v_listDay v_listName v_voterDay v_voterName x1 hc7) (cwV 1 hts gX11_struck_X11_struckAs rfl rfl rfl hd_X11_struckAs ⟨Nat.le_of_ble_eq_true rfl, Nat.le_of_ble_eq_true rfl⟩) hl.1 ⟨Nat.zero_le _, Nat.zero_le _⟩ [0, 1, 2, 3, 4] [] 5 (by decide +kernel) rfl (Wn := w_X11_struck cB cI cJ a_this a_cards a_county a_holes a_text a_letter a_where a_rank a_value a_hour a_readLetter a_readWhere a_readRank a_readValue a_readHour a_listName a_listDay a_voterName a_voterDay a_voterCounty a_heaps a_speed a_four a_byRules a_hours a_rest a_yet a_put v_kept v_length v_items v_readItems v_at v_lists v_voters v_needed v_listDay v_listName v_voterDay v_voterName) rfl rfl rfl rfl rfl rfl (ci := 11) rfl rfl (q0 := 0) rfl rfl rfl (Nat.le_of_ble_eq_true rfl) dX11_struck_26 (fun H locs hP hD hS => ?_)
        refine lv_goto (tgt := 37) hx hb dX11_struck_29 (by decide) ?_
        exact hret _ _ _ _ _ _ dX11_struck_37 (wk_rt hf (fun z => z)) rfl hP hD hS
    · have hf := wk_itT hf c4
      refine lv_iconst (v := (-1 : Int32)) hx hb dX11_struck_18 (by decide) ?_
      exact hret _ _ _ _ _ _ dX11_struck_19 (wk_rt hf (fun z => z)) rfl hP hD hS
abbrev w_X11_paired (cB cI cJ : ClassId) (a_this : Nat) (a_cards : Nat) (a_county : Nat) (a_holes : Nat) (a_text : Nat) (a_letter : Nat) (a_where : Nat) (a_rank : Nat) (a_value : Nat) (a_hour : Nat) (a_readLetter : Nat) (a_readWhere : Nat) (a_readRank : Nat) (a_readValue : Nat) (a_readHour : Nat) (a_listName : Nat) (a_listDay : Nat) (a_voterName : Nat) (a_voterDay : Nat) (a_voterCounty : Nat) (a_heaps : Nat) (a_speed : Nat) (a_four : Nat) (a_byRules : Nat) (a_hours : Nat) (a_rest : Nat) (a_yet : Nat) (a_put : Nat) (v_kept : Int32) (v_length : Int32) (v_items : Int32) (v_readItems : Int32) (v_at : Int32) (v_lists : Int32) (v_voters : Int32) (v_needed : Int32) (v_listDay : Nat → Int32) (v_listName : Nat → Int64) (v_voterDay : Nat → Int32) (v_voterName : Nat → Int64) : va_W := [(a_this, .inr (11, [.ref a_cards, .ref a_county, .ref a_holes, .int v_kept, .int v_length, .ref a_text, .int v_items, .ref a_letter, .ref a_where, .ref a_rank, .ref a_value, .ref a_hour, .int v_readItems, .ref a_readLetter, .ref a_readWhere, .ref a_readRank, .ref a_readValue, .ref a_readHour, .int v_at, .int v_lists, .ref a_listName, .ref a_listDay, .int v_voters, .ref a_voterName, .ref a_voterDay, .ref a_voterCounty, .int v_needed, .ref a_heaps, .ref a_speed, .ref a_four, .ref a_byRules, .ref a_hours, .ref a_rest, .ref a_yet, .ref a_put])), (a_listDay, .inl (cI, 8, .inl v_listDay)), (a_listName, .inl (cJ, 8, .inr (.inl v_listName))), (a_voterDay, .inl (cI, 12, .inl v_voterDay)), (a_voterName, .inl (cJ, 12, .inr (.inl v_voterName)))]
theorem hd_X11_paired : yX11_paired.cls = RX11 ∧ yX11_paired.cls ≠ "java/lang/invoke/MethodHandle" ∧ yX11_paired.cls ≠ "java/lang/invoke/VarHandle" ∧ (parseMethodDescriptor yX11_paired.desc).map (fun d => d.parameters.length) = some 0 := by decide +kernel
abbrev rm_X11_paired : Room := { frames := 4, cells := 0, slots := 0, locals := 93 }
theorem in_X11_paired_X11 : ∀ w ∈ wsX110, w ∈ wsX11_paired := fun w h => List.mem_cons_of_mem _ (List.mem_append_right _ h)
set_option maxHeartbeats 4000000 in
set_option maxRecDepth 100000 in
theorem c_X11_paired (l : Launch) (D : va_G) (cB cI cJ : ClassId) (N : Nat) (a_this : Nat) (a_cards : Nat) (a_county : Nat) (a_holes : Nat) (a_text : Nat) (a_letter : Nat) (a_where : Nat) (a_rank : Nat) (a_value : Nat) (a_hour : Nat) (a_readLetter : Nat) (a_readWhere : Nat) (a_readRank : Nat) (a_readValue : Nat) (a_readHour : Nat) (a_listName : Nat) (a_listDay : Nat) (a_voterName : Nat) (a_voterDay : Nat) (a_voterCounty : Nat) (a_heaps : Nat) (a_speed : Nat) (a_four : Nat) (a_byRules : Nat) (a_hours : Nat) (a_rest : Nat) (a_yet : Nat) (a_put : Nat) (v_kept : Int32) (v_length : Int32) (v_items : Int32) (v_readItems : Int32) (v_at : Int32) (v_lists : Int32) (v_voters : Int32) (v_needed : Int32) (v_listDay : Nat → Int32) (v_listName : Nat → Int64) (v_voterDay : Nat → Int32) (v_voterName : Nat → Int64) {r : Int32} (hf : f_X11_paired N v_lists v_voters v_needed v_listDay v_listName v_voterDay v_voterName = some r) : MTi l yX11_paired wsX11_paired rm_X11_paired D (wk_T cB cI cJ) [.ref a_this] (w_X11_paired cB cI cJ a_this a_cards a_county a_holes a_text a_letter a_where a_rank a_value a_hour a_readLetter a_readWhere a_readRank a_readValue a_readHour a_listName a_listDay a_voterName a_voterDay a_voterCounty a_heaps a_speed a_four a_byRules a_hours a_rest a_yet a_put v_kept v_length v_items v_readItems v_at v_lists v_voters v_needed v_listDay v_listName v_voterDay v_voterName) (w_X11_paired cB cI cJ a_this a_cards a_county a_holes a_text a_letter a_where a_rank a_value a_hour a_readLetter a_readWhere a_readRank a_readValue a_readHour a_listName a_listDay a_voterName a_voterDay a_voterCounty a_heaps a_speed a_four a_byRules a_hours a_rest a_yet a_put v_kept v_length v_items v_readItems v_at v_lists v_voters v_needed v_listDay v_listName v_voterDay v_voterName) r := by
  refine MTi.of (cc := cX11_paired) (nL := 7) (rt := .int) (own := RX11) pn_X11 rfl rfl (Nat.le_of_ble_eq_true rfl) rfl ?_
  intro p e s m args below meth c A ls Q C hP hD hS hl hret
  obtain ⟨hx, hb, hml, hts, hown, hK, hN, hA, hlk⟩ := id C
  have hl : lv_has ls 7 [(0, .ref a_this)] := hl
  have L6 := wk_loopI (F := (fun k6 : Int32 → Int32 → Option Int32 => B_X11_paired_6 N v_lists v_voters v_needed v_listDay v_listName v_voterDay v_voterName k6)) (bot := fun _ _ => none) (fun k6 : Int32 → Int32 → Option Int32 => ∀ (x1 : Int32) (x2 : Int32), k6 x1 x2 = some r → ∀ (H : Heap) (locs : List Loc) (ls : Array Slot), va_P D vwCl (w_X11_paired cB cI cJ a_this a_cards a_county a_holes a_text a_letter a_where a_rank a_value a_hour a_readLetter a_readWhere a_readRank a_readValue a_readHour a_listName a_listDay a_voterName a_voterDay a_voterCounty a_heaps a_speed a_four a_byRules a_hours a_rest a_yet a_put v_kept v_length v_items v_readItems v_at v_lists v_voters v_needed v_listDay v_listName v_voterDay v_voterName) H → va_D A (w_X11_paired cB cI cJ a_this a_cards a_county a_holes a_text a_letter a_where a_rank a_value a_hour a_readLetter a_readWhere a_readRank a_readValue a_readHour a_listName a_listDay a_voterName a_voterDay a_voterCounty a_heaps a_speed a_four a_byRules a_hours a_rest a_yet a_put v_kept v_length v_items v_readItems v_at v_lists v_voters v_needed v_listDay v_listName v_voterDay v_voterName) → va_S A s.heap H locs → lv_has ls 7 [(0, .ref a_this), (1, .int x1), (2, .int x2)] → W p l e rm_X11_paired s m args below meth c H locs 0 0 Q (F0 m 6 ls [])) (by intro x1 x2 hf; exact wk_no hf) (by
    intro k6 ih6
    have L24 := wk_loopI (F := (fun k24 : Int32 → Int32 → Int32 → Int32 → Option Int32 => B_X11_paired_24 N v_lists v_voters v_needed v_listDay v_listName v_voterDay v_voterName k6 k24)) (bot := fun _ _ _ _ => none) (fun k24 : Int32 → Int32 → Int32 → Int32 → Option Int32 => ∀ (x1 : Int32) (x2 : Int32) (x3 : Int32) (x4 : Int32), k24 x1 x2 x3 x4 = some r → ∀ (H : Heap) (locs : List Loc) (ls : Array Slot), va_P D vwCl (w_X11_paired cB cI cJ a_this a_cards a_county a_holes a_text a_letter a_where a_rank a_value a_hour a_readLetter a_readWhere a_readRank a_readValue a_readHour a_listName a_listDay a_voterName a_voterDay a_voterCounty a_heaps a_speed a_four a_byRules a_hours a_rest a_yet a_put v_kept v_length v_items v_readItems v_at v_lists v_voters v_needed v_listDay v_listName v_voterDay v_voterName) H → va_D A (w_X11_paired cB cI cJ a_this a_cards a_county a_holes a_text a_letter a_where a_rank a_value a_hour a_readLetter a_readWhere a_readRank a_readValue a_readHour a_listName a_listDay a_voterName a_voterDay a_voterCounty a_heaps a_speed a_four a_byRules a_hours a_rest a_yet a_put v_kept v_length v_items v_readItems v_at v_lists v_voters v_needed v_listDay v_listName v_voterDay v_voterName) → va_S A s.heap H locs → lv_has ls 7 [(0, .ref a_this), (1, .int x1), (2, .int x2), (3, .int x3), (4, .int x4)] → W p l e rm_X11_paired s m args below meth c H locs 0 0 Q (F0 m 24 ls [])) (by intro x1 x2 x3 x4 hf; exact wk_no hf) (by
      intro k24 ih24
      have L39 := wk_loopI (F := (fun k39 : Int32 → Int32 → Int32 → Int32 → Int32 → Int32 → Option Int32 => B_X11_paired_39 N v_lists v_voters v_needed v_listDay v_listName v_voterDay v_voterName k6 k24 k39)) (bot := fun _ _ _ _ _ _ => none) (fun k39 : Int32 → Int32 → Int32 → Int32 → Int32 → Int32 → Option Int32 => ∀ (x1 : Int32) (x2 : Int32) (x3 : Int32) (x4 : Int32) (x5 : Int32) (x6 : Int32), k39 x1 x2 x3 x4 x5 x6 = some r → ∀ (H : Heap) (locs : List Loc) (ls : Array Slot), va_P D vwCl (w_X11_paired cB cI cJ a_this a_cards a_county a_holes a_text a_letter a_where a_rank a_value a_hour a_readLetter a_readWhere a_readRank a_readValue a_readHour a_listName a_listDay a_voterName a_voterDay a_voterCounty a_heaps a_speed a_four a_byRules a_hours a_rest a_yet a_put v_kept v_length v_items v_readItems v_at v_lists v_voters v_needed v_listDay v_listName v_voterDay v_voterName) H → va_D A (w_X11_paired cB cI cJ a_this a_cards a_county a_holes a_text a_letter a_where a_rank a_value a_hour a_readLetter a_readWhere a_readRank a_readValue a_readHour a_listName a_listDay a_voterName a_voterDay a_voterCounty a_heaps a_speed a_four a_byRules a_hours a_rest a_yet a_put v_kept v_length v_items v_readItems v_at v_lists v_voters v_needed v_listDay v_listName v_voterDay v_voterName) → va_S A s.heap H locs → lv_has ls 7 [(0, .ref a_this), (1, .int x1), (2, .int x2), (3, .int x3), (4, .int x4), (5, .int x5), (6, .int x6)] → W p l e rm_X11_paired s m args below meth c H locs 0 0 Q (F0 m 39 ls [])) (by intro x1 x2 x3 x4 x5 x6 hf; exact wk_no hf) (by
        intro k39 ih39
        intro x1 x2 x3 x4 x5 x6 hf H locs ls hP hD hS hl
        have hf : B_X11_paired_39 N v_lists v_voters v_needed v_listDay v_listName v_voterDay v_voterName k6 k24 k39 x1 x2 x3 x4 x5 x6 = some r := hf
        unfold B_X11_paired_39 at hf
        refine lv_iload hx hb dX11_paired_39 (lv_at hl 6 rfl) ?_
        refine lv_aload_n hx hb dX11_paired_41 rfl (lv_at hl 0 rfl) ?_
        refine va_get (D := D) (ci := 11) (v := .int v_lists) (C := RX11) (T := TX11) (N := 35) hx hb hts in_X11_paired_X11 hown hK hP 0 rfl rfl 19 (by decide) (hts (.fieldLink RX11 230 "HangingCardsModel" "lists" "I") (List.mem_of_getElem? (i := 1) rfl)) (fun _ h9 => h9) rfl dX11_paired_42 ?_
        refine lv_icmp_ge (tgt := 86) hx hb dX11_paired_45 (by decide) (fun c1 => ?_) (fun c1 => ?_)
        · have hf := wk_itT hf c1
          refine lv_iload_n hx hb dX11_paired_86 rfl (lv_at hl 3 rfl) ?_
          refine lv_iload hx hb dX11_paired_87 (lv_at hl 5 rfl) ?_
          refine lv_if_eq (tgt := 96) hx hb dX11_paired_89 (by decide) (fun c2 => ?_) (fun c2 => ?_)
          · have hf := wk_itT hf c2
            refine lv_iconst (v := (0 : Int32)) hx hb dX11_paired_96 (by decide) ?_
            refine lv_iadd hx hb dX11_paired_97 ?_
            refine lv_topi (fun y3 ey3 => ?_)
            have hf := wk_nmE hf ey3
            refine lv_istore_n (lv' := [(3, .int y3), (0, .ref a_this), (1, .int x1), (2, .int x2), (4, .int x4), (5, .int x5), (6, .int x6)]) hx hb dX11_paired_98 rfl hl (by decide) rfl (fun ls hl => ?_)
            obtain ⟨y4, ey4⟩ : ∃ y : Int32, y = x4 + (1 : Int32) := ⟨_, rfl⟩
            have hf := wk_nmE hf ey4
            refine lv_iinc (v := y4) (lv' := [(4, .int y4), (3, .int y3), (0, .ref a_this), (1, .int x1), (2, .int x2), (5, .int x5), (6, .int x6)]) hx hb dX11_paired_99 hl (k := 4) rfl (by rw [ey4]; rfl) (by decide) rfl (fun ls hl => ?_)
            refine lv_goto (tgt := 24) hx hb dX11_paired_102 (by decide) ?_
            exact ih24 _ _ _ _ hf _ _ _ hP hD hS (lv_sub hl [2, 3, 4, 1, 0] rfl)
          · have hf := wk_itF hf c2
            refine lv_iconst (v := (1 : Int32)) hx hb dX11_paired_92 (by decide) ?_
            refine lv_goto (tgt := 97) hx hb dX11_paired_93 (by decide) ?_
            refine lv_iadd hx hb dX11_paired_97 ?_
            refine lv_topi (fun y5 ey5 => ?_)
            have hf := wk_nmE hf ey5
            refine lv_istore_n (lv' := [(3, .int y5), (0, .ref a_this), (1, .int x1), (2, .int x2), (4, .int x4), (5, .int x5), (6, .int x6)]) hx hb dX11_paired_98 rfl hl (by decide) rfl (fun ls hl => ?_)
            obtain ⟨y6, ey6⟩ : ∃ y : Int32, y = x4 + (1 : Int32) := ⟨_, rfl⟩
            have hf := wk_nmE hf ey6
            refine lv_iinc (v := y6) (lv' := [(4, .int y6), (3, .int y5), (0, .ref a_this), (1, .int x1), (2, .int x2), (5, .int x5), (6, .int x6)]) hx hb dX11_paired_99 hl (k := 4) rfl (by rw [ey6]; rfl) (by decide) rfl (fun ls hl => ?_)
            refine lv_goto (tgt := 24) hx hb dX11_paired_102 (by decide) ?_
            exact ih24 _ _ _ _ hf _ _ _ hP hD hS (lv_sub hl [2, 3, 4, 1, 0] rfl)
        · have hf := wk_itF hf c1
          refine lv_iload hx hb dX11_paired_48 (lv_at hl 5 rfl) ?_
          refine lv_if_ne (tgt := 73) hx hb dX11_paired_50 (by decide) (fun c7 => ?_) (fun c7 => ?_)
          · have hf := wk_itF hf c7
            refine lv_iconst (v := (1 : Int32)) hx hb dX11_paired_73 (by decide) ?_
            refine lv_goto (tgt := 78) hx hb dX11_paired_74 (by decide) ?_
            refine lv_istore (lv' := [(5, .int (1 : Int32)), (0, .ref a_this), (1, .int x1), (2, .int x2), (3, .int x3), (4, .int x4), (6, .int x6)]) hx hb dX11_paired_78 hl (by decide) rfl (fun ls hl => ?_)
            obtain ⟨y8, ey8⟩ : ∃ y : Int32, y = x6 + (1 : Int32) := ⟨_, rfl⟩
            have hf := wk_nmE hf ey8
            refine lv_iinc (v := y8) (lv' := [(6, .int y8), (5, .int (1 : Int32)), (0, .ref a_this), (1, .int x1), (2, .int x2), (3, .int x3), (4, .int x4)]) hx hb dX11_paired_80 hl (k := 6) rfl (by rw [ey8]; rfl) (by decide) rfl (fun ls hl => ?_)
            refine lv_goto (tgt := 39) hx hb dX11_paired_83 (by decide) ?_
            exact ih39 _ _ _ _ _ _ hf _ _ _ hP hD hS (lv_sub hl [2, 3, 4, 5, 6, 1, 0] rfl)
          · have hf := wk_itT hf c7
            refine lv_iload_n hx hb dX11_paired_53 rfl (lv_at hl 2 rfl) ?_
            refine lv_iload hx hb dX11_paired_54 (lv_at hl 6 rfl) ?_
            obtain ⟨r9, hc9, hf⟩ := wk_b1E hf
            refine wk_callSi2 C hP hD hS (c_X11_has l D cB cI cJ N x2 x6 hc9) (va_cwS 2 hts gX11_paired_X11_has rfl rfl rfl hd_X11_has.2 ⟨Nat.le_of_ble_eq_true rfl, Nat.le_of_ble_eq_true rfl⟩) hl.1 ⟨Nat.zero_le _, Nat.zero_le _⟩ [] [0, 1, 2, 3, 4] 5 (by decide +kernel) rfl (Wn := w_X11_paired cB cI cJ a_this a_cards a_county a_holes a_text a_letter a_where a_rank a_value a_hour a_readLetter a_readWhere a_readRank a_readValue a_readHour a_listName a_listDay a_voterName a_voterDay a_voterCounty a_heaps a_speed a_four a_byRules a_hours a_rest a_yet a_put v_kept v_length v_items v_readItems v_at v_lists v_voters v_needed v_listDay v_listName v_voterDay v_voterName) rfl rfl rfl rfl rfl rfl rfl rfl (Nat.le_of_ble_eq_true rfl) dX11_paired_56 (fun H locs hP hD hS => ?_)
            refine lv_if_ne (tgt := 77) hx hb dX11_paired_59 (by decide) (fun c10 => ?_) (fun c10 => ?_)
            · have hf := wk_itF hf c10
              refine lv_iconst (v := (0 : Int32)) hx hb dX11_paired_77 (by decide) ?_
              refine lv_istore (lv' := [(5, .int (0 : Int32)), (0, .ref a_this), (1, .int x1), (2, .int x2), (3, .int x3), (4, .int x4), (6, .int x6)]) hx hb dX11_paired_78 hl (by decide) rfl (fun ls hl => ?_)
              obtain ⟨y11, ey11⟩ : ∃ y : Int32, y = x6 + (1 : Int32) := ⟨_, rfl⟩
              have hf := wk_nmE hf ey11
              refine lv_iinc (v := y11) (lv' := [(6, .int y11), (5, .int (0 : Int32)), (0, .ref a_this), (1, .int x1), (2, .int x2), (3, .int x3), (4, .int x4)]) hx hb dX11_paired_80 hl (k := 6) rfl (by rw [ey11]; rfl) (by decide) rfl (fun ls hl => ?_)
              refine lv_goto (tgt := 39) hx hb dX11_paired_83 (by decide) ?_
              exact ih39 _ _ _ _ _ _ hf _ _ _ hP hD hS (lv_sub hl [2, 3, 4, 5, 6, 1, 0] rfl)
            · have hf := wk_itT hf c10
              refine lv_aload_n hx hb dX11_paired_62 rfl (lv_at hl 0 rfl) ?_
              refine lv_iload hx hb dX11_paired_63 (lv_at hl 4 rfl) ?_
              refine lv_iload hx hb dX11_paired_65 (lv_at hl 6 rfl) ?_
              obtain ⟨r12, hc12, hf⟩ := wk_b1E hf
              refine wk_callVi2 C hP hD hS (c_X11_strikes1 l D cB cI cJ N a_this a_cards a_county a_holes a_text a_letter a_where a_rank a_value a_hour a_readLetter a_readWhere a_readRank a_readValue a_readHour a_listName a_listDay a_voterName a_voterDay a_voterCounty a_heaps a_speed a_four a_byRules a_hours a_rest a_yet a_put v_kept v_length v_items v_readItems v_at v_lists v_voters v_needed v_listDay v_listName v_voterDay v_voterName x4 x6 hc12) (cwV 2 hts gX11_paired_X11_strikes1 rfl rfl rfl hd_X11_strikes1 ⟨Nat.le_of_ble_eq_true rfl, Nat.le_of_ble_eq_true rfl⟩) hl.1 ⟨Nat.zero_le _, Nat.zero_le _⟩ [0, 1, 2, 3, 4] [] 5 (by decide +kernel) rfl (Wn := w_X11_paired cB cI cJ a_this a_cards a_county a_holes a_text a_letter a_where a_rank a_value a_hour a_readLetter a_readWhere a_readRank a_readValue a_readHour a_listName a_listDay a_voterName a_voterDay a_voterCounty a_heaps a_speed a_four a_byRules a_hours a_rest a_yet a_put v_kept v_length v_items v_readItems v_at v_lists v_voters v_needed v_listDay v_listName v_voterDay v_voterName) rfl rfl rfl rfl rfl rfl (ci := 11) rfl rfl (q0 := 0) rfl rfl rfl (Nat.le_of_ble_eq_true rfl) dX11_paired_67 (fun H locs hP hD hS => ?_)
              refine lv_if_eq (tgt := 77) hx hb dX11_paired_70 (by decide) (fun c13 => ?_) (fun c13 => ?_)
              · have hf := wk_itT hf c13
                refine lv_iconst (v := (0 : Int32)) hx hb dX11_paired_77 (by decide) ?_
                refine lv_istore (lv' := [(5, .int (0 : Int32)), (0, .ref a_this), (1, .int x1), (2, .int x2), (3, .int x3), (4, .int x4), (6, .int x6)]) hx hb dX11_paired_78 hl (by decide) rfl (fun ls hl => ?_)
                obtain ⟨y14, ey14⟩ : ∃ y : Int32, y = x6 + (1 : Int32) := ⟨_, rfl⟩
                have hf := wk_nmE hf ey14
                refine lv_iinc (v := y14) (lv' := [(6, .int y14), (5, .int (0 : Int32)), (0, .ref a_this), (1, .int x1), (2, .int x2), (3, .int x3), (4, .int x4)]) hx hb dX11_paired_80 hl (k := 6) rfl (by rw [ey14]; rfl) (by decide) rfl (fun ls hl => ?_)
                refine lv_goto (tgt := 39) hx hb dX11_paired_83 (by decide) ?_
                exact ih39 _ _ _ _ _ _ hf _ _ _ hP hD hS (lv_sub hl [2, 3, 4, 5, 6, 1, 0] rfl)
              · have hf := wk_itF hf c13
                refine lv_iconst (v := (1 : Int32)) hx hb dX11_paired_73 (by decide) ?_
                refine lv_goto (tgt := 78) hx hb dX11_paired_74 (by decide) ?_
                refine lv_istore (lv' := [(5, .int (1 : Int32)), (0, .ref a_this), (1, .int x1), (2, .int x2), (3, .int x3), (4, .int x4), (6, .int x6)]) hx hb dX11_paired_78 hl (by decide) rfl (fun ls hl => ?_)
                obtain ⟨y15, ey15⟩ : ∃ y : Int32, y = x6 + (1 : Int32) := ⟨_, rfl⟩
                have hf := wk_nmE hf ey15
                refine lv_iinc (v := y15) (lv' := [(6, .int y15), (5, .int (1 : Int32)), (0, .ref a_this), (1, .int x1), (2, .int x2), (3, .int x3), (4, .int x4)]) hx hb dX11_paired_80 hl (k := 6) rfl (by rw [ey15]; rfl) (by decide) rfl (fun ls hl => ?_)
                refine lv_goto (tgt := 39) hx hb dX11_paired_83 (by decide) ?_
                exact ih39 _ _ _ _ _ _ hf _ _ _ hP hD hS (lv_sub hl [2, 3, 4, 5, 6, 1, 0] rfl))
      intro x1 x2 x3 x4 hf H locs ls hP hD hS hl
      have hf : B_X11_paired_24 N v_lists v_voters v_needed v_listDay v_listName v_voterDay v_voterName k6 k24 x1 x2 x3 x4 = some r := hf
      unfold B_X11_paired_24 at hf
      refine lv_iload hx hb dX11_paired_24 (lv_at hl 4 rfl) ?_
      refine lv_aload_n hx hb dX11_paired_26 rfl (lv_at hl 0 rfl) ?_
      refine va_get (D := D) (ci := 11) (v := .int v_voters) (C := RX11) (T := TX11) (N := 35) hx hb hts in_X11_paired_X11 hown hK hP 0 rfl rfl 22 (by decide) (hts (.fieldLink RX11 233 "HangingCardsModel" "voters" "I") (List.mem_of_getElem? (i := 2) rfl)) (fun _ h9 => h9) rfl dX11_paired_27 ?_
      refine lv_icmp_ge (tgt := 105) hx hb dX11_paired_30 (by decide) (fun c16 => ?_) (fun c16 => ?_)
      · have hf := wk_itT hf c16
        refine lv_iload_n hx hb dX11_paired_105 rfl (lv_at hl 3 rfl) ?_
        refine lv_iload_n hx hb dX11_paired_106 rfl (lv_at hl 1 rfl) ?_
        refine lv_icmp_ge (tgt := 114) hx hb dX11_paired_107 (by decide) (fun c17 => ?_) (fun c17 => ?_)
        · have hf := wk_itT hf c17
          refine lv_iload_n hx hb dX11_paired_114 rfl (lv_at hl 1 rfl) ?_
          refine lv_istore_n (lv' := [(1, .int x1), (0, .ref a_this), (2, .int x2), (3, .int x3), (4, .int x4)]) hx hb dX11_paired_115 rfl hl (by decide) rfl (fun ls hl => ?_)
          obtain ⟨y18, ey18⟩ : ∃ y : Int32, y = x2 + (1 : Int32) := ⟨_, rfl⟩
          have hf := wk_nmE hf ey18
          refine lv_iinc (v := y18) (lv' := [(2, .int y18), (1, .int x1), (0, .ref a_this), (3, .int x3), (4, .int x4)]) hx hb dX11_paired_116 hl (k := 2) rfl (by rw [ey18]; rfl) (by decide) rfl (fun ls hl => ?_)
          refine lv_goto (tgt := 6) hx hb dX11_paired_119 (by decide) ?_
          exact ih6 _ _ hf _ _ _ hP hD hS (lv_sub hl [2, 1, 0] rfl)
        · have hf := wk_itF hf c17
          refine lv_iload_n hx hb dX11_paired_110 rfl (lv_at hl 3 rfl) ?_
          refine lv_goto (tgt := 115) hx hb dX11_paired_111 (by decide) ?_
          refine lv_istore_n (lv' := [(1, .int x3), (0, .ref a_this), (2, .int x2), (3, .int x3), (4, .int x4)]) hx hb dX11_paired_115 rfl hl (by decide) rfl (fun ls hl => ?_)
          obtain ⟨y19, ey19⟩ : ∃ y : Int32, y = x2 + (1 : Int32) := ⟨_, rfl⟩
          have hf := wk_nmE hf ey19
          refine lv_iinc (v := y19) (lv' := [(2, .int y19), (1, .int x3), (0, .ref a_this), (3, .int x3), (4, .int x4)]) hx hb dX11_paired_116 hl (k := 2) rfl (by rw [ey19]; rfl) (by decide) rfl (fun ls hl => ?_)
          refine lv_goto (tgt := 6) hx hb dX11_paired_119 (by decide) ?_
          exact ih6 _ _ hf _ _ _ hP hD hS (lv_sub hl [2, 1, 0] rfl)
      · have hf := wk_itF hf c16
        refine lv_iconst (v := (0 : Int32)) hx hb dX11_paired_33 (by decide) ?_
        refine lv_istore (lv' := [(5, .int (0 : Int32)), (0, .ref a_this), (1, .int x1), (2, .int x2), (3, .int x3), (4, .int x4)]) hx hb dX11_paired_34 hl (by decide) rfl (fun ls hl => ?_)
        refine lv_iconst (v := (0 : Int32)) hx hb dX11_paired_36 (by decide) ?_
        refine lv_istore (lv' := [(6, .int (0 : Int32)), (5, .int (0 : Int32)), (0, .ref a_this), (1, .int x1), (2, .int x2), (3, .int x3), (4, .int x4)]) hx hb dX11_paired_37 hl (by decide) rfl (fun ls hl => ?_)
        exact L39 N _ _ _ _ _ _ hf _ _ _ hP hD hS (lv_sub hl [2, 3, 4, 5, 6, 1, 0] rfl))
    intro x1 x2 hf H locs ls hP hD hS hl
    have hf : B_X11_paired_6 N v_lists v_voters v_needed v_listDay v_listName v_voterDay v_voterName k6 x1 x2 = some r := hf
    unfold B_X11_paired_6 at hf
    refine lv_iload_n hx hb dX11_paired_6 rfl (lv_at hl 2 rfl) ?_
    refine lv_iconst (v := (1 : Int32)) hx hb dX11_paired_7 (by decide) ?_
    refine lv_aload_n hx hb dX11_paired_8 rfl (lv_at hl 0 rfl) ?_
    refine va_get (D := D) (ci := 11) (v := .int v_lists) (C := RX11) (T := TX11) (N := 35) hx hb hts in_X11_paired_X11 hown hK hP 0 rfl rfl 19 (by decide) (hts (.fieldLink RX11 230 "HangingCardsModel" "lists" "I") (List.mem_of_getElem? (i := 1) rfl)) (fun _ h9 => h9) rfl dX11_paired_9 ?_
    refine lv_ishl hx hb dX11_paired_12 ?_
    refine lv_icmp_ge (tgt := 122) hx hb dX11_paired_13 (by decide) (fun c20 => ?_) (fun c20 => ?_)
    · have hf := wk_itT hf c20
      refine lv_iload_n hx hb dX11_paired_122 rfl (lv_at hl 1 rfl) ?_
      exact hret _ _ _ _ _ _ dX11_paired_123 (wk_rt hf (fun z => z)) rfl hP hD hS
    · have hf := wk_itF hf c20
      refine lv_iload_n hx hb dX11_paired_16 rfl (lv_at hl 2 rfl) ?_
      obtain ⟨r21, hc21, hf⟩ := wk_b1E hf
      refine wk_callSi2 C hP hD hS (c_X11_size l D cB cI cJ N x2 hc21) (va_cwS 1 hts gX11_paired_X11_size rfl rfl rfl hd_X11_size.2 ⟨Nat.le_of_ble_eq_true rfl, Nat.le_of_ble_eq_true rfl⟩) hl.1 ⟨Nat.zero_le _, Nat.zero_le _⟩ [] [0, 1, 2, 3, 4] 5 (by decide +kernel) rfl (Wn := w_X11_paired cB cI cJ a_this a_cards a_county a_holes a_text a_letter a_where a_rank a_value a_hour a_readLetter a_readWhere a_readRank a_readValue a_readHour a_listName a_listDay a_voterName a_voterDay a_voterCounty a_heaps a_speed a_four a_byRules a_hours a_rest a_yet a_put v_kept v_length v_items v_readItems v_at v_lists v_voters v_needed v_listDay v_listName v_voterDay v_voterName) rfl rfl rfl rfl rfl rfl rfl rfl (Nat.le_of_ble_eq_true rfl) dX11_paired_17 (fun H locs hP hD hS => ?_)
      refine lv_istore_n (lv' := [(3, .int r21), (0, .ref a_this), (1, .int x1), (2, .int x2)]) hx hb dX11_paired_20 rfl hl (by decide) rfl (fun ls hl => ?_)
      refine lv_iconst (v := (0 : Int32)) hx hb dX11_paired_21 (by decide) ?_
      refine lv_istore (lv' := [(4, .int (0 : Int32)), (3, .int r21), (0, .ref a_this), (1, .int x1), (2, .int x2)]) hx hb dX11_paired_22 hl (by decide) rfl (fun ls hl => ?_)
      exact L24 N _ _ _ _ hf _ _ _ hP hD hS (lv_sub hl [2, 3, 4, 1, 0] rfl))
  unfold f_X11_paired at hf
  refine lv_sipush (v := (1000 : Int32)) hx hb dX11_paired_0 (by decide) ?_
  refine lv_istore_n (lv' := [(1, .int (1000 : Int32)), (0, .ref a_this)]) hx hb dX11_paired_3 rfl hl (by decide) rfl (fun ls hl => ?_)
  refine lv_iconst (v := (0 : Int32)) hx hb dX11_paired_4 (by decide) ?_
  refine lv_istore_n (lv' := [(2, .int (0 : Int32)), (1, .int (1000 : Int32)), (0, .ref a_this)]) hx hb dX11_paired_5 rfl hl (by decide) rfl (fun ls hl => ?_)
  exact L6 N _ _ hf _ _ _ hP hD hS (lv_sub hl [2, 1, 0] rfl)
abbrev w_X11_strikes (cB cI cJ : ClassId) (a_this : Nat) (a_cards : Nat) (a_county : Nat) (a_holes : Nat) (a_text : Nat) (a_letter : Nat) (a_where : Nat) (a_rank : Nat) (a_value : Nat) (a_hour : Nat) (a_readLetter : Nat) (a_readWhere : Nat) (a_readRank : Nat) (a_readValue : Nat) (a_readHour : Nat) (a_listName : Nat) (a_listDay : Nat) (a_voterName : Nat) (a_voterDay : Nat) (a_voterCounty : Nat) (a_heaps : Nat) (a_speed : Nat) (a_four : Nat) (a_byRules : Nat) (a_hours : Nat) (a_rest : Nat) (a_yet : Nat) (a_put : Nat) (v_kept : Int32) (v_length : Int32) (v_items : Int32) (v_readItems : Int32) (v_at : Int32) (v_lists : Int32) (v_voters : Int32) (v_needed : Int32) (v_listDay : Nat → Int32) (v_listName : Nat → Int64) (v_voterCounty : Nat → Int32) (v_voterDay : Nat → Int32) (v_voterName : Nat → Int64) : va_W := [(a_this, .inr (11, [.ref a_cards, .ref a_county, .ref a_holes, .int v_kept, .int v_length, .ref a_text, .int v_items, .ref a_letter, .ref a_where, .ref a_rank, .ref a_value, .ref a_hour, .int v_readItems, .ref a_readLetter, .ref a_readWhere, .ref a_readRank, .ref a_readValue, .ref a_readHour, .int v_at, .int v_lists, .ref a_listName, .ref a_listDay, .int v_voters, .ref a_voterName, .ref a_voterDay, .ref a_voterCounty, .int v_needed, .ref a_heaps, .ref a_speed, .ref a_four, .ref a_byRules, .ref a_hours, .ref a_rest, .ref a_yet, .ref a_put])), (a_listDay, .inl (cI, 8, .inl v_listDay)), (a_listName, .inl (cJ, 8, .inr (.inl v_listName))), (a_voterCounty, .inl (cI, 12, .inl v_voterCounty)), (a_voterDay, .inl (cI, 12, .inl v_voterDay)), (a_voterName, .inl (cJ, 12, .inr (.inl v_voterName)))]
theorem hd_X11_strikes : yX11_strikes.cls = RX11 ∧ yX11_strikes.cls ≠ "java/lang/invoke/MethodHandle" ∧ yX11_strikes.cls ≠ "java/lang/invoke/VarHandle" ∧ (parseMethodDescriptor yX11_strikes.desc).map (fun d => d.parameters.length) = some 2 := by decide +kernel
abbrev rm_X11_strikes : Room := { frames := 6, cells := 0, slots := 0, locals := 139 }
theorem in_X11_strikes_X11 : ∀ w ∈ wsX110, w ∈ wsX11_strikes := fun w h => List.mem_cons_of_mem _ (List.mem_append_right _ h)
set_option maxHeartbeats 4000000 in
set_option maxRecDepth 100000 in
theorem c_X11_strikes (l : Launch) (D : va_G) (cB cI cJ : ClassId) (N : Nat) (a_this : Nat) (a_cards : Nat) (a_county : Nat) (a_holes : Nat) (a_text : Nat) (a_letter : Nat) (a_where : Nat) (a_rank : Nat) (a_value : Nat) (a_hour : Nat) (a_readLetter : Nat) (a_readWhere : Nat) (a_readRank : Nat) (a_readValue : Nat) (a_readHour : Nat) (a_listName : Nat) (a_listDay : Nat) (a_voterName : Nat) (a_voterDay : Nat) (a_voterCounty : Nat) (a_heaps : Nat) (a_speed : Nat) (a_four : Nat) (a_byRules : Nat) (a_hours : Nat) (a_rest : Nat) (a_yet : Nat) (a_put : Nat) (v_kept : Int32) (v_length : Int32) (v_items : Int32) (v_readItems : Int32) (v_at : Int32) (v_lists : Int32) (v_voters : Int32) (v_needed : Int32) (v_listDay : Nat → Int32) (v_listName : Nat → Int64) (v_voterCounty : Nat → Int32) (v_voterDay : Nat → Int32) (v_voterName : Nat → Int64) (x1 : Int32) (x2 : Int32) {r : Int32} (hf : f_X11_strikes N v_lists v_voters v_needed v_listDay v_listName v_voterCounty v_voterDay v_voterName x1 x2 = some r) : MTi l yX11_strikes wsX11_strikes rm_X11_strikes D (wk_T cB cI cJ) [.ref a_this, .int x1, .int x2] (w_X11_strikes cB cI cJ a_this a_cards a_county a_holes a_text a_letter a_where a_rank a_value a_hour a_readLetter a_readWhere a_readRank a_readValue a_readHour a_listName a_listDay a_voterName a_voterDay a_voterCounty a_heaps a_speed a_four a_byRules a_hours a_rest a_yet a_put v_kept v_length v_items v_readItems v_at v_lists v_voters v_needed v_listDay v_listName v_voterCounty v_voterDay v_voterName) (w_X11_strikes cB cI cJ a_this a_cards a_county a_holes a_text a_letter a_where a_rank a_value a_hour a_readLetter a_readWhere a_readRank a_readValue a_readHour a_listName a_listDay a_voterName a_voterDay a_voterCounty a_heaps a_speed a_four a_byRules a_hours a_rest a_yet a_put v_kept v_length v_items v_readItems v_at v_lists v_voters v_needed v_listDay v_listName v_voterCounty v_voterDay v_voterName) r := by
  refine MTi.of (cc := cX11_strikes) (nL := 6) (rt := .int) (own := RX11) pn_X11 rfl rfl (Nat.le_of_ble_eq_true rfl) rfl ?_
  intro p e s m args below meth c A ls Q C hP hD hS hl hret
  obtain ⟨hx, hb, hml, hts, hown, hK, hN, hA, hlk⟩ := id C
  have hl : lv_has ls 6 [(0, .ref a_this), (1, .int x1), (2, .int x2)] := hl
  have L46 := wk_loopI (F := (fun k46 : Int32 → Int32 → Int32 → Int32 → Option Int32 => B_X11_strikes_46 N v_lists v_voters v_needed v_listDay v_listName v_voterCounty v_voterDay v_voterName k46)) (bot := fun _ _ _ _ => none) (fun k46 : Int32 → Int32 → Int32 → Int32 → Option Int32 => ∀ (x1 : Int32) (x2 : Int32) (x3 : Int32) (x4 : Int32), k46 x1 x2 x3 x4 = some r → ∀ (H : Heap) (locs : List Loc) (ls : Array Slot), va_P D vwCl (w_X11_strikes cB cI cJ a_this a_cards a_county a_holes a_text a_letter a_where a_rank a_value a_hour a_readLetter a_readWhere a_readRank a_readValue a_readHour a_listName a_listDay a_voterName a_voterDay a_voterCounty a_heaps a_speed a_four a_byRules a_hours a_rest a_yet a_put v_kept v_length v_items v_readItems v_at v_lists v_voters v_needed v_listDay v_listName v_voterCounty v_voterDay v_voterName) H → va_D A (w_X11_strikes cB cI cJ a_this a_cards a_county a_holes a_text a_letter a_where a_rank a_value a_hour a_readLetter a_readWhere a_readRank a_readValue a_readHour a_listName a_listDay a_voterName a_voterDay a_voterCounty a_heaps a_speed a_four a_byRules a_hours a_rest a_yet a_put v_kept v_length v_items v_readItems v_at v_lists v_voters v_needed v_listDay v_listName v_voterCounty v_voterDay v_voterName) → va_S A s.heap H locs → lv_has ls 6 [(0, .ref a_this), (1, .int x1), (2, .int x2), (3, .int x3), (4, .int x4)] → W p l e rm_X11_strikes s m args below meth c H locs 0 0 Q (F0 m 46 ls [])) (by intro x1 x2 x3 x4 hf; exact wk_no hf) (by
    intro k46 ih46
    have J76 : ∀ (x1 : Int32) (x2 : Int32) (x3 : Int32) (x4 : Int32) (s0 : Int32), B_X11_strikes_76 N v_lists v_voters v_needed v_listDay v_listName v_voterCounty v_voterDay v_voterName k46 x1 x2 x3 x4 s0 = some r → ∀ (H : Heap) (locs : List Loc) (ls : Array Slot), va_P D vwCl (w_X11_strikes cB cI cJ a_this a_cards a_county a_holes a_text a_letter a_where a_rank a_value a_hour a_readLetter a_readWhere a_readRank a_readValue a_readHour a_listName a_listDay a_voterName a_voterDay a_voterCounty a_heaps a_speed a_four a_byRules a_hours a_rest a_yet a_put v_kept v_length v_items v_readItems v_at v_lists v_voters v_needed v_listDay v_listName v_voterCounty v_voterDay v_voterName) H → va_D A (w_X11_strikes cB cI cJ a_this a_cards a_county a_holes a_text a_letter a_where a_rank a_value a_hour a_readLetter a_readWhere a_readRank a_readValue a_readHour a_listName a_listDay a_voterName a_voterDay a_voterCounty a_heaps a_speed a_four a_byRules a_hours a_rest a_yet a_put v_kept v_length v_items v_readItems v_at v_lists v_voters v_needed v_listDay v_listName v_voterCounty v_voterDay v_voterName) → va_S A s.heap H locs → lv_has ls 6 [(0, .ref a_this), (1, .int x1), (2, .int x2), (3, .int x3), (4, .int x4)] → W p l e rm_X11_strikes s m args below meth c H locs 0 0 Q (F0 m 76 ls [.int s0]) := by
      intro x1 x2 x3 x4 s0 hf H locs ls hP hD hS hl
      unfold B_X11_strikes_76 at hf
      refine lv_istore (lv' := [(5, .int s0), (0, .ref a_this), (1, .int x1), (2, .int x2), (3, .int x3), (4, .int x4)]) hx hb dX11_strikes_76 hl (by decide) rfl (fun ls hl => ?_)
      refine lv_iload_n hx hb dX11_strikes_78 rfl (lv_at hl 4 rfl) ?_
      refine lv_iload hx hb dX11_strikes_79 (lv_at hl 0 rfl) ?_
      refine lv_if_eq (tgt := 113) hx hb dX11_strikes_81 (by decide) (fun c1 => ?_) (fun c1 => ?_)
      · have hf := wk_itT hf c1
        refine lv_iconst (v := (0 : Int32)) hx hb dX11_strikes_113 (by decide) ?_
        refine lv_iadd hx hb dX11_strikes_114 ?_
        refine lv_topi (fun y2 ey2 => ?_)
        have hf := wk_nmE hf ey2
        refine lv_istore_n (lv' := [(3, .int y2), (5, .int s0), (0, .ref a_this), (1, .int x1), (2, .int x2), (4, .int x4)]) hx hb dX11_strikes_115 rfl hl (by decide) rfl (fun ls hl => ?_)
        obtain ⟨y3, ey3⟩ : ∃ y : Int32, y = x4 + (1 : Int32) := ⟨_, rfl⟩
        have hf := wk_nmE hf ey3
        refine lv_iinc (v := y3) (lv' := [(4, .int y3), (3, .int y2), (5, .int s0), (0, .ref a_this), (1, .int x1), (2, .int x2)]) hx hb dX11_strikes_116 hl (k := 5) rfl (by rw [ey3]; rfl) (by decide) rfl (fun ls hl => ?_)
        refine lv_goto (tgt := 46) hx hb dX11_strikes_119 (by decide) ?_
        exact ih46 _ _ _ _ hf _ _ _ hP hD hS (lv_sub hl [3, 4, 5, 1, 0] rfl)
      · have hf := wk_itF hf c1
        refine lv_iload_n hx hb dX11_strikes_84 rfl (lv_at hl 3 rfl) ?_
        refine lv_if_ne (tgt := 100) hx hb dX11_strikes_85 (by decide) (fun c4 => ?_) (fun c4 => ?_)
        · have hf := wk_itF hf c4
          refine lv_aload_n hx hb dX11_strikes_100 rfl (lv_at hl 1 rfl) ?_
          refine lv_iload hx hb dX11_strikes_101 (lv_at hl 5 rfl) ?_
          obtain ⟨r5, hc5, hf⟩ := wk_b1E hf
          refine wk_callVi2 C hP hD hS (c_X11_rightly l D cB cI cJ N a_this a_cards a_county a_holes a_text a_letter a_where a_rank a_value a_hour a_readLetter a_readWhere a_readRank a_readValue a_readHour a_listName a_listDay a_voterName a_voterDay a_voterCounty a_heaps a_speed a_four a_byRules a_hours a_rest a_yet a_put v_kept v_length v_items v_readItems v_at v_lists v_voters v_needed v_listDay v_listName v_voterDay v_voterName x4 hc5) (cwV 1 hts gX11_strikes_X11_rightly rfl rfl rfl hd_X11_rightly ⟨Nat.le_of_ble_eq_true rfl, Nat.le_of_ble_eq_true rfl⟩) hl.1 ⟨Nat.zero_le _, Nat.zero_le _⟩ [0, 1, 2, 4, 5] [3] 6 (by decide +kernel) rfl (Wn := w_X11_strikes cB cI cJ a_this a_cards a_county a_holes a_text a_letter a_where a_rank a_value a_hour a_readLetter a_readWhere a_readRank a_readValue a_readHour a_listName a_listDay a_voterName a_voterDay a_voterCounty a_heaps a_speed a_four a_byRules a_hours a_rest a_yet a_put v_kept v_length v_items v_readItems v_at v_lists v_voters v_needed v_listDay v_listName v_voterCounty v_voterDay v_voterName) rfl rfl rfl rfl rfl rfl (ci := 11) rfl rfl (q0 := 0) rfl rfl rfl (Nat.le_of_ble_eq_true rfl) dX11_strikes_103 (fun H locs hP hD hS => ?_)
          refine lv_if_ne (tgt := 113) hx hb dX11_strikes_106 (by decide) (fun c6 => ?_) (fun c6 => ?_)
          · have hf := wk_itF hf c6
            refine lv_iconst (v := (0 : Int32)) hx hb dX11_strikes_113 (by decide) ?_
            refine lv_iadd hx hb dX11_strikes_114 ?_
            refine lv_topi (fun y7 ey7 => ?_)
            have hf := wk_nmE hf ey7
            refine lv_istore_n (lv' := [(3, .int y7), (5, .int s0), (0, .ref a_this), (1, .int x1), (2, .int x2), (4, .int x4)]) hx hb dX11_strikes_115 rfl hl (by decide) rfl (fun ls hl => ?_)
            obtain ⟨y8, ey8⟩ : ∃ y : Int32, y = x4 + (1 : Int32) := ⟨_, rfl⟩
            have hf := wk_nmE hf ey8
            refine lv_iinc (v := y8) (lv' := [(4, .int y8), (3, .int y7), (5, .int s0), (0, .ref a_this), (1, .int x1), (2, .int x2)]) hx hb dX11_strikes_116 hl (k := 5) rfl (by rw [ey8]; rfl) (by decide) rfl (fun ls hl => ?_)
            refine lv_goto (tgt := 46) hx hb dX11_strikes_119 (by decide) ?_
            exact ih46 _ _ _ _ hf _ _ _ hP hD hS (lv_sub hl [3, 4, 5, 1, 0] rfl)
          · have hf := wk_itT hf c6
            refine lv_iconst (v := (1 : Int32)) hx hb dX11_strikes_109 (by decide) ?_
            refine lv_goto (tgt := 114) hx hb dX11_strikes_110 (by decide) ?_
            refine lv_iadd hx hb dX11_strikes_114 ?_
            refine lv_topi (fun y9 ey9 => ?_)
            have hf := wk_nmE hf ey9
            refine lv_istore_n (lv' := [(3, .int y9), (5, .int s0), (0, .ref a_this), (1, .int x1), (2, .int x2), (4, .int x4)]) hx hb dX11_strikes_115 rfl hl (by decide) rfl (fun ls hl => ?_)
            obtain ⟨y10, ey10⟩ : ∃ y : Int32, y = x4 + (1 : Int32) := ⟨_, rfl⟩
            have hf := wk_nmE hf ey10
            refine lv_iinc (v := y10) (lv' := [(4, .int y10), (3, .int y9), (5, .int s0), (0, .ref a_this), (1, .int x1), (2, .int x2)]) hx hb dX11_strikes_116 hl (k := 5) rfl (by rw [ey10]; rfl) (by decide) rfl (fun ls hl => ?_)
            refine lv_goto (tgt := 46) hx hb dX11_strikes_119 (by decide) ?_
            exact ih46 _ _ _ _ hf _ _ _ hP hD hS (lv_sub hl [3, 4, 5, 1, 0] rfl)
        · have hf := wk_itT hf c4
          refine lv_aload_n hx hb dX11_strikes_88 rfl (lv_at hl 1 rfl) ?_
          refine lv_iload hx hb dX11_strikes_89 (lv_at hl 5 rfl) ?_
          obtain ⟨r11, hc11, hf⟩ := wk_b1E hf
          refine wk_callVi2 C hP hD hS (c_X11_rightly l D cB cI cJ N a_this a_cards a_county a_holes a_text a_letter a_where a_rank a_value a_hour a_readLetter a_readWhere a_readRank a_readValue a_readHour a_listName a_listDay a_voterName a_voterDay a_voterCounty a_heaps a_speed a_four a_byRules a_hours a_rest a_yet a_put v_kept v_length v_items v_readItems v_at v_lists v_voters v_needed v_listDay v_listName v_voterDay v_voterName x4 hc11) (cwV 1 hts gX11_strikes_X11_rightly rfl rfl rfl hd_X11_rightly ⟨Nat.le_of_ble_eq_true rfl, Nat.le_of_ble_eq_true rfl⟩) hl.1 ⟨Nat.zero_le _, Nat.zero_le _⟩ [0, 1, 2, 4, 5] [3] 6 (by decide +kernel) rfl (Wn := w_X11_strikes cB cI cJ a_this a_cards a_county a_holes a_text a_letter a_where a_rank a_value a_hour a_readLetter a_readWhere a_readRank a_readValue a_readHour a_listName a_listDay a_voterName a_voterDay a_voterCounty a_heaps a_speed a_four a_byRules a_hours a_rest a_yet a_put v_kept v_length v_items v_readItems v_at v_lists v_voters v_needed v_listDay v_listName v_voterCounty v_voterDay v_voterName) rfl rfl rfl rfl rfl rfl (ci := 11) rfl rfl (q0 := 0) rfl rfl rfl (Nat.le_of_ble_eq_true rfl) dX11_strikes_91 (fun H locs hP hD hS => ?_)
          refine lv_if_lt (tgt := 113) hx hb dX11_strikes_94 (by decide) (fun c12 => ?_) (fun c12 => ?_)
          · have hf := wk_itT hf c12
            refine lv_iconst (v := (0 : Int32)) hx hb dX11_strikes_113 (by decide) ?_
            refine lv_iadd hx hb dX11_strikes_114 ?_
            refine lv_topi (fun y13 ey13 => ?_)
            have hf := wk_nmE hf ey13
            refine lv_istore_n (lv' := [(3, .int y13), (5, .int s0), (0, .ref a_this), (1, .int x1), (2, .int x2), (4, .int x4)]) hx hb dX11_strikes_115 rfl hl (by decide) rfl (fun ls hl => ?_)
            obtain ⟨y14, ey14⟩ : ∃ y : Int32, y = x4 + (1 : Int32) := ⟨_, rfl⟩
            have hf := wk_nmE hf ey14
            refine lv_iinc (v := y14) (lv' := [(4, .int y14), (3, .int y13), (5, .int s0), (0, .ref a_this), (1, .int x1), (2, .int x2)]) hx hb dX11_strikes_116 hl (k := 5) rfl (by rw [ey14]; rfl) (by decide) rfl (fun ls hl => ?_)
            refine lv_goto (tgt := 46) hx hb dX11_strikes_119 (by decide) ?_
            exact ih46 _ _ _ _ hf _ _ _ hP hD hS (lv_sub hl [3, 4, 5, 1, 0] rfl)
          · have hf := wk_itF hf c12
            refine lv_goto (tgt := 109) hx hb dX11_strikes_97 (by decide) ?_
            refine lv_iconst (v := (1 : Int32)) hx hb dX11_strikes_109 (by decide) ?_
            refine lv_goto (tgt := 114) hx hb dX11_strikes_110 (by decide) ?_
            refine lv_iadd hx hb dX11_strikes_114 ?_
            refine lv_topi (fun y15 ey15 => ?_)
            have hf := wk_nmE hf ey15
            refine lv_istore_n (lv' := [(3, .int y15), (5, .int s0), (0, .ref a_this), (1, .int x1), (2, .int x2), (4, .int x4)]) hx hb dX11_strikes_115 rfl hl (by decide) rfl (fun ls hl => ?_)
            obtain ⟨y16, ey16⟩ : ∃ y : Int32, y = x4 + (1 : Int32) := ⟨_, rfl⟩
            have hf := wk_nmE hf ey16
            refine lv_iinc (v := y16) (lv' := [(4, .int y16), (3, .int y15), (5, .int s0), (0, .ref a_this), (1, .int x1), (2, .int x2)]) hx hb dX11_strikes_116 hl (k := 5) rfl (by rw [ey16]; rfl) (by decide) rfl (fun ls hl => ?_)
            refine lv_goto (tgt := 46) hx hb dX11_strikes_119 (by decide) ?_
            exact ih46 _ _ _ _ hf _ _ _ hP hD hS (lv_sub hl [3, 4, 5, 1, 0] rfl)
    intro x1 x2 x3 x4 hf H locs ls hP hD hS hl
    have hf : B_X11_strikes_46 N v_lists v_voters v_needed v_listDay v_listName v_voterCounty v_voterDay v_voterName k46 x1 x2 x3 x4 = some r := hf
    unfold B_X11_strikes_46 at hf
    refine lv_iload hx hb dX11_strikes_46 (lv_at hl 4 rfl) ?_
    refine lv_aload_n hx hb dX11_strikes_48 rfl (lv_at hl 0 rfl) ?_
    refine va_get (D := D) (ci := 11) (v := .int v_voters) (C := RX11) (T := TX11) (N := 35) hx hb hts in_X11_strikes_X11 hown hK hP 0 rfl rfl 22 (by decide) (hts (.fieldLink RX11 233 "HangingCardsModel" "voters" "I") (List.mem_of_getElem? (i := 3) rfl)) (fun _ h9 => h9) rfl dX11_strikes_49 ?_
    refine lv_icmp_ge (tgt := 122) hx hb dX11_strikes_52 (by decide) (fun c17 => ?_) (fun c17 => ?_)
    · have hf := wk_itT hf c17
      refine lv_iload_n hx hb dX11_strikes_122 rfl (lv_at hl 3 rfl) ?_
      exact hret _ _ _ _ _ _ dX11_strikes_123 (wk_rt hf (fun z => z)) rfl hP hD hS
    · have hf := wk_itF hf c17
      refine lv_iload_n hx hb dX11_strikes_55 rfl (lv_at hl 1 rfl) ?_
      refine lv_iconst (v := (5 : Int32)) hx hb dX11_strikes_56 (by decide) ?_
      refine lv_icmp_eq (tgt := 71) hx hb dX11_strikes_57 (by decide) (fun c18 => ?_) (fun c18 => ?_)
      · have hf := wk_itT hf c18
        refine lv_iconst (v := (1 : Int32)) hx hb dX11_strikes_71 (by decide) ?_
        refine lv_goto (tgt := 76) hx hb dX11_strikes_72 (by decide) ?_
        exact J76 _ _ _ _ _ hf _ _ _ hP hD hS (lv_sub hl [0, 1, 2, 3, 4] rfl)
      · have hf := wk_itF hf c18
        refine lv_aload_n hx hb dX11_strikes_60 rfl (lv_at hl 0 rfl) ?_
        refine va_get (D := D) (ci := 11) (v := .ref a_voterCounty) (C := RX11) (T := TX11) (N := 35) hx hb hts in_X11_strikes_X11 hown hK hP 0 rfl rfl 25 (by decide) (hts (.fieldLink RX11 66 "HangingCardsModel" "voterCounty" "[I") (List.mem_of_getElem? (i := 4) rfl)) (fun _ h9 => h9) rfl dX11_strikes_61 ?_
        refine lv_iload hx hb dX11_strikes_64 (lv_at hl 4 rfl) ?_
        obtain ⟨hi19, hf⟩ := wk_ckE hf
        refine va_iald hx hb hK hP 3 0 rfl rfl hi19 dX11_strikes_66 ?_
        refine lv_iload_n hx hb dX11_strikes_67 rfl (lv_at hl 1 rfl) ?_
        refine lv_icmp_ne (tgt := 75) hx hb dX11_strikes_68 (by decide) (fun c20 => ?_) (fun c20 => ?_)
        · have hf := wk_itF hf c20
          refine lv_iconst (v := (0 : Int32)) hx hb dX11_strikes_75 (by decide) ?_
          exact J76 _ _ _ _ _ hf _ _ _ hP hD hS (lv_sub hl [0, 1, 2, 3, 4] rfl)
        · have hf := wk_itT hf c20
          refine lv_iconst (v := (1 : Int32)) hx hb dX11_strikes_71 (by decide) ?_
          refine lv_goto (tgt := 76) hx hb dX11_strikes_72 (by decide) ?_
          exact J76 _ _ _ _ _ hf _ _ _ hP hD hS (lv_sub hl [0, 1, 2, 3, 4] rfl))
  have J31 : ∀ (x1 : Int32) (x2 : Int32), B_X11_strikes_31 N v_lists v_voters v_needed v_listDay v_listName v_voterCounty v_voterDay v_voterName x1 x2 = some r → ∀ (H : Heap) (locs : List Loc) (ls : Array Slot), va_P D vwCl (w_X11_strikes cB cI cJ a_this a_cards a_county a_holes a_text a_letter a_where a_rank a_value a_hour a_readLetter a_readWhere a_readRank a_readValue a_readHour a_listName a_listDay a_voterName a_voterDay a_voterCounty a_heaps a_speed a_four a_byRules a_hours a_rest a_yet a_put v_kept v_length v_items v_readItems v_at v_lists v_voters v_needed v_listDay v_listName v_voterCounty v_voterDay v_voterName) H → va_D A (w_X11_strikes cB cI cJ a_this a_cards a_county a_holes a_text a_letter a_where a_rank a_value a_hour a_readLetter a_readWhere a_readRank a_readValue a_readHour a_listName a_listDay a_voterName a_voterDay a_voterCounty a_heaps a_speed a_four a_byRules a_hours a_rest a_yet a_put v_kept v_length v_items v_readItems v_at v_lists v_voters v_needed v_listDay v_listName v_voterCounty v_voterDay v_voterName) → va_S A s.heap H locs → lv_has ls 6 [(0, .ref a_this), (1, .int x1), (2, .int x2)] → W p l e rm_X11_strikes s m args below meth c H locs 0 0 Q (F0 m 31 ls []) := by
    intro x1 x2 hf H locs ls hP hD hS hl
    unfold B_X11_strikes_31 at hf
    refine lv_iload_n hx hb dX11_strikes_31 rfl (lv_at hl 2 rfl) ?_
    refine lv_iconst (v := (2 : Int32)) hx hb dX11_strikes_32 (by decide) ?_
    refine lv_icmp_ne (tgt := 41) hx hb dX11_strikes_33 (by decide) (fun c21 => ?_) (fun c21 => ?_)
    · have hf := wk_itF hf c21
      refine lv_iconst (v := (0 : Int32)) hx hb dX11_strikes_41 (by decide) ?_
      refine lv_istore_n (lv' := [(3, .int (0 : Int32)), (0, .ref a_this), (1, .int x1), (2, .int x2)]) hx hb dX11_strikes_42 rfl hl (by decide) rfl (fun ls hl => ?_)
      refine lv_iconst (v := (0 : Int32)) hx hb dX11_strikes_43 (by decide) ?_
      refine lv_istore (lv' := [(4, .int (0 : Int32)), (3, .int (0 : Int32)), (0, .ref a_this), (1, .int x1), (2, .int x2)]) hx hb dX11_strikes_44 hl (by decide) rfl (fun ls hl => ?_)
      exact L46 N _ _ _ _ hf _ _ _ hP hD hS (lv_sub hl [2, 3, 4, 1, 0] rfl)
    · have hf := wk_itT hf c21
      refine lv_aload_n hx hb dX11_strikes_36 rfl (lv_at hl 0 rfl) ?_
      obtain ⟨r22, hc22, hf⟩ := wk_b1E hf
      refine wk_callVi2 C hP hD hS (c_X11_paired l D cB cI cJ N a_this a_cards a_county a_holes a_text a_letter a_where a_rank a_value a_hour a_readLetter a_readWhere a_readRank a_readValue a_readHour a_listName a_listDay a_voterName a_voterDay a_voterCounty a_heaps a_speed a_four a_byRules a_hours a_rest a_yet a_put v_kept v_length v_items v_readItems v_at v_lists v_voters v_needed v_listDay v_listName v_voterDay v_voterName hc22) (cwV 0 hts gX11_strikes_X11_paired rfl rfl rfl hd_X11_paired ⟨Nat.le_of_ble_eq_true rfl, Nat.le_of_ble_eq_true rfl⟩) hl.1 ⟨Nat.zero_le _, Nat.zero_le _⟩ [0, 1, 2, 4, 5] [3] 6 (by decide +kernel) rfl (Wn := w_X11_strikes cB cI cJ a_this a_cards a_county a_holes a_text a_letter a_where a_rank a_value a_hour a_readLetter a_readWhere a_readRank a_readValue a_readHour a_listName a_listDay a_voterName a_voterDay a_voterCounty a_heaps a_speed a_four a_byRules a_hours a_rest a_yet a_put v_kept v_length v_items v_readItems v_at v_lists v_voters v_needed v_listDay v_listName v_voterCounty v_voterDay v_voterName) rfl rfl rfl rfl rfl rfl (ci := 11) rfl rfl (q0 := 0) rfl rfl rfl (Nat.le_of_ble_eq_true rfl) dX11_strikes_37 (fun H locs hP hD hS => ?_)
      exact hret _ _ _ _ _ _ dX11_strikes_40 (wk_rt hf (fun z => z)) rfl hP hD hS
  unfold f_X11_strikes at hf
  refine lv_iload_n hx hb dX11_strikes_0 rfl (lv_at hl 2 rfl) ?_
  refine lv_i2l (v := (x2.toInt64)) hx hb dX11_strikes_1 rfl ?_
  refine lv_lconst (v := (0 : Int64)) hx hb dX11_strikes_2 (by decide) ?_
  refine lv_ldc2 (v := (2 : Int64)) hx hb hown (hts (.constantLong RX11 115 (2)) (List.mem_of_getElem? (i := 1) rfl)) dX11_strikes_3 ?_
  obtain ⟨r23, hc23, hf⟩ := wk_b1E hf
  refine wk_callSi2 C hP hD hS (c_X11_in l D cB cI cJ N (x2.toInt64) (0 : Int64) (2 : Int64) hc23) (va_cwS 3 hts gX11_strikes_X11_in rfl rfl rfl hd_X11_in.2 ⟨Nat.le_of_ble_eq_true rfl, Nat.le_of_ble_eq_true rfl⟩) hl.1 ⟨Nat.zero_le _, Nat.zero_le _⟩ [] [0, 1, 2, 3, 4, 5] 6 (by decide +kernel) rfl (Wn := w_X11_strikes cB cI cJ a_this a_cards a_county a_holes a_text a_letter a_where a_rank a_value a_hour a_readLetter a_readWhere a_readRank a_readValue a_readHour a_listName a_listDay a_voterName a_voterDay a_voterCounty a_heaps a_speed a_four a_byRules a_hours a_rest a_yet a_put v_kept v_length v_items v_readItems v_at v_lists v_voters v_needed v_listDay v_listName v_voterCounty v_voterDay v_voterName) rfl rfl rfl rfl rfl rfl rfl rfl (Nat.le_of_ble_eq_true rfl) dX11_strikes_6 (fun H locs hP hD hS => ?_)
  refine lv_if_eq (tgt := 29) hx hb dX11_strikes_9 (by decide) (fun c24 => ?_) (fun c24 => ?_)
  · have hf := wk_itT hf c24
    refine lv_iconst (v := (-1 : Int32)) hx hb dX11_strikes_29 (by decide) ?_
    exact hret _ _ _ _ _ _ dX11_strikes_30 (wk_rt hf (fun z => z)) rfl hP hD hS
  · have hf := wk_itF hf c24
    refine lv_iload_n hx hb dX11_strikes_12 rfl (lv_at hl 2 rfl) ?_
    refine lv_iconst (v := (2 : Int32)) hx hb dX11_strikes_13 (by decide) ?_
    refine lv_icmp_ge (tgt := 31) hx hb dX11_strikes_14 (by decide) (fun c25 => ?_) (fun c25 => ?_)
    · have hf := wk_itT hf c25
      exact J31 _ _ hf _ _ _ hP hD hS (lv_sub hl [0, 1, 2] rfl)
    · have hf := wk_itF hf c25
      refine lv_iload_n hx hb dX11_strikes_17 rfl (lv_at hl 1 rfl) ?_
      refine lv_i2l (v := (x1.toInt64)) hx hb dX11_strikes_18 rfl ?_
      refine lv_lconst (v := (0 : Int64)) hx hb dX11_strikes_19 (by decide) ?_
      refine lv_ldc2 (v := (5 : Int64)) hx hb hown (hts (.constantLong RX11 157 (5)) (List.mem_of_getElem? (i := 2) rfl)) dX11_strikes_20 ?_
      obtain ⟨r26, hc26, hf⟩ := wk_b1E hf
      refine wk_callSi2 C hP hD hS (c_X11_in l D cB cI cJ N (x1.toInt64) (0 : Int64) (5 : Int64) hc26) (va_cwS 3 hts gX11_strikes_X11_in rfl rfl rfl hd_X11_in.2 ⟨Nat.le_of_ble_eq_true rfl, Nat.le_of_ble_eq_true rfl⟩) hl.1 ⟨Nat.zero_le _, Nat.zero_le _⟩ [] [0, 1, 2, 3, 4, 5] 6 (by decide +kernel) rfl (Wn := w_X11_strikes cB cI cJ a_this a_cards a_county a_holes a_text a_letter a_where a_rank a_value a_hour a_readLetter a_readWhere a_readRank a_readValue a_readHour a_listName a_listDay a_voterName a_voterDay a_voterCounty a_heaps a_speed a_four a_byRules a_hours a_rest a_yet a_put v_kept v_length v_items v_readItems v_at v_lists v_voters v_needed v_listDay v_listName v_voterCounty v_voterDay v_voterName) rfl rfl rfl rfl rfl rfl rfl rfl (Nat.le_of_ble_eq_true rfl) dX11_strikes_23 (fun H locs hP hD hS => ?_)
      refine lv_if_ne (tgt := 31) hx hb dX11_strikes_26 (by decide) (fun c27 => ?_) (fun c27 => ?_)
      · have hf := wk_itF hf c27
        exact J31 _ _ hf _ _ _ hP hD hS (lv_sub hl [0, 1, 2] rfl)
      · have hf := wk_itT hf c27
        refine lv_iconst (v := (-1 : Int32)) hx hb dX11_strikes_29 (by decide) ?_
        exact hret _ _ _ _ _ _ dX11_strikes_30 (wk_rt hf (fun z => z)) rfl hP hD hS
abbrev w_X11_boxes (cB cI cJ : ClassId) (a_this : Nat) (a_cards : Nat) (a_county : Nat) (a_holes : Nat) (a_text : Nat) (a_letter : Nat) (a_where : Nat) (a_rank : Nat) (a_value : Nat) (a_hour : Nat) (a_readLetter : Nat) (a_readWhere : Nat) (a_readRank : Nat) (a_readValue : Nat) (a_readHour : Nat) (a_listName : Nat) (a_listDay : Nat) (a_voterName : Nat) (a_voterDay : Nat) (a_voterCounty : Nat) (a_heaps : Nat) (a_speed : Nat) (a_four : Nat) (a_byRules : Nat) (a_hours : Nat) (a_rest : Nat) (a_yet : Nat) (a_put : Nat) (v_kept : Int32) (v_length : Int32) (v_items : Int32) (v_readItems : Int32) (v_at : Int32) (v_lists : Int32) (v_voters : Int32) (v_needed : Int32) (v_heaps : Nat → Int32) (v_speed : Nat → Int32) : va_W := [(a_this, .inr (11, [.ref a_cards, .ref a_county, .ref a_holes, .int v_kept, .int v_length, .ref a_text, .int v_items, .ref a_letter, .ref a_where, .ref a_rank, .ref a_value, .ref a_hour, .int v_readItems, .ref a_readLetter, .ref a_readWhere, .ref a_readRank, .ref a_readValue, .ref a_readHour, .int v_at, .int v_lists, .ref a_listName, .ref a_listDay, .int v_voters, .ref a_voterName, .ref a_voterDay, .ref a_voterCounty, .int v_needed, .ref a_heaps, .ref a_speed, .ref a_four, .ref a_byRules, .ref a_hours, .ref a_rest, .ref a_yet, .ref a_put])), (a_heaps, .inl (cI, 5, .inl v_heaps)), (a_speed, .inl (cI, 5, .inl v_speed))]
theorem hd_X11_boxes : yX11_boxes.cls = RX11 ∧ yX11_boxes.cls ≠ "java/lang/invoke/MethodHandle" ∧ yX11_boxes.cls ≠ "java/lang/invoke/VarHandle" ∧ (parseMethodDescriptor yX11_boxes.desc).map (fun d => d.parameters.length) = some 3 := by decide +kernel
abbrev rm_X11_boxes : Room := { frames := 1, cells := 0, slots := 0, locals := 25 }
theorem in_X11_boxes_X11 : ∀ w ∈ wsX110, w ∈ wsX11_boxes := fun w h => List.mem_cons_of_mem _ (List.mem_append_right _ h)
set_option maxHeartbeats 4000000 in
set_option maxRecDepth 100000 in
theorem c_X11_boxes (l : Launch) (D : va_G) (cB cI cJ : ClassId) (N : Nat) (a_this : Nat) (a_cards : Nat) (a_county : Nat) (a_holes : Nat) (a_text : Nat) (a_letter : Nat) (a_where : Nat) (a_rank : Nat) (a_value : Nat) (a_hour : Nat) (a_readLetter : Nat) (a_readWhere : Nat) (a_readRank : Nat) (a_readValue : Nat) (a_readHour : Nat) (a_listName : Nat) (a_listDay : Nat) (a_voterName : Nat) (a_voterDay : Nat) (a_voterCounty : Nat) (a_heaps : Nat) (a_speed : Nat) (a_four : Nat) (a_byRules : Nat) (a_hours : Nat) (a_rest : Nat) (a_yet : Nat) (a_put : Nat) (v_kept : Int32) (v_length : Int32) (v_items : Int32) (v_readItems : Int32) (v_at : Int32) (v_lists : Int32) (v_voters : Int32) (v_needed : Int32) (v_heaps : Nat → Int32) (v_speed : Nat → Int32) (x1 : Int32) (x2 : Int32) (x3 : Int32) {r : Int32} {o_heaps : Nat → Int32} {o_speed : Nat → Int32} (hf : f_X11_boxes N v_heaps v_speed x1 x2 x3 = some (r, o_heaps, o_speed)) : MTi l yX11_boxes wsX11_boxes rm_X11_boxes D (wk_T cB cI cJ) [.ref a_this, .int x1, .int x2, .int x3] (w_X11_boxes cB cI cJ a_this a_cards a_county a_holes a_text a_letter a_where a_rank a_value a_hour a_readLetter a_readWhere a_readRank a_readValue a_readHour a_listName a_listDay a_voterName a_voterDay a_voterCounty a_heaps a_speed a_four a_byRules a_hours a_rest a_yet a_put v_kept v_length v_items v_readItems v_at v_lists v_voters v_needed v_heaps v_speed) (w_X11_boxes cB cI cJ a_this a_cards a_county a_holes a_text a_letter a_where a_rank a_value a_hour a_readLetter a_readWhere a_readRank a_readValue a_readHour a_listName a_listDay a_voterName a_voterDay a_voterCounty a_heaps a_speed a_four a_byRules a_hours a_rest a_yet a_put v_kept v_length v_items v_readItems v_at v_lists v_voters v_needed o_heaps o_speed) r := by
  refine MTi.of (cc := cX11_boxes) (nL := 5) (rt := .int) (own := RX11) pn_X11 rfl rfl (Nat.le_of_ble_eq_true rfl) rfl ?_
  intro p e s m args below meth c A ls Q C hP hD hS hl hret
  obtain ⟨hx, hb, hml, hts, hown, hK, hN, hA, hlk⟩ := id C
  have hl : lv_has ls 5 [(0, .ref a_this), (1, .int x1), (2, .int x2), (3, .int x3)] := hl
  have J66 : ∀ (v_heaps : Nat → Int32) (v_speed : Nat → Int32) (x1 : Int32) (x2 : Int32) (x3 : Int32) (s0 : Int32), B_X11_boxes_66 N v_heaps v_speed x1 x2 x3 s0 = some (r, o_heaps, o_speed) → ∀ (H : Heap) (locs : List Loc) (ls : Array Slot), va_P D vwCl (w_X11_boxes cB cI cJ a_this a_cards a_county a_holes a_text a_letter a_where a_rank a_value a_hour a_readLetter a_readWhere a_readRank a_readValue a_readHour a_listName a_listDay a_voterName a_voterDay a_voterCounty a_heaps a_speed a_four a_byRules a_hours a_rest a_yet a_put v_kept v_length v_items v_readItems v_at v_lists v_voters v_needed v_heaps v_speed) H → va_D A (w_X11_boxes cB cI cJ a_this a_cards a_county a_holes a_text a_letter a_where a_rank a_value a_hour a_readLetter a_readWhere a_readRank a_readValue a_readHour a_listName a_listDay a_voterName a_voterDay a_voterCounty a_heaps a_speed a_four a_byRules a_hours a_rest a_yet a_put v_kept v_length v_items v_readItems v_at v_lists v_voters v_needed v_heaps v_speed) → va_S A s.heap H locs → lv_has ls 5 [(0, .ref a_this), (1, .int x1), (2, .int x2), (3, .int x3)] → W p l e rm_X11_boxes s m args below meth c H locs 0 0 Q (F0 m 66 ls [.int s0]) := by
    intro v_heaps v_speed x1 x2 x3 s0 hf H locs ls hP hD hS hl
    unfold B_X11_boxes_66 at hf
    refine lv_istore (lv' := [(4, .int s0), (0, .ref a_this), (1, .int x1), (2, .int x2), (3, .int x3)]) hx hb dX11_boxes_66 hl (by decide) rfl (fun ls hl => ?_)
    refine lv_iload_n hx hb dX11_boxes_68 rfl (lv_at hl 3 rfl) ?_
    refine lv_if_ne (tgt := 82) hx hb dX11_boxes_69 (by decide) (fun c1 => ?_) (fun c1 => ?_)
    · have hf := wk_itF hf c1
      refine lv_aload_n hx hb dX11_boxes_82 rfl (lv_at hl 1 rfl) ?_
      refine va_get (D := D) (ci := 11) (v := .ref a_speed) (C := RX11) (T := TX11) (N := 35) hx hb hts in_X11_boxes_X11 hown hK hP 0 rfl rfl 28 (by decide) (hts (.fieldLink RX11 76 "HangingCardsModel" "speed" "[I") (List.mem_of_getElem? (i := 5) rfl)) (fun _ h9 => h9) rfl dX11_boxes_83 ?_
      refine lv_iload_n hx hb dX11_boxes_86 rfl (lv_at hl 2 rfl) ?_
      refine lv_iload_n hx hb dX11_boxes_87 rfl (lv_at hl 4 rfl) ?_
      obtain ⟨hi2, hf⟩ := wk_ckE hf
      refine va_iast hx hb hK hP hD hS 2 0 rfl rfl hi2 dX11_boxes_88 (fun H locs hP hD hS => ?_)
      have hP : va_P D vwCl (w_X11_boxes cB cI cJ a_this a_cards a_county a_holes a_text a_letter a_where a_rank a_value a_hour a_readLetter a_readWhere a_readRank a_readValue a_readHour a_listName a_listDay a_voterName a_voterDay a_voterCounty a_heaps a_speed a_four a_byRules a_hours a_rest a_yet a_put v_kept v_length v_items v_readItems v_at v_lists v_voters v_needed v_heaps (upd v_speed x1.toNatClampNeg x3)) H := hP
      have hD : va_D A (w_X11_boxes cB cI cJ a_this a_cards a_county a_holes a_text a_letter a_where a_rank a_value a_hour a_readLetter a_readWhere a_readRank a_readValue a_readHour a_listName a_listDay a_voterName a_voterDay a_voterCounty a_heaps a_speed a_four a_byRules a_hours a_rest a_yet a_put v_kept v_length v_items v_readItems v_at v_lists v_voters v_needed v_heaps (upd v_speed x1.toNatClampNeg x3)) := hD
      refine lv_iload hx hb dX11_boxes_89 (lv_at hl 0 rfl) ?_
      exact hret _ _ _ _ _ _ dX11_boxes_91 (wk_rt hf (fun z => z.1)) (wk_rt hf (fun z => w_X11_boxes cB cI cJ a_this a_cards a_county a_holes a_text a_letter a_where a_rank a_value a_hour a_readLetter a_readWhere a_readRank a_readValue a_readHour a_listName a_listDay a_voterName a_voterDay a_voterCounty a_heaps a_speed a_four a_byRules a_hours a_rest a_yet a_put v_kept v_length v_items v_readItems v_at v_lists v_voters v_needed (z.2.1) (z.2.2))) hP hD hS
    · have hf := wk_itT hf c1
      refine lv_aload_n hx hb dX11_boxes_72 rfl (lv_at hl 1 rfl) ?_
      refine va_get (D := D) (ci := 11) (v := .ref a_heaps) (C := RX11) (T := TX11) (N := 35) hx hb hts in_X11_boxes_X11 hown hK hP 0 rfl rfl 27 (by decide) (hts (.fieldLink RX11 73 "HangingCardsModel" "heaps" "[I") (List.mem_of_getElem? (i := 4) rfl)) (fun _ h9 => h9) rfl dX11_boxes_73 ?_
      refine lv_iload_n hx hb dX11_boxes_76 rfl (lv_at hl 2 rfl) ?_
      refine lv_iload_n hx hb dX11_boxes_77 rfl (lv_at hl 4 rfl) ?_
      obtain ⟨hi3, hf⟩ := wk_ckE hf
      refine va_iast hx hb hK hP hD hS 1 0 rfl rfl hi3 dX11_boxes_78 (fun H locs hP hD hS => ?_)
      have hP : va_P D vwCl (w_X11_boxes cB cI cJ a_this a_cards a_county a_holes a_text a_letter a_where a_rank a_value a_hour a_readLetter a_readWhere a_readRank a_readValue a_readHour a_listName a_listDay a_voterName a_voterDay a_voterCounty a_heaps a_speed a_four a_byRules a_hours a_rest a_yet a_put v_kept v_length v_items v_readItems v_at v_lists v_voters v_needed (upd v_heaps x1.toNatClampNeg x3) v_speed) H := hP
      have hD : va_D A (w_X11_boxes cB cI cJ a_this a_cards a_county a_holes a_text a_letter a_where a_rank a_value a_hour a_readLetter a_readWhere a_readRank a_readValue a_readHour a_listName a_listDay a_voterName a_voterDay a_voterCounty a_heaps a_speed a_four a_byRules a_hours a_rest a_yet a_put v_kept v_length v_items v_readItems v_at v_lists v_voters v_needed (upd v_heaps x1.toNatClampNeg x3) v_speed) := hD
      refine lv_goto (tgt := 89) hx hb dX11_boxes_79 (by decide) ?_
      refine lv_iload hx hb dX11_boxes_89 (lv_at hl 0 rfl) ?_
      exact hret _ _ _ _ _ _ dX11_boxes_91 (wk_rt hf (fun z => z.1)) (wk_rt hf (fun z => w_X11_boxes cB cI cJ a_this a_cards a_county a_holes a_text a_letter a_where a_rank a_value a_hour a_readLetter a_readWhere a_readRank a_readValue a_readHour a_listName a_listDay a_voterName a_voterDay a_voterCounty a_heaps a_speed a_four a_byRules a_hours a_rest a_yet a_put v_kept v_length v_items v_readItems v_at v_lists v_voters v_needed (z.2.1) (z.2.2))) hP hD hS
  have J39 : ∀ (v_heaps : Nat → Int32) (v_speed : Nat → Int32) (x1 : Int32) (x2 : Int32) (x3 : Int32) (s0 : Int64) (s1 : Int64) (s2 : Int64), B_X11_boxes_39 N v_heaps v_speed x1 x2 x3 s0 s1 s2 = some (r, o_heaps, o_speed) → ∀ (H : Heap) (locs : List Loc) (ls : Array Slot), va_P D vwCl (w_X11_boxes cB cI cJ a_this a_cards a_county a_holes a_text a_letter a_where a_rank a_value a_hour a_readLetter a_readWhere a_readRank a_readValue a_readHour a_listName a_listDay a_voterName a_voterDay a_voterCounty a_heaps a_speed a_four a_byRules a_hours a_rest a_yet a_put v_kept v_length v_items v_readItems v_at v_lists v_voters v_needed v_heaps v_speed) H → va_D A (w_X11_boxes cB cI cJ a_this a_cards a_county a_holes a_text a_letter a_where a_rank a_value a_hour a_readLetter a_readWhere a_readRank a_readValue a_readHour a_listName a_listDay a_voterName a_voterDay a_voterCounty a_heaps a_speed a_four a_byRules a_hours a_rest a_yet a_put v_kept v_length v_items v_readItems v_at v_lists v_voters v_needed v_heaps v_speed) → va_S A s.heap H locs → lv_has ls 5 [(0, .ref a_this), (1, .int x1), (2, .int x2), (3, .int x3)] → W p l e rm_X11_boxes s m args below meth c H locs 0 0 Q (F0 m 39 ls [.long s2, .long s1, .long s0]) := by
    intro v_heaps v_speed x1 x2 x3 s0 s1 s2 hf H locs ls hP hD hS hl
    unfold B_X11_boxes_39 at hf
    obtain ⟨r4, hc4, hf⟩ := wk_b1E hf
    refine wk_callSi2 C hP hD hS (c_X11_in l D cB cI cJ N s0 s1 s2 hc4) (va_cwS 3 hts gX11_boxes_X11_in rfl rfl rfl hd_X11_in.2 ⟨Nat.le_of_ble_eq_true rfl, Nat.le_of_ble_eq_true rfl⟩) hl.1 ⟨Nat.zero_le _, Nat.zero_le _⟩ [] [0, 1, 2] 3 (by decide +kernel) rfl (Wn := w_X11_boxes cB cI cJ a_this a_cards a_county a_holes a_text a_letter a_where a_rank a_value a_hour a_readLetter a_readWhere a_readRank a_readValue a_readHour a_listName a_listDay a_voterName a_voterDay a_voterCounty a_heaps a_speed a_four a_byRules a_hours a_rest a_yet a_put v_kept v_length v_items v_readItems v_at v_lists v_voters v_needed v_heaps v_speed) rfl rfl rfl rfl rfl rfl rfl rfl (Nat.le_of_ble_eq_true rfl) dX11_boxes_39 (fun H locs hP hD hS => ?_)
    refine lv_if_ne (tgt := 47) hx hb dX11_boxes_42 (by decide) (fun c5 => ?_) (fun c5 => ?_)
    · have hf := wk_itF hf c5
      refine lv_iload_n hx hb dX11_boxes_47 rfl (lv_at hl 2 rfl) ?_
      refine lv_if_ne (tgt := 60) hx hb dX11_boxes_48 (by decide) (fun c6 => ?_) (fun c6 => ?_)
      · have hf := wk_itF hf c6
        refine lv_aload_n hx hb dX11_boxes_60 rfl (lv_at hl 0 rfl) ?_
        refine va_get (D := D) (ci := 11) (v := .ref a_speed) (C := RX11) (T := TX11) (N := 35) hx hb hts in_X11_boxes_X11 hown hK hP 0 rfl rfl 28 (by decide) (hts (.fieldLink RX11 76 "HangingCardsModel" "speed" "[I") (List.mem_of_getElem? (i := 5) rfl)) (fun _ h9 => h9) rfl dX11_boxes_61 ?_
        refine lv_iload_n hx hb dX11_boxes_64 rfl (lv_at hl 1 rfl) ?_
        obtain ⟨hi7, hf⟩ := wk_ckE hf
        refine va_iald hx hb hK hP 2 0 rfl rfl hi7 dX11_boxes_65 ?_
        exact J66 _ _ _ _ _ _ hf _ _ _ hP hD hS (lv_sub hl [0, 1, 2, 3] rfl)
      · have hf := wk_itT hf c6
        refine lv_aload_n hx hb dX11_boxes_51 rfl (lv_at hl 0 rfl) ?_
        refine va_get (D := D) (ci := 11) (v := .ref a_heaps) (C := RX11) (T := TX11) (N := 35) hx hb hts in_X11_boxes_X11 hown hK hP 0 rfl rfl 27 (by decide) (hts (.fieldLink RX11 73 "HangingCardsModel" "heaps" "[I") (List.mem_of_getElem? (i := 4) rfl)) (fun _ h9 => h9) rfl dX11_boxes_52 ?_
        refine lv_iload_n hx hb dX11_boxes_55 rfl (lv_at hl 1 rfl) ?_
        obtain ⟨hi8, hf⟩ := wk_ckE hf
        refine va_iald hx hb hK hP 1 0 rfl rfl hi8 dX11_boxes_56 ?_
        refine lv_goto (tgt := 66) hx hb dX11_boxes_57 (by decide) ?_
        exact J66 _ _ _ _ _ _ hf _ _ _ hP hD hS (lv_sub hl [0, 1, 2, 3] rfl)
    · have hf := wk_itT hf c5
      refine lv_iconst (v := (-1 : Int32)) hx hb dX11_boxes_45 (by decide) ?_
      exact hret _ _ _ _ _ _ dX11_boxes_46 (wk_rt hf (fun z => z.1)) (wk_rt hf (fun z => w_X11_boxes cB cI cJ a_this a_cards a_county a_holes a_text a_letter a_where a_rank a_value a_hour a_readLetter a_readWhere a_readRank a_readValue a_readHour a_listName a_listDay a_voterName a_voterDay a_voterCounty a_heaps a_speed a_four a_byRules a_hours a_rest a_yet a_put v_kept v_length v_items v_readItems v_at v_lists v_voters v_needed (z.2.1) (z.2.2))) hP hD hS
  unfold f_X11_boxes at hf
  refine lv_iload_n hx hb dX11_boxes_0 rfl (lv_at hl 1 rfl) ?_
  refine lv_i2l (v := (x1.toInt64)) hx hb dX11_boxes_1 rfl ?_
  refine lv_lconst (v := (0 : Int64)) hx hb dX11_boxes_2 (by decide) ?_
  refine lv_ldc2 (v := (4 : Int64)) hx hb hown (hts (.constantLong RX11 101 (4)) (List.mem_of_getElem? (i := 1) rfl)) dX11_boxes_3 ?_
  obtain ⟨r9, hc9, hf⟩ := wk_b1E hf
  refine wk_callSi2 C hP hD hS (c_X11_in l D cB cI cJ N (x1.toInt64) (0 : Int64) (4 : Int64) hc9) (va_cwS 3 hts gX11_boxes_X11_in rfl rfl rfl hd_X11_in.2 ⟨Nat.le_of_ble_eq_true rfl, Nat.le_of_ble_eq_true rfl⟩) hl.1 ⟨Nat.zero_le _, Nat.zero_le _⟩ [] [0, 1, 2] 3 (by decide +kernel) rfl (Wn := w_X11_boxes cB cI cJ a_this a_cards a_county a_holes a_text a_letter a_where a_rank a_value a_hour a_readLetter a_readWhere a_readRank a_readValue a_readHour a_listName a_listDay a_voterName a_voterDay a_voterCounty a_heaps a_speed a_four a_byRules a_hours a_rest a_yet a_put v_kept v_length v_items v_readItems v_at v_lists v_voters v_needed v_heaps v_speed) rfl rfl rfl rfl rfl rfl rfl rfl (Nat.le_of_ble_eq_true rfl) dX11_boxes_6 (fun H locs hP hD hS => ?_)
  refine lv_if_eq (tgt := 45) hx hb dX11_boxes_9 (by decide) (fun c10 => ?_) (fun c10 => ?_)
  · have hf := wk_itT hf c10
    refine lv_iconst (v := (-1 : Int32)) hx hb dX11_boxes_45 (by decide) ?_
    exact hret _ _ _ _ _ _ dX11_boxes_46 (wk_rt hf (fun z => z.1)) (wk_rt hf (fun z => w_X11_boxes cB cI cJ a_this a_cards a_county a_holes a_text a_letter a_where a_rank a_value a_hour a_readLetter a_readWhere a_readRank a_readValue a_readHour a_listName a_listDay a_voterName a_voterDay a_voterCounty a_heaps a_speed a_four a_byRules a_hours a_rest a_yet a_put v_kept v_length v_items v_readItems v_at v_lists v_voters v_needed (z.2.1) (z.2.2))) hP hD hS
  · have hf := wk_itF hf c10
    refine lv_iload_n hx hb dX11_boxes_12 rfl (lv_at hl 2 rfl) ?_
    refine lv_i2l (v := (x2.toInt64)) hx hb dX11_boxes_13 rfl ?_
    refine lv_lconst (v := (0 : Int64)) hx hb dX11_boxes_14 (by decide) ?_
    refine lv_lconst (v := (1 : Int64)) hx hb dX11_boxes_15 (by decide) ?_
    obtain ⟨r11, hc11, hf⟩ := wk_b1E hf
    refine wk_callSi2 C hP hD hS (c_X11_in l D cB cI cJ N (x2.toInt64) (0 : Int64) (1 : Int64) hc11) (va_cwS 3 hts gX11_boxes_X11_in rfl rfl rfl hd_X11_in.2 ⟨Nat.le_of_ble_eq_true rfl, Nat.le_of_ble_eq_true rfl⟩) hl.1 ⟨Nat.zero_le _, Nat.zero_le _⟩ [] [0, 1, 2] 3 (by decide +kernel) rfl (Wn := w_X11_boxes cB cI cJ a_this a_cards a_county a_holes a_text a_letter a_where a_rank a_value a_hour a_readLetter a_readWhere a_readRank a_readValue a_readHour a_listName a_listDay a_voterName a_voterDay a_voterCounty a_heaps a_speed a_four a_byRules a_hours a_rest a_yet a_put v_kept v_length v_items v_readItems v_at v_lists v_voters v_needed v_heaps v_speed) rfl rfl rfl rfl rfl rfl rfl rfl (Nat.le_of_ble_eq_true rfl) dX11_boxes_16 (fun H locs hP hD hS => ?_)
    refine lv_if_eq (tgt := 45) hx hb dX11_boxes_19 (by decide) (fun c12 => ?_) (fun c12 => ?_)
    · have hf := wk_itT hf c12
      refine lv_iconst (v := (-1 : Int32)) hx hb dX11_boxes_45 (by decide) ?_
      exact hret _ _ _ _ _ _ dX11_boxes_46 (wk_rt hf (fun z => z.1)) (wk_rt hf (fun z => w_X11_boxes cB cI cJ a_this a_cards a_county a_holes a_text a_letter a_where a_rank a_value a_hour a_readLetter a_readWhere a_readRank a_readValue a_readHour a_listName a_listDay a_voterName a_voterDay a_voterCounty a_heaps a_speed a_four a_byRules a_hours a_rest a_yet a_put v_kept v_length v_items v_readItems v_at v_lists v_voters v_needed (z.2.1) (z.2.2))) hP hD hS
    · have hf := wk_itF hf c12
      refine lv_iload_n hx hb dX11_boxes_22 rfl (lv_at hl 3 rfl) ?_
      refine lv_i2l (v := (x3.toInt64)) hx hb dX11_boxes_23 rfl ?_
      refine lv_iload_n hx hb dX11_boxes_24 rfl (lv_at hl 2 rfl) ?_
      refine lv_i2l (v := (x2.toInt64)) hx hb dX11_boxes_25 rfl ?_
      refine lv_iload_n hx hb dX11_boxes_26 rfl (lv_at hl 2 rfl) ?_
      refine lv_if_ne (tgt := 36) hx hb dX11_boxes_27 (by decide) (fun c13 => ?_) (fun c13 => ?_)
      · have hf := wk_itF hf c13
        refine lv_ldc2 (v := (50 : Int64)) hx hb hown (hts (.constantLong RX11 262 (50)) (List.mem_of_getElem? (i := 3) rfl)) dX11_boxes_36 ?_
        exact J39 _ _ _ _ _ _ _ _ hf _ _ _ hP hD hS (lv_sub hl [0, 1, 2, 3] rfl)
      · have hf := wk_itT hf c13
        refine lv_ldc2 (v := (500 : Int64)) hx hb hown (hts (.constantLong RX11 260 (500)) (List.mem_of_getElem? (i := 2) rfl)) dX11_boxes_30 ?_
        refine lv_goto (tgt := 39) hx hb dX11_boxes_33 (by decide) ?_
        exact J39 _ _ _ _ _ _ _ _ hf _ _ _ hP hD hS (lv_sub hl [0, 1, 2, 3] rfl)
