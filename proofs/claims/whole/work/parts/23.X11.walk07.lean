abbrev w_X11_work (cB cI cJ : ClassId) (a_this : Nat) (a_cards : Nat) (a_county : Nat) (a_holes : Nat) (a_text : Nat) (a_letter : Nat) (a_where : Nat) (a_rank : Nat) (a_value : Nat) (a_hour : Nat) (a_readLetter : Nat) (a_readWhere : Nat) (a_readRank : Nat) (a_readValue : Nat) (a_readHour : Nat) (a_listName : Nat) (a_listDay : Nat) (a_voterName : Nat) (a_voterDay : Nat) (a_voterCounty : Nat) (a_heaps : Nat) (a_speed : Nat) (a_four : Nat) (a_byRules : Nat) (a_hours : Nat) (a_rest : Nat) (a_yet : Nat) (a_put : Nat) (v_kept : Int32) (v_length : Int32) (v_items : Int32) (v_readItems : Int32) (v_at : Int32) (v_lists : Int32) (v_voters : Int32) (v_needed : Int32) (v_heaps : Nat → Int32) (v_speed : Nat → Int32) : va_W := [(a_this, .inr (11, [.ref a_cards, .ref a_county, .ref a_holes, .int v_kept, .int v_length, .ref a_text, .int v_items, .ref a_letter, .ref a_where, .ref a_rank, .ref a_value, .ref a_hour, .int v_readItems, .ref a_readLetter, .ref a_readWhere, .ref a_readRank, .ref a_readValue, .ref a_readHour, .int v_at, .int v_lists, .ref a_listName, .ref a_listDay, .int v_voters, .ref a_voterName, .ref a_voterDay, .ref a_voterCounty, .int v_needed, .ref a_heaps, .ref a_speed, .ref a_four, .ref a_byRules, .ref a_hours, .ref a_rest, .ref a_yet, .ref a_put])), (a_heaps, .inl (cI, 5, .inl v_heaps)), (a_speed, .inl (cI, 5, .inl v_speed))]
theorem hd_X11_work : yX11_work.cls = RX11 ∧ yX11_work.cls ≠ "java/lang/invoke/MethodHandle" ∧ yX11_work.cls ≠ "java/lang/invoke/VarHandle" ∧ (parseMethodDescriptor yX11_work.desc).map (fun d => d.parameters.length) = some 1 := by decide +kernel
abbrev rm_X11_work : Room := { frames := 0, cells := 0, slots := 0, locals := 0 }
theorem in_X11_work_X11 : ∀ w ∈ wsX110, w ∈ wsX11_work := fun w h => List.mem_cons_of_mem _ (List.mem_append_right _ h)
set_option maxHeartbeats 4000000 in
set_option maxRecDepth 100000 in
theorem c_X11_work (l : Launch) (D : va_G) (cB cI cJ : ClassId) (N : Nat) (a_this : Nat) (a_cards : Nat) (a_county : Nat) (a_holes : Nat) (a_text : Nat) (a_letter : Nat) (a_where : Nat) (a_rank : Nat) (a_value : Nat) (a_hour : Nat) (a_readLetter : Nat) (a_readWhere : Nat) (a_readRank : Nat) (a_readValue : Nat) (a_readHour : Nat) (a_listName : Nat) (a_listDay : Nat) (a_voterName : Nat) (a_voterDay : Nat) (a_voterCounty : Nat) (a_heaps : Nat) (a_speed : Nat) (a_four : Nat) (a_byRules : Nat) (a_hours : Nat) (a_rest : Nat) (a_yet : Nat) (a_put : Nat) (v_kept : Int32) (v_length : Int32) (v_items : Int32) (v_readItems : Int32) (v_at : Int32) (v_lists : Int32) (v_voters : Int32) (v_needed : Int32) (v_heaps : Nat → Int32) (v_speed : Nat → Int32) (x1 : Int32) {r : Int32} (hf : f_X11_work N v_heaps v_speed x1 = some r) : MTi l yX11_work wsX11_work rm_X11_work D (wk_T cB cI cJ) [.ref a_this, .int x1] (w_X11_work cB cI cJ a_this a_cards a_county a_holes a_text a_letter a_where a_rank a_value a_hour a_readLetter a_readWhere a_readRank a_readValue a_readHour a_listName a_listDay a_voterName a_voterDay a_voterCounty a_heaps a_speed a_four a_byRules a_hours a_rest a_yet a_put v_kept v_length v_items v_readItems v_at v_lists v_voters v_needed v_heaps v_speed) (w_X11_work cB cI cJ a_this a_cards a_county a_holes a_text a_letter a_where a_rank a_value a_hour a_readLetter a_readWhere a_readRank a_readValue a_readHour a_listName a_listDay a_voterName a_voterDay a_voterCounty a_heaps a_speed a_four a_byRules a_hours a_rest a_yet a_put v_kept v_length v_items v_readItems v_at v_lists v_voters v_needed v_heaps v_speed) r := by
  refine MTi.of (cc := cX11_work) (nL := 2) (rt := .int) (own := RX11) pn_X11 rfl rfl (Nat.le_of_ble_eq_true rfl) rfl ?_
  intro p e s m args below meth c A ls Q C hP hD hS hl hret
  obtain ⟨hx, hb, hml, hts, hown, hK, hN, hA, hlk⟩ := id C
  have hl : lv_has ls 2 [(0, .ref a_this), (1, .int x1)] := hl
  unfold f_X11_work at hf
  refine lv_aload_n hx hb dX11_work_0 rfl (lv_at hl 0 rfl) ?_
  refine va_get (D := D) (ci := 11) (v := .ref a_heaps) (C := RX11) (T := TX11) (N := 35) hx hb hts in_X11_work_X11 hown hK hP 0 rfl rfl 27 (by decide) (hts (.fieldLink RX11 73 "HangingCardsModel" "heaps" "[I") (List.mem_of_getElem? (i := 1) rfl)) (fun _ h9 => h9) rfl dX11_work_1 ?_
  refine lv_iload_n hx hb dX11_work_4 rfl (lv_at hl 1 rfl) ?_
  obtain ⟨hi1, hf⟩ := wk_ckE hf
  refine va_iald hx hb hK hP 1 0 rfl rfl hi1 dX11_work_5 ?_
  refine lv_aload_n hx hb dX11_work_6 rfl (lv_at hl 0 rfl) ?_
  refine va_get (D := D) (ci := 11) (v := .ref a_speed) (C := RX11) (T := TX11) (N := 35) hx hb hts in_X11_work_X11 hown hK hP 0 rfl rfl 28 (by decide) (hts (.fieldLink RX11 76 "HangingCardsModel" "speed" "[I") (List.mem_of_getElem? (i := 2) rfl)) (fun _ h9 => h9) rfl dX11_work_7 ?_
  refine lv_iload_n hx hb dX11_work_10 rfl (lv_at hl 1 rfl) ?_
  obtain ⟨hi2, hf⟩ := wk_ckE hf
  refine va_iald hx hb hK hP 2 0 rfl rfl hi2 dX11_work_11 ?_
  refine lv_iadd hx hb dX11_work_12 ?_
  refine lv_iconst (v := (1 : Int32)) hx hb dX11_work_13 (by decide) ?_
  refine lv_isub hx hb dX11_work_14 ?_
  refine lv_aload_n hx hb dX11_work_15 rfl (lv_at hl 0 rfl) ?_
  refine va_get (D := D) (ci := 11) (v := .ref a_speed) (C := RX11) (T := TX11) (N := 35) hx hb hts in_X11_work_X11 hown hK hP 0 rfl rfl 28 (by decide) (hts (.fieldLink RX11 76 "HangingCardsModel" "speed" "[I") (List.mem_of_getElem? (i := 2) rfl)) (fun _ h9 => h9) rfl dX11_work_16 ?_
  refine lv_iload_n hx hb dX11_work_19 rfl (lv_at hl 1 rfl) ?_
  obtain ⟨hi3, hf⟩ := wk_ckE hf
  refine va_iald hx hb hK hP 2 0 rfl rfl hi3 dX11_work_20 ?_
  obtain ⟨hz4, hf⟩ := wk_dvE hf
  refine lv_idiv hx hb dX11_work_21 hz4 ?_
  exact hret _ _ _ _ _ _ dX11_work_22 (wk_rt hf (fun z => z)) rfl hP hD hS
abbrev w_X11_open (cB cI cJ : ClassId) (a_this : Nat) (a_cards : Nat) (a_county : Nat) (a_holes : Nat) (a_text : Nat) (a_letter : Nat) (a_where : Nat) (a_rank : Nat) (a_value : Nat) (a_hour : Nat) (a_readLetter : Nat) (a_readWhere : Nat) (a_readRank : Nat) (a_readValue : Nat) (a_readHour : Nat) (a_listName : Nat) (a_listDay : Nat) (a_voterName : Nat) (a_voterDay : Nat) (a_voterCounty : Nat) (a_heaps : Nat) (a_speed : Nat) (a_four : Nat) (a_byRules : Nat) (a_hours : Nat) (a_rest : Nat) (a_yet : Nat) (a_put : Nat) (v_kept : Int32) (v_length : Int32) (v_items : Int32) (v_readItems : Int32) (v_at : Int32) (v_lists : Int32) (v_voters : Int32) (v_needed : Int32) (v_hour : Nat → Int32) (v_letter : Nat → Int32) (v_rank : Nat → Int32) (v_value : Nat → Int32) (v_where : Nat → Int32) : va_W := [(a_this, .inr (11, [.ref a_cards, .ref a_county, .ref a_holes, .int v_kept, .int v_length, .ref a_text, .int v_items, .ref a_letter, .ref a_where, .ref a_rank, .ref a_value, .ref a_hour, .int v_readItems, .ref a_readLetter, .ref a_readWhere, .ref a_readRank, .ref a_readValue, .ref a_readHour, .int v_at, .int v_lists, .ref a_listName, .ref a_listDay, .int v_voters, .ref a_voterName, .ref a_voterDay, .ref a_voterCounty, .int v_needed, .ref a_heaps, .ref a_speed, .ref a_four, .ref a_byRules, .ref a_hours, .ref a_rest, .ref a_yet, .ref a_put])), (a_hour, .inl (cI, 40, .inl v_hour)), (a_letter, .inl (cI, 40, .inl v_letter)), (a_rank, .inl (cI, 40, .inl v_rank)), (a_value, .inl (cI, 40, .inl v_value)), (a_where, .inl (cI, 40, .inl v_where))]
theorem hd_X11_open : yX11_open.cls = RX11 ∧ yX11_open.cls ≠ "java/lang/invoke/MethodHandle" ∧ yX11_open.cls ≠ "java/lang/invoke/VarHandle" ∧ (parseMethodDescriptor yX11_open.desc).map (fun d => d.parameters.length) = some 1 := by decide +kernel
abbrev rm_X11_open : Room := { frames := 2, cells := 0, slots := 0, locals := 50 }
set_option maxHeartbeats 4000000 in
set_option maxRecDepth 100000 in
theorem c_X11_open (l : Launch) (D : va_G) (cB cI cJ : ClassId) (N : Nat) (a_this : Nat) (a_cards : Nat) (a_county : Nat) (a_holes : Nat) (a_text : Nat) (a_letter : Nat) (a_where : Nat) (a_rank : Nat) (a_value : Nat) (a_hour : Nat) (a_readLetter : Nat) (a_readWhere : Nat) (a_readRank : Nat) (a_readValue : Nat) (a_readHour : Nat) (a_listName : Nat) (a_listDay : Nat) (a_voterName : Nat) (a_voterDay : Nat) (a_voterCounty : Nat) (a_heaps : Nat) (a_speed : Nat) (a_four : Nat) (a_byRules : Nat) (a_hours : Nat) (a_rest : Nat) (a_yet : Nat) (a_put : Nat) (v_kept : Int32) (v_length : Int32) (v_items : Int32) (v_readItems : Int32) (v_at : Int32) (v_lists : Int32) (v_voters : Int32) (v_needed : Int32) (v_hour : Nat → Int32) (v_letter : Nat → Int32) (v_rank : Nat → Int32) (v_value : Nat → Int32) (v_where : Nat → Int32) (x1 : Int32) {r : Int32} (hf : f_X11_open N v_items v_hour v_letter v_rank v_value v_where x1 = some r) : MTi l yX11_open wsX11_open rm_X11_open D (wk_T cB cI cJ) [.ref a_this, .int x1] (w_X11_open cB cI cJ a_this a_cards a_county a_holes a_text a_letter a_where a_rank a_value a_hour a_readLetter a_readWhere a_readRank a_readValue a_readHour a_listName a_listDay a_voterName a_voterDay a_voterCounty a_heaps a_speed a_four a_byRules a_hours a_rest a_yet a_put v_kept v_length v_items v_readItems v_at v_lists v_voters v_needed v_hour v_letter v_rank v_value v_where) (w_X11_open cB cI cJ a_this a_cards a_county a_holes a_text a_letter a_where a_rank a_value a_hour a_readLetter a_readWhere a_readRank a_readValue a_readHour a_listName a_listDay a_voterName a_voterDay a_voterCounty a_heaps a_speed a_four a_byRules a_hours a_rest a_yet a_put v_kept v_length v_items v_readItems v_at v_lists v_voters v_needed v_hour v_letter v_rank v_value v_where) r := by
  refine MTi.of (cc := cX11_open) (nL := 4) (rt := .int) (own := RX11) pn_X11 rfl rfl (Nat.le_of_ble_eq_true rfl) rfl ?_
  intro p e s m args below meth c A ls Q C hP hD hS hl hret
  obtain ⟨hx, hb, hml, hts, hown, hK, hN, hA, hlk⟩ := id C
  have hl : lv_has ls 4 [(0, .ref a_this), (1, .int x1)] := hl
  have L4 := wk_loopI (F := (fun k4 : Int32 → Int32 → Int32 → Option Int32 => B_X11_open_4 N v_items v_hour v_letter v_rank v_value v_where k4)) (bot := fun _ _ _ => none) (fun k4 : Int32 → Int32 → Int32 → Option Int32 => ∀ (x1 : Int32) (x2 : Int32) (x3 : Int32), k4 x1 x2 x3 = some r → ∀ (H : Heap) (locs : List Loc) (ls : Array Slot), va_P D vwCl (w_X11_open cB cI cJ a_this a_cards a_county a_holes a_text a_letter a_where a_rank a_value a_hour a_readLetter a_readWhere a_readRank a_readValue a_readHour a_listName a_listDay a_voterName a_voterDay a_voterCounty a_heaps a_speed a_four a_byRules a_hours a_rest a_yet a_put v_kept v_length v_items v_readItems v_at v_lists v_voters v_needed v_hour v_letter v_rank v_value v_where) H → va_D A (w_X11_open cB cI cJ a_this a_cards a_county a_holes a_text a_letter a_where a_rank a_value a_hour a_readLetter a_readWhere a_readRank a_readValue a_readHour a_listName a_listDay a_voterName a_voterDay a_voterCounty a_heaps a_speed a_four a_byRules a_hours a_rest a_yet a_put v_kept v_length v_items v_readItems v_at v_lists v_voters v_needed v_hour v_letter v_rank v_value v_where) → va_S A s.heap H locs → lv_has ls 4 [(0, .ref a_this), (1, .int x1), (2, .int x2), (3, .int x3)] → W p l e rm_X11_open s m args below meth c H locs 0 0 Q (F0 m 4 ls [])) (by intro x1 x2 x3 hf; exact wk_no hf) (by
    intro k4 ih4
    intro x1 x2 x3 hf H locs ls hP hD hS hl
    have hf : B_X11_open_4 N v_items v_hour v_letter v_rank v_value v_where k4 x1 x2 x3 = some r := hf
    unfold B_X11_open_4 at hf
    refine lv_iload_n hx hb dX11_open_4 rfl (lv_at hl 3 rfl) ?_
    refine lv_iconst (v := (5 : Int32)) hx hb dX11_open_5 (by decide) ?_
    refine lv_icmp_ge (tgt := 36) hx hb dX11_open_6 (by decide) (fun c1 => ?_) (fun c1 => ?_)
    · have hf := wk_itT hf c1
      refine lv_iload_n hx hb dX11_open_36 rfl (lv_at hl 2 rfl) ?_
      exact hret _ _ _ _ _ _ dX11_open_37 (wk_rt hf (fun z => z)) rfl hP hD hS
    · have hf := wk_itF hf c1
      refine lv_iload_n hx hb dX11_open_9 rfl (lv_at hl 2 rfl) ?_
      refine lv_aload_n hx hb dX11_open_10 rfl (lv_at hl 0 rfl) ?_
      refine lv_iconst (v := (3 : Int32)) hx hb dX11_open_11 (by decide) ?_
      refine lv_iload_n hx hb dX11_open_12 rfl (lv_at hl 3 rfl) ?_
      refine lv_iload_n hx hb dX11_open_13 rfl (lv_at hl 1 rfl) ?_
      obtain ⟨r2, hc2, hf⟩ := wk_b1E hf
      refine wk_callVi2 C hP hD hS (c_X11_ruleOf l D cB cI cJ N a_this a_cards a_county a_holes a_text a_letter a_where a_rank a_value a_hour a_readLetter a_readWhere a_readRank a_readValue a_readHour a_listName a_listDay a_voterName a_voterDay a_voterCounty a_heaps a_speed a_four a_byRules a_hours a_rest a_yet a_put v_kept v_length v_items v_readItems v_at v_lists v_voters v_needed v_hour v_letter v_rank v_value v_where (3 : Int32) x3 x1 hc2) (cwV 3 hts gX11_open_X11_ruleOf rfl rfl rfl hd_X11_ruleOf ⟨Nat.le_of_ble_eq_true rfl, Nat.le_of_ble_eq_true rfl⟩) hl.1 ⟨Nat.zero_le _, Nat.zero_le _⟩ [0, 1, 2, 3, 4, 5] [] 6 (by decide +kernel) rfl (Wn := w_X11_open cB cI cJ a_this a_cards a_county a_holes a_text a_letter a_where a_rank a_value a_hour a_readLetter a_readWhere a_readRank a_readValue a_readHour a_listName a_listDay a_voterName a_voterDay a_voterCounty a_heaps a_speed a_four a_byRules a_hours a_rest a_yet a_put v_kept v_length v_items v_readItems v_at v_lists v_voters v_needed v_hour v_letter v_rank v_value v_where) rfl rfl rfl rfl rfl rfl (ci := 11) rfl rfl (q0 := 0) rfl rfl rfl (Nat.le_of_ble_eq_true rfl) dX11_open_14 (fun H locs hP hD hS => ?_)
      refine lv_iconst (v := (1 : Int32)) hx hb dX11_open_17 (by decide) ?_
      refine lv_icmp_ne (tgt := 27) hx hb dX11_open_18 (by decide) (fun c3 => ?_) (fun c3 => ?_)
      · have hf := wk_itF hf c3
        refine lv_iconst (v := (0 : Int32)) hx hb dX11_open_27 (by decide) ?_
        refine lv_ior hx hb dX11_open_28 ?_
        refine lv_topi (fun y4 ey4 => ?_)
        have hf := wk_nmE hf ey4
        refine lv_istore_n (lv' := [(2, .int y4), (0, .ref a_this), (1, .int x1), (3, .int x3)]) hx hb dX11_open_29 rfl hl (by decide) rfl (fun ls hl => ?_)
        obtain ⟨y5, ey5⟩ : ∃ y : Int32, y = x3 + (1 : Int32) := ⟨_, rfl⟩
        have hf := wk_nmE hf ey5
        refine lv_iinc (v := y5) (lv' := [(3, .int y5), (2, .int y4), (0, .ref a_this), (1, .int x1)]) hx hb dX11_open_30 hl (k := 3) rfl (by rw [ey5]; rfl) (by decide) rfl (fun ls hl => ?_)
        refine lv_goto (tgt := 4) hx hb dX11_open_33 (by decide) ?_
        exact ih4 _ _ _ hf _ _ _ hP hD hS (lv_sub hl [2, 3, 1, 0] rfl)
      · have hf := wk_itT hf c3
        refine lv_iconst (v := (1 : Int32)) hx hb dX11_open_21 (by decide) ?_
        refine lv_iload_n hx hb dX11_open_22 rfl (lv_at hl 3 rfl) ?_
        refine lv_ishl hx hb dX11_open_23 ?_
        refine lv_goto (tgt := 28) hx hb dX11_open_24 (by decide) ?_
        refine lv_ior hx hb dX11_open_28 ?_
        refine lv_topi (fun y6 ey6 => ?_)
        have hf := wk_nmE hf ey6
        refine lv_istore_n (lv' := [(2, .int y6), (0, .ref a_this), (1, .int x1), (3, .int x3)]) hx hb dX11_open_29 rfl hl (by decide) rfl (fun ls hl => ?_)
        obtain ⟨y7, ey7⟩ : ∃ y : Int32, y = x3 + (1 : Int32) := ⟨_, rfl⟩
        have hf := wk_nmE hf ey7
        refine lv_iinc (v := y7) (lv' := [(3, .int y7), (2, .int y6), (0, .ref a_this), (1, .int x1)]) hx hb dX11_open_30 hl (k := 3) rfl (by rw [ey7]; rfl) (by decide) rfl (fun ls hl => ?_)
        refine lv_goto (tgt := 4) hx hb dX11_open_33 (by decide) ?_
        exact ih4 _ _ _ hf _ _ _ hP hD hS (lv_sub hl [2, 3, 1, 0] rfl))
  unfold f_X11_open at hf
  refine lv_iconst (v := (0 : Int32)) hx hb dX11_open_0 (by decide) ?_
  refine lv_istore_n (lv' := [(2, .int (0 : Int32)), (0, .ref a_this), (1, .int x1)]) hx hb dX11_open_1 rfl hl (by decide) rfl (fun ls hl => ?_)
  refine lv_iconst (v := (0 : Int32)) hx hb dX11_open_2 (by decide) ?_
  refine lv_istore_n (lv' := [(3, .int (0 : Int32)), (2, .int (0 : Int32)), (0, .ref a_this), (1, .int x1)]) hx hb dX11_open_3 rfl hl (by decide) rfl (fun ls hl => ?_)
  exact L4 N _ _ _ hf _ _ _ hP hD hS (lv_sub hl [2, 3, 1, 0] rfl)
abbrev w_X11_adds (cB cI cJ : ClassId) (a_this : Nat) (a_cards : Nat) (a_county : Nat) (a_holes : Nat) (a_text : Nat) (a_letter : Nat) (a_where : Nat) (a_rank : Nat) (a_value : Nat) (a_hour : Nat) (a_readLetter : Nat) (a_readWhere : Nat) (a_readRank : Nat) (a_readValue : Nat) (a_readHour : Nat) (a_listName : Nat) (a_listDay : Nat) (a_voterName : Nat) (a_voterDay : Nat) (a_voterCounty : Nat) (a_heaps : Nat) (a_speed : Nat) (a_four : Nat) (a_byRules : Nat) (a_hours : Nat) (a_rest : Nat) (a_yet : Nat) (a_put : Nat) (v_kept : Int32) (v_length : Int32) (v_items : Int32) (v_readItems : Int32) (v_at : Int32) (v_lists : Int32) (v_voters : Int32) (v_needed : Int32) (v_hour : Nat → Int32) (v_hours : Nat → Int32) (v_letter : Nat → Int32) (v_rank : Nat → Int32) (v_value : Nat → Int32) (v_where : Nat → Int32) : va_W := [(a_this, .inr (11, [.ref a_cards, .ref a_county, .ref a_holes, .int v_kept, .int v_length, .ref a_text, .int v_items, .ref a_letter, .ref a_where, .ref a_rank, .ref a_value, .ref a_hour, .int v_readItems, .ref a_readLetter, .ref a_readWhere, .ref a_readRank, .ref a_readValue, .ref a_readHour, .int v_at, .int v_lists, .ref a_listName, .ref a_listDay, .int v_voters, .ref a_voterName, .ref a_voterDay, .ref a_voterCounty, .int v_needed, .ref a_heaps, .ref a_speed, .ref a_four, .ref a_byRules, .ref a_hours, .ref a_rest, .ref a_yet, .ref a_put])), (a_hour, .inl (cI, 40, .inl v_hour)), (a_hours, .inl (cI, 32, .inl v_hours)), (a_letter, .inl (cI, 40, .inl v_letter)), (a_rank, .inl (cI, 40, .inl v_rank)), (a_value, .inl (cI, 40, .inl v_value)), (a_where, .inl (cI, 40, .inl v_where))]
theorem hd_X11_adds : yX11_adds.cls = RX11 ∧ yX11_adds.cls ≠ "java/lang/invoke/MethodHandle" ∧ yX11_adds.cls ≠ "java/lang/invoke/VarHandle" ∧ (parseMethodDescriptor yX11_adds.desc).map (fun d => d.parameters.length) = some 1 := by decide +kernel
abbrev rm_X11_adds : Room := { frames := 3, cells := 0, slots := 0, locals := 73 }
theorem in_X11_adds_X11 : ∀ w ∈ wsX110, w ∈ wsX11_adds := fun w h => List.mem_cons_of_mem _ (List.mem_append_right _ h)
set_option maxHeartbeats 4000000 in
set_option maxRecDepth 100000 in
theorem c_X11_adds (l : Launch) (D : va_G) (cB cI cJ : ClassId) (N : Nat) (a_this : Nat) (a_cards : Nat) (a_county : Nat) (a_holes : Nat) (a_text : Nat) (a_letter : Nat) (a_where : Nat) (a_rank : Nat) (a_value : Nat) (a_hour : Nat) (a_readLetter : Nat) (a_readWhere : Nat) (a_readRank : Nat) (a_readValue : Nat) (a_readHour : Nat) (a_listName : Nat) (a_listDay : Nat) (a_voterName : Nat) (a_voterDay : Nat) (a_voterCounty : Nat) (a_heaps : Nat) (a_speed : Nat) (a_four : Nat) (a_byRules : Nat) (a_hours : Nat) (a_rest : Nat) (a_yet : Nat) (a_put : Nat) (v_kept : Int32) (v_length : Int32) (v_items : Int32) (v_readItems : Int32) (v_at : Int32) (v_lists : Int32) (v_voters : Int32) (v_needed : Int32) (v_hour : Nat → Int32) (v_hours : Nat → Int32) (v_letter : Nat → Int32) (v_rank : Nat → Int32) (v_value : Nat → Int32) (v_where : Nat → Int32) (x1 : Int32) {o_hours : Nat → Int32} (hf : f_X11_adds N v_items v_hour v_letter v_rank v_value v_where v_hours x1 = some o_hours) : MTv l yX11_adds wsX11_adds rm_X11_adds D (wk_T cB cI cJ) [.ref a_this, .int x1] (w_X11_adds cB cI cJ a_this a_cards a_county a_holes a_text a_letter a_where a_rank a_value a_hour a_readLetter a_readWhere a_readRank a_readValue a_readHour a_listName a_listDay a_voterName a_voterDay a_voterCounty a_heaps a_speed a_four a_byRules a_hours a_rest a_yet a_put v_kept v_length v_items v_readItems v_at v_lists v_voters v_needed v_hour v_hours v_letter v_rank v_value v_where) (w_X11_adds cB cI cJ a_this a_cards a_county a_holes a_text a_letter a_where a_rank a_value a_hour a_readLetter a_readWhere a_readRank a_readValue a_readHour a_listName a_listDay a_voterName a_voterDay a_voterCounty a_heaps a_speed a_four a_byRules a_hours a_rest a_yet a_put v_kept v_length v_items v_readItems v_at v_lists v_voters v_needed v_hour o_hours v_letter v_rank v_value v_where) := by
  refine MTv.of (cc := cX11_adds) (nL := 4) (own := RX11) pn_X11 rfl rfl (Nat.le_of_ble_eq_true rfl) ?_
  intro p e s m args below meth c A ls Q C hP hD hS hl hret
  obtain ⟨hx, hb, hml, hts, hown, hK, hN, hA, hlk⟩ := id C
  have hl : lv_has ls 4 [(0, .ref a_this), (1, .int x1)] := hl
  have L8 := wk_loopI (F := (fun k8 : (Nat → Int32) → Int32 → Int32 → Option (Nat → Int32) => B_X11_adds_8 N v_items v_hour v_letter v_rank v_value v_where k8)) (bot := fun _ _ _ => none) (fun k8 : (Nat → Int32) → Int32 → Int32 → Option (Nat → Int32) => ∀ (v_hours : Nat → Int32) (x2 : Int32) (x3 : Int32), k8 v_hours x2 x3 = some o_hours → ∀ (H : Heap) (locs : List Loc) (ls : Array Slot), va_P D vwCl (w_X11_adds cB cI cJ a_this a_cards a_county a_holes a_text a_letter a_where a_rank a_value a_hour a_readLetter a_readWhere a_readRank a_readValue a_readHour a_listName a_listDay a_voterName a_voterDay a_voterCounty a_heaps a_speed a_four a_byRules a_hours a_rest a_yet a_put v_kept v_length v_items v_readItems v_at v_lists v_voters v_needed v_hour v_hours v_letter v_rank v_value v_where) H → va_D A (w_X11_adds cB cI cJ a_this a_cards a_county a_holes a_text a_letter a_where a_rank a_value a_hour a_readLetter a_readWhere a_readRank a_readValue a_readHour a_listName a_listDay a_voterName a_voterDay a_voterCounty a_heaps a_speed a_four a_byRules a_hours a_rest a_yet a_put v_kept v_length v_items v_readItems v_at v_lists v_voters v_needed v_hour v_hours v_letter v_rank v_value v_where) → va_S A s.heap H locs → lv_has ls 4 [(0, .ref a_this), (2, .int x2), (3, .int x3)] → W p l e rm_X11_adds s m args below meth c H locs 0 0 Q (F0 m 8 ls [])) (by intro v_hours x2 x3 hf; exact wk_no hf) (by
    intro k8 ih8
    have J32 : ∀ (v_hours : Nat → Int32) (x2 : Int32) (x3 : Int32) (s1 : Int32) (s2 : Int32) (s3 : Int32), B_X11_adds_32 N v_items v_hour v_letter v_rank v_value v_where k8 v_hours x2 x3 s1 s2 s3 = some o_hours → ∀ (H : Heap) (locs : List Loc) (ls : Array Slot), va_P D vwCl (w_X11_adds cB cI cJ a_this a_cards a_county a_holes a_text a_letter a_where a_rank a_value a_hour a_readLetter a_readWhere a_readRank a_readValue a_readHour a_listName a_listDay a_voterName a_voterDay a_voterCounty a_heaps a_speed a_four a_byRules a_hours a_rest a_yet a_put v_kept v_length v_items v_readItems v_at v_lists v_voters v_needed v_hour v_hours v_letter v_rank v_value v_where) H → va_D A (w_X11_adds cB cI cJ a_this a_cards a_county a_holes a_text a_letter a_where a_rank a_value a_hour a_readLetter a_readWhere a_readRank a_readValue a_readHour a_listName a_listDay a_voterName a_voterDay a_voterCounty a_heaps a_speed a_four a_byRules a_hours a_rest a_yet a_put v_kept v_length v_items v_readItems v_at v_lists v_voters v_needed v_hour v_hours v_letter v_rank v_value v_where) → va_S A s.heap H locs → lv_has ls 4 [(0, .ref a_this), (2, .int x2), (3, .int x3)] → W p l e rm_X11_adds s m args below meth c H locs 0 0 Q (F0 m 32 ls [.int s3, .int s2, .int s1, .ref a_hours]) := by
      intro v_hours x2 x3 s1 s2 s3 hf H locs ls hP hD hS hl
      unfold B_X11_adds_32 at hf
      refine lv_iadd hx hb dX11_adds_32 ?_
      obtain ⟨hi1, hf⟩ := wk_ckE hf
      refine va_iast hx hb hK hP hD hS 2 0 rfl rfl hi1 dX11_adds_33 (fun H locs hP hD hS => ?_)
      have hP : va_P D vwCl (w_X11_adds cB cI cJ a_this a_cards a_county a_holes a_text a_letter a_where a_rank a_value a_hour a_readLetter a_readWhere a_readRank a_readValue a_readHour a_listName a_listDay a_voterName a_voterDay a_voterCounty a_heaps a_speed a_four a_byRules a_hours a_rest a_yet a_put v_kept v_length v_items v_readItems v_at v_lists v_voters v_needed v_hour (upd v_hours s1.toNatClampNeg (s2 + s3)) v_letter v_rank v_value v_where) H := hP
      have hD : va_D A (w_X11_adds cB cI cJ a_this a_cards a_county a_holes a_text a_letter a_where a_rank a_value a_hour a_readLetter a_readWhere a_readRank a_readValue a_readHour a_listName a_listDay a_voterName a_voterDay a_voterCounty a_heaps a_speed a_four a_byRules a_hours a_rest a_yet a_put v_kept v_length v_items v_readItems v_at v_lists v_voters v_needed v_hour (upd v_hours s1.toNatClampNeg (s2 + s3)) v_letter v_rank v_value v_where) := hD
      obtain ⟨y2, ey2⟩ : ∃ y : Int32, y = x3 + (1 : Int32) := ⟨_, rfl⟩
      have hf := wk_nmE hf ey2
      refine lv_iinc (v := y2) (lv' := [(3, .int y2), (0, .ref a_this), (2, .int x2)]) hx hb dX11_adds_34 hl (k := 2) rfl (by rw [ey2]; rfl) (by decide) rfl (fun ls hl => ?_)
      refine lv_goto (tgt := 8) hx hb dX11_adds_37 (by decide) ?_
      exact ih8 _ _ _ hf _ _ _ hP hD hS (lv_sub hl [1, 2, 0] rfl)
    intro v_hours x2 x3 hf H locs ls hP hD hS hl
    have hf : B_X11_adds_8 N v_items v_hour v_letter v_rank v_value v_where k8 v_hours x2 x3 = some o_hours := hf
    unfold B_X11_adds_8 at hf
    refine lv_iload_n hx hb dX11_adds_8 rfl (lv_at hl 2 rfl) ?_
    refine lv_bipush (v := (32 : Int32)) hx hb dX11_adds_9 (by decide) ?_
    refine lv_icmp_ge (tgt := 40) hx hb dX11_adds_11 (by decide) (fun c3 => ?_) (fun c3 => ?_)
    · have hf := wk_itT hf c3
      exact hret _ _ _ _ _ dX11_adds_40 (wk_rt hf (fun z => w_X11_adds cB cI cJ a_this a_cards a_county a_holes a_text a_letter a_where a_rank a_value a_hour a_readLetter a_readWhere a_readRank a_readValue a_readHour a_listName a_listDay a_voterName a_voterDay a_voterCounty a_heaps a_speed a_four a_byRules a_hours a_rest a_yet a_put v_kept v_length v_items v_readItems v_at v_lists v_voters v_needed v_hour z v_letter v_rank v_value v_where)) hP hD hS
    · have hf := wk_itF hf c3
      refine lv_aload_n hx hb dX11_adds_14 rfl (lv_at hl 0 rfl) ?_
      refine va_get (D := D) (ci := 11) (v := .ref a_hours) (C := RX11) (T := TX11) (N := 35) hx hb hts in_X11_adds_X11 hown hK hP 0 rfl rfl 31 (by decide) (hts (.fieldLink RX11 85 "HangingCardsModel" "hours" "[I") (List.mem_of_getElem? (i := 1) rfl)) (fun _ h9 => h9) rfl dX11_adds_15 ?_
      refine lv_iload_n hx hb dX11_adds_18 rfl (lv_at hl 2 rfl) ?_
      refine lv_dup2_11 hx hb dX11_adds_19 rfl rfl ?_
      obtain ⟨hi4, hf⟩ := wk_ckE hf
      refine va_iald hx hb hK hP 2 0 rfl rfl hi4 dX11_adds_20 ?_
      refine lv_iload_n hx hb dX11_adds_21 rfl (lv_at hl 2 rfl) ?_
      refine lv_iload_n hx hb dX11_adds_22 rfl (lv_at hl 1 rfl) ?_
      refine lv_iand hx hb dX11_adds_23 ?_
      refine lv_if_eq (tgt := 31) hx hb dX11_adds_24 (by decide) (fun c5 => ?_) (fun c5 => ?_)
      · have hf := wk_itT hf c5
        refine lv_iconst (v := (0 : Int32)) hx hb dX11_adds_31 (by decide) ?_
        exact J32 _ _ _ _ _ _ hf _ _ _ hP hD hS (lv_sub hl [0, 1, 2] rfl)
      · have hf := wk_itF hf c5
        refine lv_iconst (v := (1 : Int32)) hx hb dX11_adds_27 (by decide) ?_
        refine lv_goto (tgt := 32) hx hb dX11_adds_28 (by decide) ?_
        exact J32 _ _ _ _ _ _ hf _ _ _ hP hD hS (lv_sub hl [0, 1, 2] rfl))
  unfold f_X11_adds at hf
  refine lv_aload_n hx hb dX11_adds_0 rfl (lv_at hl 0 rfl) ?_
  refine lv_iload_n hx hb dX11_adds_1 rfl (lv_at hl 1 rfl) ?_
  obtain ⟨r6, hc6, hf⟩ := wk_b1E hf
  refine wk_callVi2 C hP hD hS (c_X11_open l D cB cI cJ N a_this a_cards a_county a_holes a_text a_letter a_where a_rank a_value a_hour a_readLetter a_readWhere a_readRank a_readValue a_readHour a_listName a_listDay a_voterName a_voterDay a_voterCounty a_heaps a_speed a_four a_byRules a_hours a_rest a_yet a_put v_kept v_length v_items v_readItems v_at v_lists v_voters v_needed v_hour v_letter v_rank v_value v_where x1 hc6) (cwV 1 hts gX11_adds_X11_open rfl rfl rfl hd_X11_open ⟨Nat.le_of_ble_eq_true rfl, Nat.le_of_ble_eq_true rfl⟩) hl.1 ⟨Nat.zero_le _, Nat.zero_le _⟩ [0, 1, 3, 4, 5, 6] [2] 7 (by decide +kernel) rfl (Wn := w_X11_adds cB cI cJ a_this a_cards a_county a_holes a_text a_letter a_where a_rank a_value a_hour a_readLetter a_readWhere a_readRank a_readValue a_readHour a_listName a_listDay a_voterName a_voterDay a_voterCounty a_heaps a_speed a_four a_byRules a_hours a_rest a_yet a_put v_kept v_length v_items v_readItems v_at v_lists v_voters v_needed v_hour v_hours v_letter v_rank v_value v_where) rfl rfl rfl rfl rfl rfl (ci := 11) rfl rfl (q0 := 0) rfl rfl rfl (Nat.le_of_ble_eq_true rfl) dX11_adds_2 (fun H locs hP hD hS => ?_)
  refine lv_istore_n (lv' := [(2, .int r6), (0, .ref a_this), (1, .int x1)]) hx hb dX11_adds_5 rfl hl (by decide) rfl (fun ls hl => ?_)
  refine lv_iconst (v := (0 : Int32)) hx hb dX11_adds_6 (by decide) ?_
  refine lv_istore_n (lv' := [(3, .int (0 : Int32)), (2, .int r6), (0, .ref a_this), (1, .int x1)]) hx hb dX11_adds_7 rfl hl (by decide) rfl (fun ls hl => ?_)
  exact L8 N _ _ _ hf _ _ _ hP hD hS (lv_sub hl [2, 1, 0] rfl)
abbrev w_X11_opens (cB cI cJ : ClassId) (a_this : Nat) (a_cards : Nat) (a_county : Nat) (a_holes : Nat) (a_text : Nat) (a_letter : Nat) (a_where : Nat) (a_rank : Nat) (a_value : Nat) (a_hour : Nat) (a_readLetter : Nat) (a_readWhere : Nat) (a_readRank : Nat) (a_readValue : Nat) (a_readHour : Nat) (a_listName : Nat) (a_listDay : Nat) (a_voterName : Nat) (a_voterDay : Nat) (a_voterCounty : Nat) (a_heaps : Nat) (a_speed : Nat) (a_four : Nat) (a_byRules : Nat) (a_hours : Nat) (a_rest : Nat) (a_yet : Nat) (a_put : Nat) (v_kept : Int32) (v_length : Int32) (v_items : Int32) (v_readItems : Int32) (v_at : Int32) (v_lists : Int32) (v_voters : Int32) (v_needed : Int32) (v_hour : Nat → Int32) (v_hours : Nat → Int32) (v_letter : Nat → Int32) (v_rank : Nat → Int32) (v_value : Nat → Int32) (v_where : Nat → Int32) : va_W := [(a_this, .inr (11, [.ref a_cards, .ref a_county, .ref a_holes, .int v_kept, .int v_length, .ref a_text, .int v_items, .ref a_letter, .ref a_where, .ref a_rank, .ref a_value, .ref a_hour, .int v_readItems, .ref a_readLetter, .ref a_readWhere, .ref a_readRank, .ref a_readValue, .ref a_readHour, .int v_at, .int v_lists, .ref a_listName, .ref a_listDay, .int v_voters, .ref a_voterName, .ref a_voterDay, .ref a_voterCounty, .int v_needed, .ref a_heaps, .ref a_speed, .ref a_four, .ref a_byRules, .ref a_hours, .ref a_rest, .ref a_yet, .ref a_put])), (a_hour, .inl (cI, 40, .inl v_hour)), (a_hours, .inl (cI, 32, .inl v_hours)), (a_letter, .inl (cI, 40, .inl v_letter)), (a_rank, .inl (cI, 40, .inl v_rank)), (a_value, .inl (cI, 40, .inl v_value)), (a_where, .inl (cI, 40, .inl v_where))]
theorem hd_X11_opens : yX11_opens.cls = RX11 ∧ yX11_opens.cls ≠ "java/lang/invoke/MethodHandle" ∧ yX11_opens.cls ≠ "java/lang/invoke/VarHandle" ∧ (parseMethodDescriptor yX11_opens.desc).map (fun d => d.parameters.length) = some 2 := by decide +kernel
abbrev rm_X11_opens : Room := { frames := 4, cells := 0, slots := 0, locals := 96 }
theorem in_X11_opens_X11 : ∀ w ∈ wsX110, w ∈ wsX11_opens := fun w h => List.mem_cons_of_mem _ (List.mem_append_right _ h)
set_option maxHeartbeats 4000000 in
set_option maxRecDepth 100000 in
theorem c_X11_opens (l : Launch) (D : va_G) (cB cI cJ : ClassId) (N : Nat) (a_this : Nat) (a_cards : Nat) (a_county : Nat) (a_holes : Nat) (a_text : Nat) (a_letter : Nat) (a_where : Nat) (a_rank : Nat) (a_value : Nat) (a_hour : Nat) (a_readLetter : Nat) (a_readWhere : Nat) (a_readRank : Nat) (a_readValue : Nat) (a_readHour : Nat) (a_listName : Nat) (a_listDay : Nat) (a_voterName : Nat) (a_voterDay : Nat) (a_voterCounty : Nat) (a_heaps : Nat) (a_speed : Nat) (a_four : Nat) (a_byRules : Nat) (a_hours : Nat) (a_rest : Nat) (a_yet : Nat) (a_put : Nat) (v_kept : Int32) (v_length : Int32) (v_items : Int32) (v_readItems : Int32) (v_at : Int32) (v_lists : Int32) (v_voters : Int32) (v_needed : Int32) (v_hour : Nat → Int32) (v_hours : Nat → Int32) (v_letter : Nat → Int32) (v_rank : Nat → Int32) (v_value : Nat → Int32) (v_where : Nat → Int32) (x1 : Int32) (x2 : Int32) {o_hours : Nat → Int32} (hf : f_X11_opens N v_items v_hour v_letter v_rank v_value v_where v_hours x1 x2 = some o_hours) : MTv l yX11_opens wsX11_opens rm_X11_opens D (wk_T cB cI cJ) [.ref a_this, .int x1, .int x2] (w_X11_opens cB cI cJ a_this a_cards a_county a_holes a_text a_letter a_where a_rank a_value a_hour a_readLetter a_readWhere a_readRank a_readValue a_readHour a_listName a_listDay a_voterName a_voterDay a_voterCounty a_heaps a_speed a_four a_byRules a_hours a_rest a_yet a_put v_kept v_length v_items v_readItems v_at v_lists v_voters v_needed v_hour v_hours v_letter v_rank v_value v_where) (w_X11_opens cB cI cJ a_this a_cards a_county a_holes a_text a_letter a_where a_rank a_value a_hour a_readLetter a_readWhere a_readRank a_readValue a_readHour a_listName a_listDay a_voterName a_voterDay a_voterCounty a_heaps a_speed a_four a_byRules a_hours a_rest a_yet a_put v_kept v_length v_items v_readItems v_at v_lists v_voters v_needed v_hour o_hours v_letter v_rank v_value v_where) := by
  refine MTv.of (cc := cX11_opens) (nL := 4) (own := RX11) pn_X11 rfl rfl (Nat.le_of_ble_eq_true rfl) ?_
  intro p e s m args below meth c A ls Q C hP hD hS hl hret
  obtain ⟨hx, hb, hml, hts, hown, hK, hN, hA, hlk⟩ := id C
  have hl : lv_has ls 4 [(0, .ref a_this), (1, .int x1), (2, .int x2)] := hl
  have L23 := wk_loopI (F := (fun k23 : (Nat → Int32) → Int32 → Int32 → Option (Nat → Int32) => B_X11_opens_23 N v_items v_hour v_letter v_rank v_value v_where k23)) (bot := fun _ _ _ => none) (fun k23 : (Nat → Int32) → Int32 → Int32 → Option (Nat → Int32) => ∀ (v_hours : Nat → Int32) (x2 : Int32) (x3 : Int32), k23 v_hours x2 x3 = some o_hours → ∀ (H : Heap) (locs : List Loc) (ls : Array Slot), va_P D vwCl (w_X11_opens cB cI cJ a_this a_cards a_county a_holes a_text a_letter a_where a_rank a_value a_hour a_readLetter a_readWhere a_readRank a_readValue a_readHour a_listName a_listDay a_voterName a_voterDay a_voterCounty a_heaps a_speed a_four a_byRules a_hours a_rest a_yet a_put v_kept v_length v_items v_readItems v_at v_lists v_voters v_needed v_hour v_hours v_letter v_rank v_value v_where) H → va_D A (w_X11_opens cB cI cJ a_this a_cards a_county a_holes a_text a_letter a_where a_rank a_value a_hour a_readLetter a_readWhere a_readRank a_readValue a_readHour a_listName a_listDay a_voterName a_voterDay a_voterCounty a_heaps a_speed a_four a_byRules a_hours a_rest a_yet a_put v_kept v_length v_items v_readItems v_at v_lists v_voters v_needed v_hour v_hours v_letter v_rank v_value v_where) → va_S A s.heap H locs → lv_has ls 4 [(0, .ref a_this), (2, .int x2), (3, .int x3)] → W p l e rm_X11_opens s m args below meth c H locs 0 0 Q (F0 m 23 ls [])) (by intro v_hours x2 x3 hf; exact wk_no hf) (by
    intro k23 ih23
    intro v_hours x2 x3 hf H locs ls hP hD hS hl
    have hf : B_X11_opens_23 N v_items v_hour v_letter v_rank v_value v_where k23 v_hours x2 x3 = some o_hours := hf
    unfold B_X11_opens_23 at hf
    refine lv_iload_n hx hb dX11_opens_23 rfl (lv_at hl 2 rfl) ?_
    refine lv_iload_n hx hb dX11_opens_24 rfl (lv_at hl 1 rfl) ?_
    refine lv_icmp_ge (tgt := 39) hx hb dX11_opens_25 (by decide) (fun c1 => ?_) (fun c1 => ?_)
    · have hf := wk_itT hf c1
      exact hret _ _ _ _ _ dX11_opens_39 (wk_rt hf (fun z => w_X11_opens cB cI cJ a_this a_cards a_county a_holes a_text a_letter a_where a_rank a_value a_hour a_readLetter a_readWhere a_readRank a_readValue a_readHour a_listName a_listDay a_voterName a_voterDay a_voterCounty a_heaps a_speed a_four a_byRules a_hours a_rest a_yet a_put v_kept v_length v_items v_readItems v_at v_lists v_voters v_needed v_hour z v_letter v_rank v_value v_where)) hP hD hS
    · have hf := wk_itF hf c1
      refine lv_aload_n hx hb dX11_opens_28 rfl (lv_at hl 0 rfl) ?_
      refine lv_iload_n hx hb dX11_opens_29 rfl (lv_at hl 2 rfl) ?_
      obtain ⟨o2_0, hc2, hf⟩ := wk_b1E hf
      refine wk_callVv2 C hP hD hS (c_X11_adds l D cB cI cJ N a_this a_cards a_county a_holes a_text a_letter a_where a_rank a_value a_hour a_readLetter a_readWhere a_readRank a_readValue a_readHour a_listName a_listDay a_voterName a_voterDay a_voterCounty a_heaps a_speed a_four a_byRules a_hours a_rest a_yet a_put v_kept v_length v_items v_readItems v_at v_lists v_voters v_needed v_hour v_hours v_letter v_rank v_value v_where x3 hc2) (cwV 1 hts gX11_opens_X11_adds rfl rfl rfl hd_X11_adds ⟨Nat.le_of_ble_eq_true rfl, Nat.le_of_ble_eq_true rfl⟩) hl.1 ⟨Nat.zero_le _, Nat.zero_le _⟩ [0, 1, 2, 3, 4, 5, 6] [] 7 (by decide +kernel) rfl (Wn := w_X11_opens cB cI cJ a_this a_cards a_county a_holes a_text a_letter a_where a_rank a_value a_hour a_readLetter a_readWhere a_readRank a_readValue a_readHour a_listName a_listDay a_voterName a_voterDay a_voterCounty a_heaps a_speed a_four a_byRules a_hours a_rest a_yet a_put v_kept v_length v_items v_readItems v_at v_lists v_voters v_needed v_hour o2_0 v_letter v_rank v_value v_where) rfl rfl rfl rfl rfl rfl (ci := 11) rfl rfl (q0 := 0) rfl rfl rfl (Nat.le_of_ble_eq_true rfl) dX11_opens_30 (fun H locs hP hD hS => ?_)
      obtain ⟨y3, ey3⟩ : ∃ y : Int32, y = x3 + (1 : Int32) := ⟨_, rfl⟩
      have hf := wk_nmE hf ey3
      refine lv_iinc (v := y3) (lv' := [(3, .int y3), (0, .ref a_this), (2, .int x2)]) hx hb dX11_opens_33 hl (k := 2) rfl (by rw [ey3]; rfl) (by decide) rfl (fun ls hl => ?_)
      refine lv_goto (tgt := 23) hx hb dX11_opens_36 (by decide) ?_
      exact ih23 _ _ _ hf _ _ _ hP hD hS (lv_sub hl [1, 2, 0] rfl))
  have L2 := wk_loopI (F := (fun k2 : (Nat → Int32) → Int32 → Int32 → Int32 → Option (Nat → Int32) => B_X11_opens_2 N v_items v_hour v_letter v_rank v_value v_where k2)) (bot := fun _ _ _ _ => none) (fun k2 : (Nat → Int32) → Int32 → Int32 → Int32 → Option (Nat → Int32) => ∀ (v_hours : Nat → Int32) (x1 : Int32) (x2 : Int32) (x3 : Int32), k2 v_hours x1 x2 x3 = some o_hours → ∀ (H : Heap) (locs : List Loc) (ls : Array Slot), va_P D vwCl (w_X11_opens cB cI cJ a_this a_cards a_county a_holes a_text a_letter a_where a_rank a_value a_hour a_readLetter a_readWhere a_readRank a_readValue a_readHour a_listName a_listDay a_voterName a_voterDay a_voterCounty a_heaps a_speed a_four a_byRules a_hours a_rest a_yet a_put v_kept v_length v_items v_readItems v_at v_lists v_voters v_needed v_hour v_hours v_letter v_rank v_value v_where) H → va_D A (w_X11_opens cB cI cJ a_this a_cards a_county a_holes a_text a_letter a_where a_rank a_value a_hour a_readLetter a_readWhere a_readRank a_readValue a_readHour a_listName a_listDay a_voterName a_voterDay a_voterCounty a_heaps a_speed a_four a_byRules a_hours a_rest a_yet a_put v_kept v_length v_items v_readItems v_at v_lists v_voters v_needed v_hour v_hours v_letter v_rank v_value v_where) → va_S A s.heap H locs → lv_has ls 4 [(0, .ref a_this), (1, .int x1), (2, .int x2), (3, .int x3)] → W p l e rm_X11_opens s m args below meth c H locs 0 0 Q (F0 m 2 ls [])) (by intro v_hours x1 x2 x3 hf; exact wk_no hf) (by
    intro k2 ih2
    intro v_hours x1 x2 x3 hf H locs ls hP hD hS hl
    have hf : B_X11_opens_2 N v_items v_hour v_letter v_rank v_value v_where k2 v_hours x1 x2 x3 = some o_hours := hf
    unfold B_X11_opens_2 at hf
    refine lv_iload_n hx hb dX11_opens_2 rfl (lv_at hl 3 rfl) ?_
    refine lv_bipush (v := (32 : Int32)) hx hb dX11_opens_3 (by decide) ?_
    refine lv_icmp_ge (tgt := 21) hx hb dX11_opens_5 (by decide) (fun c4 => ?_) (fun c4 => ?_)
    · have hf := wk_itT hf c4
      refine lv_iload_n hx hb dX11_opens_21 rfl (lv_at hl 1 rfl) ?_
      refine lv_istore_n (lv' := [(3, .int x1), (0, .ref a_this), (1, .int x1), (2, .int x2)]) hx hb dX11_opens_22 rfl hl (by decide) rfl (fun ls hl => ?_)
      exact L23 N _ _ _ hf _ _ _ hP hD hS (lv_sub hl [1, 3, 0] rfl)
    · have hf := wk_itF hf c4
      refine lv_aload_n hx hb dX11_opens_8 rfl (lv_at hl 0 rfl) ?_
      refine va_get (D := D) (ci := 11) (v := .ref a_hours) (C := RX11) (T := TX11) (N := 35) hx hb hts in_X11_opens_X11 hown hK hP 0 rfl rfl 31 (by decide) (hts (.fieldLink RX11 85 "HangingCardsModel" "hours" "[I") (List.mem_of_getElem? (i := 1) rfl)) (fun _ h9 => h9) rfl dX11_opens_9 ?_
      refine lv_iload_n hx hb dX11_opens_12 rfl (lv_at hl 3 rfl) ?_
      refine lv_iconst (v := (0 : Int32)) hx hb dX11_opens_13 (by decide) ?_
      obtain ⟨hi5, hf⟩ := wk_ckE hf
      refine va_iast hx hb hK hP hD hS 2 0 rfl rfl hi5 dX11_opens_14 (fun H locs hP hD hS => ?_)
      have hP : va_P D vwCl (w_X11_opens cB cI cJ a_this a_cards a_county a_holes a_text a_letter a_where a_rank a_value a_hour a_readLetter a_readWhere a_readRank a_readValue a_readHour a_listName a_listDay a_voterName a_voterDay a_voterCounty a_heaps a_speed a_four a_byRules a_hours a_rest a_yet a_put v_kept v_length v_items v_readItems v_at v_lists v_voters v_needed v_hour (upd v_hours x3.toNatClampNeg (0 : Int32)) v_letter v_rank v_value v_where) H := hP
      have hD : va_D A (w_X11_opens cB cI cJ a_this a_cards a_county a_holes a_text a_letter a_where a_rank a_value a_hour a_readLetter a_readWhere a_readRank a_readValue a_readHour a_listName a_listDay a_voterName a_voterDay a_voterCounty a_heaps a_speed a_four a_byRules a_hours a_rest a_yet a_put v_kept v_length v_items v_readItems v_at v_lists v_voters v_needed v_hour (upd v_hours x3.toNatClampNeg (0 : Int32)) v_letter v_rank v_value v_where) := hD
      obtain ⟨y6, ey6⟩ : ∃ y : Int32, y = x3 + (1 : Int32) := ⟨_, rfl⟩
      have hf := wk_nmE hf ey6
      refine lv_iinc (v := y6) (lv' := [(3, .int y6), (0, .ref a_this), (1, .int x1), (2, .int x2)]) hx hb dX11_opens_15 hl (k := 3) rfl (by rw [ey6]; rfl) (by decide) rfl (fun ls hl => ?_)
      refine lv_goto (tgt := 2) hx hb dX11_opens_18 (by decide) ?_
      exact ih2 _ _ _ _ hf _ _ _ hP hD hS (lv_sub hl [1, 2, 3, 0] rfl))
  unfold f_X11_opens at hf
  refine lv_iconst (v := (0 : Int32)) hx hb dX11_opens_0 (by decide) ?_
  refine lv_istore_n (lv' := [(3, .int (0 : Int32)), (0, .ref a_this), (1, .int x1), (2, .int x2)]) hx hb dX11_opens_1 rfl hl (by decide) rfl (fun ls hl => ?_)
  exact L2 N _ _ _ _ hf _ _ _ hP hD hS (lv_sub hl [1, 2, 3, 0] rfl)
abbrev w_X11_does (cB cI cJ : ClassId) (a_this : Nat) (a_cards : Nat) (a_county : Nat) (a_holes : Nat) (a_text : Nat) (a_letter : Nat) (a_where : Nat) (a_rank : Nat) (a_value : Nat) (a_hour : Nat) (a_readLetter : Nat) (a_readWhere : Nat) (a_readRank : Nat) (a_readValue : Nat) (a_readHour : Nat) (a_listName : Nat) (a_listDay : Nat) (a_voterName : Nat) (a_voterDay : Nat) (a_voterCounty : Nat) (a_heaps : Nat) (a_speed : Nat) (a_four : Nat) (a_byRules : Nat) (a_hours : Nat) (a_rest : Nat) (a_yet : Nat) (a_put : Nat) (v_kept : Int32) (v_length : Int32) (v_items : Int32) (v_readItems : Int32) (v_at : Int32) (v_lists : Int32) (v_voters : Int32) (v_needed : Int32) (v_heaps : Nat → Int32) (v_hours : Nat → Int32) (v_speed : Nat → Int32) : va_W := [(a_this, .inr (11, [.ref a_cards, .ref a_county, .ref a_holes, .int v_kept, .int v_length, .ref a_text, .int v_items, .ref a_letter, .ref a_where, .ref a_rank, .ref a_value, .ref a_hour, .int v_readItems, .ref a_readLetter, .ref a_readWhere, .ref a_readRank, .ref a_readValue, .ref a_readHour, .int v_at, .int v_lists, .ref a_listName, .ref a_listDay, .int v_voters, .ref a_voterName, .ref a_voterDay, .ref a_voterCounty, .int v_needed, .ref a_heaps, .ref a_speed, .ref a_four, .ref a_byRules, .ref a_hours, .ref a_rest, .ref a_yet, .ref a_put])), (a_heaps, .inl (cI, 5, .inl v_heaps)), (a_hours, .inl (cI, 32, .inl v_hours)), (a_speed, .inl (cI, 5, .inl v_speed))]
theorem hd_X11_does : yX11_does.cls = RX11 ∧ yX11_does.cls ≠ "java/lang/invoke/MethodHandle" ∧ yX11_does.cls ≠ "java/lang/invoke/VarHandle" ∧ (parseMethodDescriptor yX11_does.desc).map (fun d => d.parameters.length) = some 1 := by decide +kernel
abbrev rm_X11_does : Room := { frames := 1, cells := 0, slots := 0, locals := 21 }
theorem in_X11_does_X11 : ∀ w ∈ wsX110, w ∈ wsX11_does := fun w h => List.mem_cons_of_mem _ (List.mem_append_right _ h)
set_option maxHeartbeats 4000000 in
set_option maxRecDepth 100000 in
theorem c_X11_does (l : Launch) (D : va_G) (cB cI cJ : ClassId) (N : Nat) (a_this : Nat) (a_cards : Nat) (a_county : Nat) (a_holes : Nat) (a_text : Nat) (a_letter : Nat) (a_where : Nat) (a_rank : Nat) (a_value : Nat) (a_hour : Nat) (a_readLetter : Nat) (a_readWhere : Nat) (a_readRank : Nat) (a_readValue : Nat) (a_readHour : Nat) (a_listName : Nat) (a_listDay : Nat) (a_voterName : Nat) (a_voterDay : Nat) (a_voterCounty : Nat) (a_heaps : Nat) (a_speed : Nat) (a_four : Nat) (a_byRules : Nat) (a_hours : Nat) (a_rest : Nat) (a_yet : Nat) (a_put : Nat) (v_kept : Int32) (v_length : Int32) (v_items : Int32) (v_readItems : Int32) (v_at : Int32) (v_lists : Int32) (v_voters : Int32) (v_needed : Int32) (v_heaps : Nat → Int32) (v_hours : Nat → Int32) (v_speed : Nat → Int32) (x1 : Int32) {r : Bool} (hf : f_X11_does N v_heaps v_hours v_speed x1 = some r) : MTi l yX11_does wsX11_does rm_X11_does D (wk_T cB cI cJ) [.ref a_this, .int x1] (w_X11_does cB cI cJ a_this a_cards a_county a_holes a_text a_letter a_where a_rank a_value a_hour a_readLetter a_readWhere a_readRank a_readValue a_readHour a_listName a_listDay a_voterName a_voterDay a_voterCounty a_heaps a_speed a_four a_byRules a_hours a_rest a_yet a_put v_kept v_length v_items v_readItems v_at v_lists v_voters v_needed v_heaps v_hours v_speed) (w_X11_does cB cI cJ a_this a_cards a_county a_holes a_text a_letter a_where a_rank a_value a_hour a_readLetter a_readWhere a_readRank a_readValue a_readHour a_listName a_listDay a_voterName a_voterDay a_voterCounty a_heaps a_speed a_four a_byRules a_hours a_rest a_yet a_put v_kept v_length v_items v_readItems v_at v_lists v_voters v_needed v_heaps v_hours v_speed) (wk_bI r) := by
  refine MTi.of (cc := cX11_does) (nL := 6) (rt := .boolean) (own := RX11) pn_X11 rfl rfl (Nat.le_of_ble_eq_true rfl) (wk_nz r) ?_
  intro p e s m args below meth c A ls Q C hP hD hS hl hret
  obtain ⟨hx, hb, hml, hts, hown, hK, hN, hA, hlk⟩ := id C
  have hl : lv_has ls 6 [(0, .ref a_this), (1, .int x1)] := hl
  have L4 := wk_loopI (F := (fun k4 : Int32 → Int32 → Int32 → Option Bool => B_X11_does_4 N v_heaps v_hours v_speed k4)) (bot := fun _ _ _ => none) (fun k4 : Int32 → Int32 → Int32 → Option Bool => ∀ (x1 : Int32) (x2 : Int32) (x3 : Int32), k4 x1 x2 x3 = some r → ∀ (H : Heap) (locs : List Loc) (ls : Array Slot), va_P D vwCl (w_X11_does cB cI cJ a_this a_cards a_county a_holes a_text a_letter a_where a_rank a_value a_hour a_readLetter a_readWhere a_readRank a_readValue a_readHour a_listName a_listDay a_voterName a_voterDay a_voterCounty a_heaps a_speed a_four a_byRules a_hours a_rest a_yet a_put v_kept v_length v_items v_readItems v_at v_lists v_voters v_needed v_heaps v_hours v_speed) H → va_D A (w_X11_does cB cI cJ a_this a_cards a_county a_holes a_text a_letter a_where a_rank a_value a_hour a_readLetter a_readWhere a_readRank a_readValue a_readHour a_listName a_listDay a_voterName a_voterDay a_voterCounty a_heaps a_speed a_four a_byRules a_hours a_rest a_yet a_put v_kept v_length v_items v_readItems v_at v_lists v_voters v_needed v_heaps v_hours v_speed) → va_S A s.heap H locs → lv_has ls 6 [(0, .ref a_this), (1, .int x1), (2, .int x2), (3, .int x3)] → W p l e rm_X11_does s m args below meth c H locs 0 0 Q (F0 m 4 ls [])) (by intro x1 x2 x3 hf; exact wk_no hf) (by
    intro k4 ih4
    have L16 := wk_loopI (F := (fun k16 : Int32 → Int32 → Int32 → Int32 → Int32 → Option Bool => B_X11_does_16 N v_heaps v_hours v_speed k4 k16)) (bot := fun _ _ _ _ _ => none) (fun k16 : Int32 → Int32 → Int32 → Int32 → Int32 → Option Bool => ∀ (x1 : Int32) (x2 : Int32) (x3 : Int32) (x4 : Int32) (x5 : Int32), k16 x1 x2 x3 x4 x5 = some r → ∀ (H : Heap) (locs : List Loc) (ls : Array Slot), va_P D vwCl (w_X11_does cB cI cJ a_this a_cards a_county a_holes a_text a_letter a_where a_rank a_value a_hour a_readLetter a_readWhere a_readRank a_readValue a_readHour a_listName a_listDay a_voterName a_voterDay a_voterCounty a_heaps a_speed a_four a_byRules a_hours a_rest a_yet a_put v_kept v_length v_items v_readItems v_at v_lists v_voters v_needed v_heaps v_hours v_speed) H → va_D A (w_X11_does cB cI cJ a_this a_cards a_county a_holes a_text a_letter a_where a_rank a_value a_hour a_readLetter a_readWhere a_readRank a_readValue a_readHour a_listName a_listDay a_voterName a_voterDay a_voterCounty a_heaps a_speed a_four a_byRules a_hours a_rest a_yet a_put v_kept v_length v_items v_readItems v_at v_lists v_voters v_needed v_heaps v_hours v_speed) → va_S A s.heap H locs → lv_has ls 6 [(0, .ref a_this), (1, .int x1), (2, .int x2), (3, .int x3), (4, .int x4), (5, .int x5)] → W p l e rm_X11_does s m args below meth c H locs 0 0 Q (F0 m 16 ls [])) (by intro x1 x2 x3 x4 x5 hf; exact wk_no hf) (by
      intro k16 ih16
      intro x1 x2 x3 x4 x5 hf H locs ls hP hD hS hl
      have hf : B_X11_does_16 N v_heaps v_hours v_speed k4 k16 x1 x2 x3 x4 x5 = some r := hf
      unfold B_X11_does_16 at hf
      refine lv_iload hx hb dX11_does_16 (lv_at hl 5 rfl) ?_
      refine lv_iconst (v := (5 : Int32)) hx hb dX11_does_18 (by decide) ?_
      refine lv_icmp_ge (tgt := 52) hx hb dX11_does_19 (by decide) (fun c1 => ?_) (fun c1 => ?_)
      · have hf := wk_itT hf c1
        refine lv_iload_n hx hb dX11_does_52 rfl (lv_at hl 2 rfl) ?_
        refine lv_if_eq (tgt := 73) hx hb dX11_does_53 (by decide) (fun c2 => ?_) (fun c2 => ?_)
        · have hf := wk_itT hf c2
          refine lv_iconst (v := (0 : Int32)) hx hb dX11_does_73 (by decide) ?_
          refine lv_istore_n (lv' := [(2, .int (0 : Int32)), (0, .ref a_this), (1, .int x1), (3, .int x3), (4, .int x4), (5, .int x5)]) hx hb dX11_does_74 rfl hl (by decide) rfl (fun ls hl => ?_)
          obtain ⟨y3, ey3⟩ : ∃ y : Int32, y = x3 + (1 : Int32) := ⟨_, rfl⟩
          have hf := wk_nmE hf ey3
          refine lv_iinc (v := y3) (lv' := [(3, .int y3), (2, .int (0 : Int32)), (0, .ref a_this), (1, .int x1), (4, .int x4), (5, .int x5)]) hx hb dX11_does_75 hl (k := 3) rfl (by rw [ey3]; rfl) (by decide) rfl (fun ls hl => ?_)
          refine lv_goto (tgt := 4) hx hb dX11_does_78 (by decide) ?_
          exact ih4 _ _ _ hf _ _ _ hP hD hS (lv_sub hl [2, 3, 1, 0] rfl)
        · have hf := wk_itF hf c2
          refine lv_iload hx hb dX11_does_56 (lv_at hl 4 rfl) ?_
          refine lv_iload_n hx hb dX11_does_58 rfl (lv_at hl 1 rfl) ?_
          refine lv_aload_n hx hb dX11_does_59 rfl (lv_at hl 0 rfl) ?_
          refine va_get (D := D) (ci := 11) (v := .ref a_hours) (C := RX11) (T := TX11) (N := 35) hx hb hts in_X11_does_X11 hown hK hP 0 rfl rfl 31 (by decide) (hts (.fieldLink RX11 85 "HangingCardsModel" "hours" "[I") (List.mem_of_getElem? (i := 1) rfl)) (fun _ h9 => h9) rfl dX11_does_60 ?_
          refine lv_iload_n hx hb dX11_does_63 rfl (lv_at hl 3 rfl) ?_
          obtain ⟨hi4, hf⟩ := wk_ckE hf
          refine va_iald hx hb hK hP 2 0 rfl rfl hi4 dX11_does_64 ?_
          refine lv_imul hx hb dX11_does_65 ?_
          refine lv_icmp_gt (tgt := 73) hx hb dX11_does_66 (by decide) (fun c5 => ?_) (fun c5 => ?_)
          · have hf := wk_itT hf c5
            refine lv_iconst (v := (0 : Int32)) hx hb dX11_does_73 (by decide) ?_
            refine lv_istore_n (lv' := [(2, .int (0 : Int32)), (0, .ref a_this), (1, .int x1), (3, .int x3), (4, .int x4), (5, .int x5)]) hx hb dX11_does_74 rfl hl (by decide) rfl (fun ls hl => ?_)
            obtain ⟨y6, ey6⟩ : ∃ y : Int32, y = x3 + (1 : Int32) := ⟨_, rfl⟩
            have hf := wk_nmE hf ey6
            refine lv_iinc (v := y6) (lv' := [(3, .int y6), (2, .int (0 : Int32)), (0, .ref a_this), (1, .int x1), (4, .int x4), (5, .int x5)]) hx hb dX11_does_75 hl (k := 3) rfl (by rw [ey6]; rfl) (by decide) rfl (fun ls hl => ?_)
            refine lv_goto (tgt := 4) hx hb dX11_does_78 (by decide) ?_
            exact ih4 _ _ _ hf _ _ _ hP hD hS (lv_sub hl [2, 3, 1, 0] rfl)
          · have hf := wk_itF hf c5
            refine lv_iconst (v := (1 : Int32)) hx hb dX11_does_69 (by decide) ?_
            refine lv_goto (tgt := 74) hx hb dX11_does_70 (by decide) ?_
            refine lv_istore_n (lv' := [(2, .int (1 : Int32)), (0, .ref a_this), (1, .int x1), (3, .int x3), (4, .int x4), (5, .int x5)]) hx hb dX11_does_74 rfl hl (by decide) rfl (fun ls hl => ?_)
            obtain ⟨y7, ey7⟩ : ∃ y : Int32, y = x3 + (1 : Int32) := ⟨_, rfl⟩
            have hf := wk_nmE hf ey7
            refine lv_iinc (v := y7) (lv' := [(3, .int y7), (2, .int (1 : Int32)), (0, .ref a_this), (1, .int x1), (4, .int x4), (5, .int x5)]) hx hb dX11_does_75 hl (k := 3) rfl (by rw [ey7]; rfl) (by decide) rfl (fun ls hl => ?_)
            refine lv_goto (tgt := 4) hx hb dX11_does_78 (by decide) ?_
            exact ih4 _ _ _ hf _ _ _ hP hD hS (lv_sub hl [2, 3, 1, 0] rfl)
      · have hf := wk_itF hf c1
        refine lv_iload hx hb dX11_does_22 (lv_at hl 4 rfl) ?_
        refine lv_iload_n hx hb dX11_does_24 rfl (lv_at hl 3 rfl) ?_
        refine lv_iload hx hb dX11_does_25 (lv_at hl 5 rfl) ?_
        obtain ⟨r8, hc8, hf⟩ := wk_b1E hf
        refine wk_callSi2 C hP hD hS (c_X11_has l D cB cI cJ N x3 x5 hc8) (va_cwS 2 hts gX11_does_X11_has rfl rfl rfl hd_X11_has.2 ⟨Nat.le_of_ble_eq_true rfl, Nat.le_of_ble_eq_true rfl⟩) hl.1 ⟨Nat.zero_le _, Nat.zero_le _⟩ [] [0, 1, 2, 3] 4 (by decide +kernel) rfl (Wn := w_X11_does cB cI cJ a_this a_cards a_county a_holes a_text a_letter a_where a_rank a_value a_hour a_readLetter a_readWhere a_readRank a_readValue a_readHour a_listName a_listDay a_voterName a_voterDay a_voterCounty a_heaps a_speed a_four a_byRules a_hours a_rest a_yet a_put v_kept v_length v_items v_readItems v_at v_lists v_voters v_needed v_heaps v_hours v_speed) rfl rfl rfl rfl rfl rfl rfl rfl (Nat.le_of_ble_eq_true rfl) dX11_does_27 (fun H locs hP hD hS => ?_)
        refine lv_if_eq (tgt := 42) hx hb dX11_does_30 (by decide) (fun c9 => ?_) (fun c9 => ?_)
        · have hf := wk_itT hf c9
          refine lv_iconst (v := (0 : Int32)) hx hb dX11_does_42 (by decide) ?_
          refine lv_iadd hx hb dX11_does_43 ?_
          refine lv_topi (fun y10 ey10 => ?_)
          have hf := wk_nmE hf ey10
          refine lv_istore (lv' := [(4, .int y10), (0, .ref a_this), (1, .int x1), (2, .int x2), (3, .int x3), (5, .int x5)]) hx hb dX11_does_44 hl (by decide) rfl (fun ls hl => ?_)
          obtain ⟨y11, ey11⟩ : ∃ y : Int32, y = x5 + (1 : Int32) := ⟨_, rfl⟩
          have hf := wk_nmE hf ey11
          refine lv_iinc (v := y11) (lv' := [(5, .int y11), (4, .int y10), (0, .ref a_this), (1, .int x1), (2, .int x2), (3, .int x3)]) hx hb dX11_does_46 hl (k := 5) rfl (by rw [ey11]; rfl) (by decide) rfl (fun ls hl => ?_)
          refine lv_goto (tgt := 16) hx hb dX11_does_49 (by decide) ?_
          exact ih16 _ _ _ _ _ hf _ _ _ hP hD hS (lv_sub hl [2, 3, 4, 5, 1, 0] rfl)
        · have hf := wk_itF hf c9
          refine lv_aload_n hx hb dX11_does_33 rfl (lv_at hl 0 rfl) ?_
          refine lv_iload hx hb dX11_does_34 (lv_at hl 5 rfl) ?_
          obtain ⟨r12, hc12, hf⟩ := wk_b1E hf
          refine wk_callVi2 C hP hD hS (c_X11_work l D cB cI cJ N a_this a_cards a_county a_holes a_text a_letter a_where a_rank a_value a_hour a_readLetter a_readWhere a_readRank a_readValue a_readHour a_listName a_listDay a_voterName a_voterDay a_voterCounty a_heaps a_speed a_four a_byRules a_hours a_rest a_yet a_put v_kept v_length v_items v_readItems v_at v_lists v_voters v_needed v_heaps v_speed x5 hc12) (cwV 1 hts gX11_does_X11_work rfl rfl rfl hd_X11_work ⟨Nat.le_of_ble_eq_true rfl, Nat.le_of_ble_eq_true rfl⟩) hl.1 ⟨Nat.zero_le _, Nat.zero_le _⟩ [0, 1, 3] [2] 4 (by decide +kernel) rfl (Wn := w_X11_does cB cI cJ a_this a_cards a_county a_holes a_text a_letter a_where a_rank a_value a_hour a_readLetter a_readWhere a_readRank a_readValue a_readHour a_listName a_listDay a_voterName a_voterDay a_voterCounty a_heaps a_speed a_four a_byRules a_hours a_rest a_yet a_put v_kept v_length v_items v_readItems v_at v_lists v_voters v_needed v_heaps v_hours v_speed) rfl rfl rfl rfl rfl rfl (ci := 11) rfl rfl (q0 := 0) rfl rfl rfl (Nat.le_of_ble_eq_true rfl) dX11_does_36 (fun H locs hP hD hS => ?_)
          refine lv_goto (tgt := 43) hx hb dX11_does_39 (by decide) ?_
          refine lv_iadd hx hb dX11_does_43 ?_
          refine lv_topi (fun y13 ey13 => ?_)
          have hf := wk_nmE hf ey13
          refine lv_istore (lv' := [(4, .int y13), (0, .ref a_this), (1, .int x1), (2, .int x2), (3, .int x3), (5, .int x5)]) hx hb dX11_does_44 hl (by decide) rfl (fun ls hl => ?_)
          obtain ⟨y14, ey14⟩ : ∃ y : Int32, y = x5 + (1 : Int32) := ⟨_, rfl⟩
          have hf := wk_nmE hf ey14
          refine lv_iinc (v := y14) (lv' := [(5, .int y14), (4, .int y13), (0, .ref a_this), (1, .int x1), (2, .int x2), (3, .int x3)]) hx hb dX11_does_46 hl (k := 5) rfl (by rw [ey14]; rfl) (by decide) rfl (fun ls hl => ?_)
          refine lv_goto (tgt := 16) hx hb dX11_does_49 (by decide) ?_
          exact ih16 _ _ _ _ _ hf _ _ _ hP hD hS (lv_sub hl [2, 3, 4, 5, 1, 0] rfl))
    intro x1 x2 x3 hf H locs ls hP hD hS hl
    have hf : B_X11_does_4 N v_heaps v_hours v_speed k4 x1 x2 x3 = some r := hf
    unfold B_X11_does_4 at hf
    refine lv_iload_n hx hb dX11_does_4 rfl (lv_at hl 3 rfl) ?_
    refine lv_bipush (v := (32 : Int32)) hx hb dX11_does_5 (by decide) ?_
    refine lv_icmp_ge (tgt := 81) hx hb dX11_does_7 (by decide) (fun c15 => ?_) (fun c15 => ?_)
    · have hf := wk_itT hf c15
      refine lv_iload_n hx hb dX11_does_81 rfl (lv_at hl 2 rfl) ?_
      obtain ⟨b16, hb16, hf⟩ := wk_b1E hf
      exact hret _ _ _ _ _ _ dX11_does_82 ((wk_zrT hb16).trans (wk_rt hf (fun z => wk_bI z))) rfl hP hD hS
    · have hf := wk_itF hf c15
      refine lv_iconst (v := (0 : Int32)) hx hb dX11_does_10 (by decide) ?_
      refine lv_istore (lv' := [(4, .int (0 : Int32)), (0, .ref a_this), (1, .int x1), (2, .int x2), (3, .int x3)]) hx hb dX11_does_11 hl (by decide) rfl (fun ls hl => ?_)
      refine lv_iconst (v := (0 : Int32)) hx hb dX11_does_13 (by decide) ?_
      refine lv_istore (lv' := [(5, .int (0 : Int32)), (4, .int (0 : Int32)), (0, .ref a_this), (1, .int x1), (2, .int x2), (3, .int x3)]) hx hb dX11_does_14 hl (by decide) rfl (fun ls hl => ?_)
      exact L16 N _ _ _ _ _ hf _ _ _ hP hD hS (lv_sub hl [2, 3, 4, 5, 1, 0] rfl))
  unfold f_X11_does at hf
  refine lv_iconst (v := (1 : Int32)) hx hb dX11_does_0 (by decide) ?_
  refine lv_istore_n (lv' := [(2, .int (1 : Int32)), (0, .ref a_this), (1, .int x1)]) hx hb dX11_does_1 rfl hl (by decide) rfl (fun ls hl => ?_)
  refine lv_iconst (v := (0 : Int32)) hx hb dX11_does_2 (by decide) ?_
  refine lv_istore_n (lv' := [(3, .int (0 : Int32)), (2, .int (1 : Int32)), (0, .ref a_this), (1, .int x1)]) hx hb dX11_does_3 rfl hl (by decide) rfl (fun ls hl => ?_)
  exact L4 N _ _ _ hf _ _ _ hP hD hS (lv_sub hl [2, 3, 1, 0] rfl)
abbrev w_X11_isSpan (cB cI cJ : ClassId) : va_W := []
theorem hd_X11_isSpan : yX11_isSpan.cls = RX11 ∧ yX11_isSpan.cls ≠ "java/lang/invoke/MethodHandle" ∧ yX11_isSpan.cls ≠ "java/lang/invoke/VarHandle" ∧ (parseMethodDescriptor yX11_isSpan.desc).map (fun d => d.parameters.length) = some 2 := by decide +kernel
abbrev rm_X11_isSpan : Room := { frames := 2, cells := 0, slots := 0, locals := 45 }
set_option maxHeartbeats 4000000 in
set_option maxRecDepth 100000 in
theorem c_X11_isSpan (l : Launch) (D : va_G) (cB cI cJ : ClassId) (N : Nat) (x0 : Int32) (x1 : Int32) {r : Bool} (hf : f_X11_isSpan N x0 x1 = some r) : MTi l yX11_isSpan wsX11_isSpan rm_X11_isSpan D (wk_T cB cI cJ) [.int x0, .int x1] (w_X11_isSpan cB cI cJ) (w_X11_isSpan cB cI cJ) (wk_bI r) := by
  refine MTi.of (cc := cX11_isSpan) (nL := 2) (rt := .boolean) (own := RX11) pn_X11 rfl rfl (Nat.le_of_ble_eq_true rfl) (wk_nz r) ?_
  intro p e s m args below meth c A ls Q C hP hD hS hl hret
  obtain ⟨hx, hb, hml, hts, hown, hK, hN, hA, hlk⟩ := id C
  have hl : lv_has ls 2 [(0, .int x0), (1, .int x1)] := hl
  unfold f_X11_isSpan at hf
  refine lv_iload_n hx hb dX11_isSpan_0 rfl (lv_at hl 0 rfl) ?_
  obtain ⟨r1, hc1, hf⟩ := wk_b1E hf
  refine wk_callSi2 C hP hD hS (c_X11_isHour l D cB cI cJ N x0 hc1) (va_cwS 1 hts gX11_isSpan_X11_isHour rfl rfl rfl hd_X11_isHour.2 ⟨Nat.le_of_ble_eq_true rfl, Nat.le_of_ble_eq_true rfl⟩) hl.1 ⟨Nat.zero_le _, Nat.zero_le _⟩ [] [] 0 (by decide +kernel) rfl (Wn := w_X11_isSpan cB cI cJ) rfl rfl rfl rfl rfl rfl rfl rfl (Nat.le_of_ble_eq_true rfl) dX11_isSpan_1 (fun H locs hP hD hS => ?_)
  refine lv_if_eq (tgt := 24) hx hb dX11_isSpan_4 (by decide) (fun c2 => ?_) (fun c2 => ?_)
  · have hf := wk_itT hf c2
    refine lv_iconst (v := (0 : Int32)) hx hb dX11_isSpan_24 (by decide) ?_
    exact hret _ _ _ _ _ _ dX11_isSpan_25 (wk_rt hf (fun z => wk_bI z)) rfl hP hD hS
  · have hf := wk_itF hf c2
    refine lv_iload_n hx hb dX11_isSpan_7 rfl (lv_at hl 1 rfl) ?_
    refine lv_i2l (v := (x1.toInt64)) hx hb dX11_isSpan_8 rfl ?_
    refine lv_iload_n hx hb dX11_isSpan_9 rfl (lv_at hl 0 rfl) ?_
    refine lv_i2l (v := (x0.toInt64)) hx hb dX11_isSpan_10 rfl ?_
    refine lv_ldc2 (v := (1000 : Int64)) hx hb hown (hts (.constantLong RX11 273 (1000)) (List.mem_of_getElem? (i := 1) rfl)) dX11_isSpan_11 ?_
    obtain ⟨r3, hc3, hf⟩ := wk_b1E hf
    refine wk_callSi2 C hP hD hS (c_X11_in l D cB cI cJ N (x1.toInt64) (x0.toInt64) (1000 : Int64) hc3) (va_cwS 3 hts gX11_isSpan_X11_in rfl rfl rfl hd_X11_in.2 ⟨Nat.le_of_ble_eq_true rfl, Nat.le_of_ble_eq_true rfl⟩) hl.1 ⟨Nat.zero_le _, Nat.zero_le _⟩ [] [] 0 (by decide +kernel) rfl (Wn := w_X11_isSpan cB cI cJ) rfl rfl rfl rfl rfl rfl rfl rfl (Nat.le_of_ble_eq_true rfl) dX11_isSpan_14 (fun H locs hP hD hS => ?_)
    refine lv_if_eq (tgt := 24) hx hb dX11_isSpan_17 (by decide) (fun c4 => ?_) (fun c4 => ?_)
    · have hf := wk_itT hf c4
      refine lv_iconst (v := (0 : Int32)) hx hb dX11_isSpan_24 (by decide) ?_
      exact hret _ _ _ _ _ _ dX11_isSpan_25 (wk_rt hf (fun z => wk_bI z)) rfl hP hD hS
    · have hf := wk_itF hf c4
      refine lv_iconst (v := (1 : Int32)) hx hb dX11_isSpan_20 (by decide) ?_
      refine lv_goto (tgt := 25) hx hb dX11_isSpan_21 (by decide) ?_
      exact hret _ _ _ _ _ _ dX11_isSpan_25 (wk_rt hf (fun z => wk_bI z)) rfl hP hD hS
abbrev w_X11_could (cB cI cJ : ClassId) (a_this : Nat) (a_cards : Nat) (a_county : Nat) (a_holes : Nat) (a_text : Nat) (a_letter : Nat) (a_where : Nat) (a_rank : Nat) (a_value : Nat) (a_hour : Nat) (a_readLetter : Nat) (a_readWhere : Nat) (a_readRank : Nat) (a_readValue : Nat) (a_readHour : Nat) (a_listName : Nat) (a_listDay : Nat) (a_voterName : Nat) (a_voterDay : Nat) (a_voterCounty : Nat) (a_heaps : Nat) (a_speed : Nat) (a_four : Nat) (a_byRules : Nat) (a_hours : Nat) (a_rest : Nat) (a_yet : Nat) (a_put : Nat) (v_kept : Int32) (v_length : Int32) (v_items : Int32) (v_readItems : Int32) (v_at : Int32) (v_lists : Int32) (v_voters : Int32) (v_needed : Int32) (v_heaps : Nat → Int32) (v_hour : Nat → Int32) (v_hours : Nat → Int32) (v_letter : Nat → Int32) (v_rank : Nat → Int32) (v_speed : Nat → Int32) (v_value : Nat → Int32) (v_where : Nat → Int32) : va_W := [(a_this, .inr (11, [.ref a_cards, .ref a_county, .ref a_holes, .int v_kept, .int v_length, .ref a_text, .int v_items, .ref a_letter, .ref a_where, .ref a_rank, .ref a_value, .ref a_hour, .int v_readItems, .ref a_readLetter, .ref a_readWhere, .ref a_readRank, .ref a_readValue, .ref a_readHour, .int v_at, .int v_lists, .ref a_listName, .ref a_listDay, .int v_voters, .ref a_voterName, .ref a_voterDay, .ref a_voterCounty, .int v_needed, .ref a_heaps, .ref a_speed, .ref a_four, .ref a_byRules, .ref a_hours, .ref a_rest, .ref a_yet, .ref a_put])), (a_heaps, .inl (cI, 5, .inl v_heaps)), (a_hour, .inl (cI, 40, .inl v_hour)), (a_hours, .inl (cI, 32, .inl v_hours)), (a_letter, .inl (cI, 40, .inl v_letter)), (a_rank, .inl (cI, 40, .inl v_rank)), (a_speed, .inl (cI, 5, .inl v_speed)), (a_value, .inl (cI, 40, .inl v_value)), (a_where, .inl (cI, 40, .inl v_where))]
theorem hd_X11_could : yX11_could.cls = RX11 ∧ yX11_could.cls ≠ "java/lang/invoke/MethodHandle" ∧ yX11_could.cls ≠ "java/lang/invoke/VarHandle" ∧ (parseMethodDescriptor yX11_could.desc).map (fun d => d.parameters.length) = some 3 := by decide +kernel
abbrev rm_X11_could : Room := { frames := 5, cells := 0, slots := 0, locals := 119 }
set_option maxHeartbeats 4000000 in
set_option maxRecDepth 100000 in
theorem c_X11_could (l : Launch) (D : va_G) (cB cI cJ : ClassId) (N : Nat) (a_this : Nat) (a_cards : Nat) (a_county : Nat) (a_holes : Nat) (a_text : Nat) (a_letter : Nat) (a_where : Nat) (a_rank : Nat) (a_value : Nat) (a_hour : Nat) (a_readLetter : Nat) (a_readWhere : Nat) (a_readRank : Nat) (a_readValue : Nat) (a_readHour : Nat) (a_listName : Nat) (a_listDay : Nat) (a_voterName : Nat) (a_voterDay : Nat) (a_voterCounty : Nat) (a_heaps : Nat) (a_speed : Nat) (a_four : Nat) (a_byRules : Nat) (a_hours : Nat) (a_rest : Nat) (a_yet : Nat) (a_put : Nat) (v_kept : Int32) (v_length : Int32) (v_items : Int32) (v_readItems : Int32) (v_at : Int32) (v_lists : Int32) (v_voters : Int32) (v_needed : Int32) (v_heaps : Nat → Int32) (v_hour : Nat → Int32) (v_hours : Nat → Int32) (v_letter : Nat → Int32) (v_rank : Nat → Int32) (v_speed : Nat → Int32) (v_value : Nat → Int32) (v_where : Nat → Int32) (x1 : Int32) (x2 : Int32) (x3 : Int32) {r : Int32} {o_hours : Nat → Int32} (hf : f_X11_could N v_items v_heaps v_hour v_letter v_rank v_speed v_value v_where v_hours x1 x2 x3 = some (r, o_hours)) : MTi l yX11_could wsX11_could rm_X11_could D (wk_T cB cI cJ) [.ref a_this, .int x1, .int x2, .int x3] (w_X11_could cB cI cJ a_this a_cards a_county a_holes a_text a_letter a_where a_rank a_value a_hour a_readLetter a_readWhere a_readRank a_readValue a_readHour a_listName a_listDay a_voterName a_voterDay a_voterCounty a_heaps a_speed a_four a_byRules a_hours a_rest a_yet a_put v_kept v_length v_items v_readItems v_at v_lists v_voters v_needed v_heaps v_hour v_hours v_letter v_rank v_speed v_value v_where) (w_X11_could cB cI cJ a_this a_cards a_county a_holes a_text a_letter a_where a_rank a_value a_hour a_readLetter a_readWhere a_readRank a_readValue a_readHour a_listName a_listDay a_voterName a_voterDay a_voterCounty a_heaps a_speed a_four a_byRules a_hours a_rest a_yet a_put v_kept v_length v_items v_readItems v_at v_lists v_voters v_needed v_heaps v_hour o_hours v_letter v_rank v_speed v_value v_where) r := by
  refine MTi.of (cc := cX11_could) (nL := 4) (rt := .int) (own := RX11) pn_X11 rfl rfl (Nat.le_of_ble_eq_true rfl) rfl ?_
  intro p e s m args below meth c A ls Q C hP hD hS hl hret
  obtain ⟨hx, hb, hml, hts, hown, hK, hN, hA, hlk⟩ := id C
  have hl : lv_has ls 4 [(0, .ref a_this), (1, .int x1), (2, .int x2), (3, .int x3)] := hl
  unfold f_X11_could at hf
  refine lv_iload_n hx hb dX11_could_0 rfl (lv_at hl 1 rfl) ?_
  refine lv_iload_n hx hb dX11_could_1 rfl (lv_at hl 2 rfl) ?_
  obtain ⟨r1, hc1, hf⟩ := wk_b1E hf
  refine wk_callSi2 C hP hD hS (c_X11_isSpan l D cB cI cJ N x1 x2 hc1) (va_cwS 2 hts gX11_could_X11_isSpan rfl rfl rfl hd_X11_isSpan.2 ⟨Nat.le_of_ble_eq_true rfl, Nat.le_of_ble_eq_true rfl⟩) hl.1 ⟨Nat.zero_le _, Nat.zero_le _⟩ [] [0, 1, 2, 3, 4, 5, 6, 7, 8] 9 (by decide +kernel) rfl (Wn := w_X11_could cB cI cJ a_this a_cards a_county a_holes a_text a_letter a_where a_rank a_value a_hour a_readLetter a_readWhere a_readRank a_readValue a_readHour a_listName a_listDay a_voterName a_voterDay a_voterCounty a_heaps a_speed a_four a_byRules a_hours a_rest a_yet a_put v_kept v_length v_items v_readItems v_at v_lists v_voters v_needed v_heaps v_hour v_hours v_letter v_rank v_speed v_value v_where) rfl rfl rfl rfl rfl rfl rfl rfl (Nat.le_of_ble_eq_true rfl) dX11_could_2 (fun H locs hP hD hS => ?_)
  refine lv_if_eq (tgt := 20) hx hb dX11_could_5 (by decide) (fun c2 => ?_) (fun c2 => ?_)
  · have hf := wk_itT hf c2
    refine lv_iconst (v := (-1 : Int32)) hx hb dX11_could_20 (by decide) ?_
    exact hret _ _ _ _ _ _ dX11_could_21 (wk_rt hf (fun z => z.1)) (wk_rt hf (fun z => w_X11_could cB cI cJ a_this a_cards a_county a_holes a_text a_letter a_where a_rank a_value a_hour a_readLetter a_readWhere a_readRank a_readValue a_readHour a_listName a_listDay a_voterName a_voterDay a_voterCounty a_heaps a_speed a_four a_byRules a_hours a_rest a_yet a_put v_kept v_length v_items v_readItems v_at v_lists v_voters v_needed v_heaps v_hour (z.2) v_letter v_rank v_speed v_value v_where)) hP hD hS
  · have hf := wk_itF hf c2
    refine lv_iload_n hx hb dX11_could_8 rfl (lv_at hl 3 rfl) ?_
    refine lv_i2l (v := (x3.toInt64)) hx hb dX11_could_9 rfl ?_
    refine lv_lconst (v := (1 : Int64)) hx hb dX11_could_10 (by decide) ?_
    refine lv_ldc2 (v := (20 : Int64)) hx hb hown (hts (.constantLong RX11 278 (20)) (List.mem_of_getElem? (i := 1) rfl)) dX11_could_11 ?_
    obtain ⟨r3, hc3, hf⟩ := wk_b1E hf
    refine wk_callSi2 C hP hD hS (c_X11_in l D cB cI cJ N (x3.toInt64) (1 : Int64) (20 : Int64) hc3) (va_cwS 3 hts gX11_could_X11_in rfl rfl rfl hd_X11_in.2 ⟨Nat.le_of_ble_eq_true rfl, Nat.le_of_ble_eq_true rfl⟩) hl.1 ⟨Nat.zero_le _, Nat.zero_le _⟩ [] [0, 1, 2, 3, 4, 5, 6, 7, 8] 9 (by decide +kernel) rfl (Wn := w_X11_could cB cI cJ a_this a_cards a_county a_holes a_text a_letter a_where a_rank a_value a_hour a_readLetter a_readWhere a_readRank a_readValue a_readHour a_listName a_listDay a_voterName a_voterDay a_voterCounty a_heaps a_speed a_four a_byRules a_hours a_rest a_yet a_put v_kept v_length v_items v_readItems v_at v_lists v_voters v_needed v_heaps v_hour v_hours v_letter v_rank v_speed v_value v_where) rfl rfl rfl rfl rfl rfl rfl rfl (Nat.le_of_ble_eq_true rfl) dX11_could_14 (fun H locs hP hD hS => ?_)
    refine lv_if_ne (tgt := 22) hx hb dX11_could_17 (by decide) (fun c4 => ?_) (fun c4 => ?_)
    · have hf := wk_itF hf c4
      refine lv_aload_n hx hb dX11_could_22 rfl (lv_at hl 0 rfl) ?_
      refine lv_iload_n hx hb dX11_could_23 rfl (lv_at hl 1 rfl) ?_
      refine lv_iload_n hx hb dX11_could_24 rfl (lv_at hl 2 rfl) ?_
      obtain ⟨o5_0, hc5, hf⟩ := wk_b1E hf
      refine wk_callVv2 C hP hD hS (c_X11_opens l D cB cI cJ N a_this a_cards a_county a_holes a_text a_letter a_where a_rank a_value a_hour a_readLetter a_readWhere a_readRank a_readValue a_readHour a_listName a_listDay a_voterName a_voterDay a_voterCounty a_heaps a_speed a_four a_byRules a_hours a_rest a_yet a_put v_kept v_length v_items v_readItems v_at v_lists v_voters v_needed v_hour v_hours v_letter v_rank v_value v_where x1 x2 hc5) (cwV 2 hts gX11_could_X11_opens rfl rfl rfl hd_X11_opens ⟨Nat.le_of_ble_eq_true rfl, Nat.le_of_ble_eq_true rfl⟩) hl.1 ⟨Nat.zero_le _, Nat.zero_le _⟩ [0, 2, 3, 4, 5, 7, 8] [1, 6] 9 (by decide +kernel) rfl (Wn := w_X11_could cB cI cJ a_this a_cards a_county a_holes a_text a_letter a_where a_rank a_value a_hour a_readLetter a_readWhere a_readRank a_readValue a_readHour a_listName a_listDay a_voterName a_voterDay a_voterCounty a_heaps a_speed a_four a_byRules a_hours a_rest a_yet a_put v_kept v_length v_items v_readItems v_at v_lists v_voters v_needed v_heaps v_hour o5_0 v_letter v_rank v_speed v_value v_where) rfl rfl rfl rfl rfl rfl (ci := 11) rfl rfl (q0 := 0) rfl rfl rfl (Nat.le_of_ble_eq_true rfl) dX11_could_25 (fun H locs hP hD hS => ?_)
      refine lv_aload_n hx hb dX11_could_28 rfl (lv_at hl 0 rfl) ?_
      refine lv_iload_n hx hb dX11_could_29 rfl (lv_at hl 3 rfl) ?_
      obtain ⟨r6, hc6, hf⟩ := wk_b1E hf
      refine wk_callVi2 C hP hD hS (c_X11_does l D cB cI cJ N a_this a_cards a_county a_holes a_text a_letter a_where a_rank a_value a_hour a_readLetter a_readWhere a_readRank a_readValue a_readHour a_listName a_listDay a_voterName a_voterDay a_voterCounty a_heaps a_speed a_four a_byRules a_hours a_rest a_yet a_put v_kept v_length v_items v_readItems v_at v_lists v_voters v_needed v_heaps o5_0 v_speed x3 hc6) (cwV 1 hts gX11_could_X11_does rfl rfl rfl hd_X11_does ⟨Nat.le_of_ble_eq_true rfl, Nat.le_of_ble_eq_true rfl⟩) hl.1 ⟨Nat.zero_le _, Nat.zero_le _⟩ [0, 1, 3, 6] [2, 4, 5, 7, 8] 9 (by decide +kernel) rfl (Wn := w_X11_could cB cI cJ a_this a_cards a_county a_holes a_text a_letter a_where a_rank a_value a_hour a_readLetter a_readWhere a_readRank a_readValue a_readHour a_listName a_listDay a_voterName a_voterDay a_voterCounty a_heaps a_speed a_four a_byRules a_hours a_rest a_yet a_put v_kept v_length v_items v_readItems v_at v_lists v_voters v_needed v_heaps v_hour o5_0 v_letter v_rank v_speed v_value v_where) rfl rfl rfl rfl rfl rfl (ci := 11) rfl rfl (q0 := 0) rfl rfl rfl (Nat.le_of_ble_eq_true rfl) dX11_could_30 (fun H locs hP hD hS => ?_)
      refine lv_if_eq (tgt := 40) hx hb dX11_could_33 (by decide) (fun c7 => ?_) (fun c7 => ?_)
      · have hf := wk_itT hf c7
        refine lv_iconst (v := (0 : Int32)) hx hb dX11_could_40 (by decide) ?_
        exact hret _ _ _ _ _ _ dX11_could_41 (wk_rt hf (fun z => z.1)) (wk_rt hf (fun z => w_X11_could cB cI cJ a_this a_cards a_county a_holes a_text a_letter a_where a_rank a_value a_hour a_readLetter a_readWhere a_readRank a_readValue a_readHour a_listName a_listDay a_voterName a_voterDay a_voterCounty a_heaps a_speed a_four a_byRules a_hours a_rest a_yet a_put v_kept v_length v_items v_readItems v_at v_lists v_voters v_needed v_heaps v_hour (z.2) v_letter v_rank v_speed v_value v_where)) hP hD hS
      · have hf := wk_itF hf c7
        refine lv_iconst (v := (1 : Int32)) hx hb dX11_could_36 (by decide) ?_
        refine lv_goto (tgt := 41) hx hb dX11_could_37 (by decide) ?_
        exact hret _ _ _ _ _ _ dX11_could_41 (wk_rt hf (fun z => z.1)) (wk_rt hf (fun z => w_X11_could cB cI cJ a_this a_cards a_county a_holes a_text a_letter a_where a_rank a_value a_hour a_readLetter a_readWhere a_readRank a_readValue a_readHour a_listName a_listDay a_voterName a_voterDay a_voterCounty a_heaps a_speed a_four a_byRules a_hours a_rest a_yet a_put v_kept v_length v_items v_readItems v_at v_lists v_voters v_needed v_heaps v_hour (z.2) v_letter v_rank v_speed v_value v_where)) hP hD hS
    · have hf := wk_itT hf c4
      refine lv_iconst (v := (-1 : Int32)) hx hb dX11_could_20 (by decide) ?_
      exact hret _ _ _ _ _ _ dX11_could_21 (wk_rt hf (fun z => z.1)) (wk_rt hf (fun z => w_X11_could cB cI cJ a_this a_cards a_county a_holes a_text a_letter a_where a_rank a_value a_hour a_readLetter a_readWhere a_readRank a_readValue a_readHour a_listName a_listDay a_voterName a_voterDay a_voterCounty a_heaps a_speed a_four a_byRules a_hours a_rest a_yet a_put v_kept v_length v_items v_readItems v_at v_lists v_voters v_needed v_heaps v_hour (z.2) v_letter v_rank v_speed v_value v_where)) hP hD hS
abbrev w_X11_hands (cB cI cJ : ClassId) (a_this : Nat) (a_cards : Nat) (a_county : Nat) (a_holes : Nat) (a_text : Nat) (a_letter : Nat) (a_where : Nat) (a_rank : Nat) (a_value : Nat) (a_hour : Nat) (a_readLetter : Nat) (a_readWhere : Nat) (a_readRank : Nat) (a_readValue : Nat) (a_readHour : Nat) (a_listName : Nat) (a_listDay : Nat) (a_voterName : Nat) (a_voterDay : Nat) (a_voterCounty : Nat) (a_heaps : Nat) (a_speed : Nat) (a_four : Nat) (a_byRules : Nat) (a_hours : Nat) (a_rest : Nat) (a_yet : Nat) (a_put : Nat) (v_kept : Int32) (v_length : Int32) (v_items : Int32) (v_readItems : Int32) (v_at : Int32) (v_lists : Int32) (v_voters : Int32) (v_needed : Int32) (v_heaps : Nat → Int32) (v_hour : Nat → Int32) (v_hours : Nat → Int32) (v_letter : Nat → Int32) (v_rank : Nat → Int32) (v_speed : Nat → Int32) (v_value : Nat → Int32) (v_where : Nat → Int32) : va_W := [(a_this, .inr (11, [.ref a_cards, .ref a_county, .ref a_holes, .int v_kept, .int v_length, .ref a_text, .int v_items, .ref a_letter, .ref a_where, .ref a_rank, .ref a_value, .ref a_hour, .int v_readItems, .ref a_readLetter, .ref a_readWhere, .ref a_readRank, .ref a_readValue, .ref a_readHour, .int v_at, .int v_lists, .ref a_listName, .ref a_listDay, .int v_voters, .ref a_voterName, .ref a_voterDay, .ref a_voterCounty, .int v_needed, .ref a_heaps, .ref a_speed, .ref a_four, .ref a_byRules, .ref a_hours, .ref a_rest, .ref a_yet, .ref a_put])), (a_heaps, .inl (cI, 5, .inl v_heaps)), (a_hour, .inl (cI, 40, .inl v_hour)), (a_hours, .inl (cI, 32, .inl v_hours)), (a_letter, .inl (cI, 40, .inl v_letter)), (a_rank, .inl (cI, 40, .inl v_rank)), (a_speed, .inl (cI, 5, .inl v_speed)), (a_value, .inl (cI, 40, .inl v_value)), (a_where, .inl (cI, 40, .inl v_where))]
theorem hd_X11_hands : yX11_hands.cls = RX11 ∧ yX11_hands.cls ≠ "java/lang/invoke/MethodHandle" ∧ yX11_hands.cls ≠ "java/lang/invoke/VarHandle" ∧ (parseMethodDescriptor yX11_hands.desc).map (fun d => d.parameters.length) = some 2 := by decide +kernel
abbrev rm_X11_hands : Room := { frames := 5, cells := 0, slots := 0, locals := 119 }
set_option maxHeartbeats 4000000 in
set_option maxRecDepth 100000 in
theorem c_X11_hands (l : Launch) (D : va_G) (cB cI cJ : ClassId) (N : Nat) (a_this : Nat) (a_cards : Nat) (a_county : Nat) (a_holes : Nat) (a_text : Nat) (a_letter : Nat) (a_where : Nat) (a_rank : Nat) (a_value : Nat) (a_hour : Nat) (a_readLetter : Nat) (a_readWhere : Nat) (a_readRank : Nat) (a_readValue : Nat) (a_readHour : Nat) (a_listName : Nat) (a_listDay : Nat) (a_voterName : Nat) (a_voterDay : Nat) (a_voterCounty : Nat) (a_heaps : Nat) (a_speed : Nat) (a_four : Nat) (a_byRules : Nat) (a_hours : Nat) (a_rest : Nat) (a_yet : Nat) (a_put : Nat) (v_kept : Int32) (v_length : Int32) (v_items : Int32) (v_readItems : Int32) (v_at : Int32) (v_lists : Int32) (v_voters : Int32) (v_needed : Int32) (v_heaps : Nat → Int32) (v_hour : Nat → Int32) (v_hours : Nat → Int32) (v_letter : Nat → Int32) (v_rank : Nat → Int32) (v_speed : Nat → Int32) (v_value : Nat → Int32) (v_where : Nat → Int32) (x1 : Int32) (x2 : Int32) {r : Int32} {o_hours : Nat → Int32} (hf : f_X11_hands N v_items v_heaps v_hour v_letter v_rank v_speed v_value v_where v_hours x1 x2 = some (r, o_hours)) : MTi l yX11_hands wsX11_hands rm_X11_hands D (wk_T cB cI cJ) [.ref a_this, .int x1, .int x2] (w_X11_hands cB cI cJ a_this a_cards a_county a_holes a_text a_letter a_where a_rank a_value a_hour a_readLetter a_readWhere a_readRank a_readValue a_readHour a_listName a_listDay a_voterName a_voterDay a_voterCounty a_heaps a_speed a_four a_byRules a_hours a_rest a_yet a_put v_kept v_length v_items v_readItems v_at v_lists v_voters v_needed v_heaps v_hour v_hours v_letter v_rank v_speed v_value v_where) (w_X11_hands cB cI cJ a_this a_cards a_county a_holes a_text a_letter a_where a_rank a_value a_hour a_readLetter a_readWhere a_readRank a_readValue a_readHour a_listName a_listDay a_voterName a_voterDay a_voterCounty a_heaps a_speed a_four a_byRules a_hours a_rest a_yet a_put v_kept v_length v_items v_readItems v_at v_lists v_voters v_needed v_heaps v_hour o_hours v_letter v_rank v_speed v_value v_where) r := by
  refine MTi.of (cc := cX11_hands) (nL := 4) (rt := .int) (own := RX11) pn_X11 rfl rfl (Nat.le_of_ble_eq_true rfl) rfl ?_
  intro p e s m args below meth c A ls Q C hP hD hS hl hret
  obtain ⟨hx, hb, hml, hts, hown, hK, hN, hA, hlk⟩ := id C
  have hl : lv_has ls 4 [(0, .ref a_this), (1, .int x1), (2, .int x2)] := hl
  have L18 := wk_loopI (F := (fun k18 : (Nat → Int32) → Int32 → Option (Int32 × (Nat → Int32)) => B_X11_hands_18 N v_items v_heaps v_hour v_letter v_rank v_speed v_value v_where k18)) (bot := fun _ _ => none) (fun k18 : (Nat → Int32) → Int32 → Option (Int32 × (Nat → Int32)) => ∀ (v_hours : Nat → Int32) (x3 : Int32), k18 v_hours x3 = some (r, o_hours) → ∀ (H : Heap) (locs : List Loc) (ls : Array Slot), va_P D vwCl (w_X11_hands cB cI cJ a_this a_cards a_county a_holes a_text a_letter a_where a_rank a_value a_hour a_readLetter a_readWhere a_readRank a_readValue a_readHour a_listName a_listDay a_voterName a_voterDay a_voterCounty a_heaps a_speed a_four a_byRules a_hours a_rest a_yet a_put v_kept v_length v_items v_readItems v_at v_lists v_voters v_needed v_heaps v_hour v_hours v_letter v_rank v_speed v_value v_where) H → va_D A (w_X11_hands cB cI cJ a_this a_cards a_county a_holes a_text a_letter a_where a_rank a_value a_hour a_readLetter a_readWhere a_readRank a_readValue a_readHour a_listName a_listDay a_voterName a_voterDay a_voterCounty a_heaps a_speed a_four a_byRules a_hours a_rest a_yet a_put v_kept v_length v_items v_readItems v_at v_lists v_voters v_needed v_heaps v_hour v_hours v_letter v_rank v_speed v_value v_where) → va_S A s.heap H locs → lv_has ls 4 [(0, .ref a_this), (3, .int x3)] → W p l e rm_X11_hands s m args below meth c H locs 0 0 Q (F0 m 18 ls [])) (by intro v_hours x3 hf; exact wk_no hf) (by
    intro k18 ih18
    intro v_hours x3 hf H locs ls hP hD hS hl
    have hf : B_X11_hands_18 N v_items v_heaps v_hour v_letter v_rank v_speed v_value v_where k18 v_hours x3 = some (r, o_hours) := hf
    unfold B_X11_hands_18 at hf
    refine lv_iload_n hx hb dX11_hands_18 rfl (lv_at hl 1 rfl) ?_
    refine lv_bipush (v := (20 : Int32)) hx hb dX11_hands_19 (by decide) ?_
    refine lv_icmp_gt (tgt := 40) hx hb dX11_hands_21 (by decide) (fun c1 => ?_) (fun c1 => ?_)
    · have hf := wk_itT hf c1
      refine lv_bipush (v := (-4 : Int32)) hx hb dX11_hands_40 (by decide) ?_
      exact hret _ _ _ _ _ _ dX11_hands_42 (wk_rt hf (fun z => z.1)) (wk_rt hf (fun z => w_X11_hands cB cI cJ a_this a_cards a_county a_holes a_text a_letter a_where a_rank a_value a_hour a_readLetter a_readWhere a_readRank a_readValue a_readHour a_listName a_listDay a_voterName a_voterDay a_voterCounty a_heaps a_speed a_four a_byRules a_hours a_rest a_yet a_put v_kept v_length v_items v_readItems v_at v_lists v_voters v_needed v_heaps v_hour (z.2) v_letter v_rank v_speed v_value v_where)) hP hD hS
    · have hf := wk_itF hf c1
      refine lv_aload_n hx hb dX11_hands_24 rfl (lv_at hl 0 rfl) ?_
      refine lv_iload_n hx hb dX11_hands_25 rfl (lv_at hl 1 rfl) ?_
      obtain ⟨r2, hc2, hf⟩ := wk_b1E hf
      refine wk_callVi2 C hP hD hS (c_X11_does l D cB cI cJ N a_this a_cards a_county a_holes a_text a_letter a_where a_rank a_value a_hour a_readLetter a_readWhere a_readRank a_readValue a_readHour a_listName a_listDay a_voterName a_voterDay a_voterCounty a_heaps a_speed a_four a_byRules a_hours a_rest a_yet a_put v_kept v_length v_items v_readItems v_at v_lists v_voters v_needed v_heaps v_hours v_speed x3 hc2) (cwV 1 hts gX11_hands_X11_does rfl rfl rfl hd_X11_does ⟨Nat.le_of_ble_eq_true rfl, Nat.le_of_ble_eq_true rfl⟩) hl.1 ⟨Nat.zero_le _, Nat.zero_le _⟩ [0, 1, 3, 6] [2, 4, 5, 7, 8] 9 (by decide +kernel) rfl (Wn := w_X11_hands cB cI cJ a_this a_cards a_county a_holes a_text a_letter a_where a_rank a_value a_hour a_readLetter a_readWhere a_readRank a_readValue a_readHour a_listName a_listDay a_voterName a_voterDay a_voterCounty a_heaps a_speed a_four a_byRules a_hours a_rest a_yet a_put v_kept v_length v_items v_readItems v_at v_lists v_voters v_needed v_heaps v_hour v_hours v_letter v_rank v_speed v_value v_where) rfl rfl rfl rfl rfl rfl (ci := 11) rfl rfl (q0 := 0) rfl rfl rfl (Nat.le_of_ble_eq_true rfl) dX11_hands_26 (fun H locs hP hD hS => ?_)
      refine lv_if_eq (tgt := 34) hx hb dX11_hands_29 (by decide) (fun c3 => ?_) (fun c3 => ?_)
      · have hf := wk_itT hf c3
        obtain ⟨y4, ey4⟩ : ∃ y : Int32, y = x3 + (1 : Int32) := ⟨_, rfl⟩
        have hf := wk_nmE hf ey4
        refine lv_iinc (v := y4) (lv' := [(3, .int y4), (0, .ref a_this)]) hx hb dX11_hands_34 hl (k := 1) rfl (by rw [ey4]; rfl) (by decide) rfl (fun ls hl => ?_)
        refine lv_goto (tgt := 18) hx hb dX11_hands_37 (by decide) ?_
        exact ih18 _ _ hf _ _ _ hP hD hS (lv_sub hl [1, 0] rfl)
      · have hf := wk_itF hf c3
        refine lv_iload_n hx hb dX11_hands_32 rfl (lv_at hl 1 rfl) ?_
        exact hret _ _ _ _ _ _ dX11_hands_33 (wk_rt hf (fun z => z.1)) (wk_rt hf (fun z => w_X11_hands cB cI cJ a_this a_cards a_county a_holes a_text a_letter a_where a_rank a_value a_hour a_readLetter a_readWhere a_readRank a_readValue a_readHour a_listName a_listDay a_voterName a_voterDay a_voterCounty a_heaps a_speed a_four a_byRules a_hours a_rest a_yet a_put v_kept v_length v_items v_readItems v_at v_lists v_voters v_needed v_heaps v_hour (z.2) v_letter v_rank v_speed v_value v_where)) hP hD hS)
  unfold f_X11_hands at hf
  refine lv_iload_n hx hb dX11_hands_0 rfl (lv_at hl 1 rfl) ?_
  refine lv_iload_n hx hb dX11_hands_1 rfl (lv_at hl 2 rfl) ?_
  obtain ⟨r5, hc5, hf⟩ := wk_b1E hf
  refine wk_callSi2 C hP hD hS (c_X11_isSpan l D cB cI cJ N x1 x2 hc5) (va_cwS 2 hts gX11_hands_X11_isSpan rfl rfl rfl hd_X11_isSpan.2 ⟨Nat.le_of_ble_eq_true rfl, Nat.le_of_ble_eq_true rfl⟩) hl.1 ⟨Nat.zero_le _, Nat.zero_le _⟩ [] [0, 1, 2, 3, 4, 5, 6, 7, 8] 9 (by decide +kernel) rfl (Wn := w_X11_hands cB cI cJ a_this a_cards a_county a_holes a_text a_letter a_where a_rank a_value a_hour a_readLetter a_readWhere a_readRank a_readValue a_readHour a_listName a_listDay a_voterName a_voterDay a_voterCounty a_heaps a_speed a_four a_byRules a_hours a_rest a_yet a_put v_kept v_length v_items v_readItems v_at v_lists v_voters v_needed v_heaps v_hour v_hours v_letter v_rank v_speed v_value v_where) rfl rfl rfl rfl rfl rfl rfl rfl (Nat.le_of_ble_eq_true rfl) dX11_hands_2 (fun H locs hP hD hS => ?_)
  refine lv_if_ne (tgt := 10) hx hb dX11_hands_5 (by decide) (fun c6 => ?_) (fun c6 => ?_)
  · have hf := wk_itF hf c6
    refine lv_aload_n hx hb dX11_hands_10 rfl (lv_at hl 0 rfl) ?_
    refine lv_iload_n hx hb dX11_hands_11 rfl (lv_at hl 1 rfl) ?_
    refine lv_iload_n hx hb dX11_hands_12 rfl (lv_at hl 2 rfl) ?_
    obtain ⟨o7_0, hc7, hf⟩ := wk_b1E hf
    refine wk_callVv2 C hP hD hS (c_X11_opens l D cB cI cJ N a_this a_cards a_county a_holes a_text a_letter a_where a_rank a_value a_hour a_readLetter a_readWhere a_readRank a_readValue a_readHour a_listName a_listDay a_voterName a_voterDay a_voterCounty a_heaps a_speed a_four a_byRules a_hours a_rest a_yet a_put v_kept v_length v_items v_readItems v_at v_lists v_voters v_needed v_hour v_hours v_letter v_rank v_value v_where x1 x2 hc7) (cwV 2 hts gX11_hands_X11_opens rfl rfl rfl hd_X11_opens ⟨Nat.le_of_ble_eq_true rfl, Nat.le_of_ble_eq_true rfl⟩) hl.1 ⟨Nat.zero_le _, Nat.zero_le _⟩ [0, 2, 3, 4, 5, 7, 8] [1, 6] 9 (by decide +kernel) rfl (Wn := w_X11_hands cB cI cJ a_this a_cards a_county a_holes a_text a_letter a_where a_rank a_value a_hour a_readLetter a_readWhere a_readRank a_readValue a_readHour a_listName a_listDay a_voterName a_voterDay a_voterCounty a_heaps a_speed a_four a_byRules a_hours a_rest a_yet a_put v_kept v_length v_items v_readItems v_at v_lists v_voters v_needed v_heaps v_hour o7_0 v_letter v_rank v_speed v_value v_where) rfl rfl rfl rfl rfl rfl (ci := 11) rfl rfl (q0 := 0) rfl rfl rfl (Nat.le_of_ble_eq_true rfl) dX11_hands_13 (fun H locs hP hD hS => ?_)
    refine lv_iconst (v := (1 : Int32)) hx hb dX11_hands_16 (by decide) ?_
    refine lv_istore_n (lv' := [(3, .int (1 : Int32)), (0, .ref a_this), (1, .int x1), (2, .int x2)]) hx hb dX11_hands_17 rfl hl (by decide) rfl (fun ls hl => ?_)
    exact L18 N _ _ hf _ _ _ hP hD hS (lv_sub hl [1, 0] rfl)
  · have hf := wk_itT hf c6
    refine lv_iconst (v := (-1 : Int32)) hx hb dX11_hands_8 (by decide) ?_
    exact hret _ _ _ _ _ _ dX11_hands_9 (wk_rt hf (fun z => z.1)) (wk_rt hf (fun z => w_X11_hands cB cI cJ a_this a_cards a_county a_holes a_text a_letter a_where a_rank a_value a_hour a_readLetter a_readWhere a_readRank a_readValue a_readHour a_listName a_listDay a_voterName a_voterDay a_voterCounty a_heaps a_speed a_four a_byRules a_hours a_rest a_yet a_put v_kept v_length v_items v_readItems v_at v_lists v_voters v_needed v_heaps v_hour (z.2) v_letter v_rank v_speed v_value v_where)) hP hD hS
