abbrev w_X11_soonest (cB cI cJ : ClassId) (a_this : Nat) (a_cards : Nat) (a_county : Nat) (a_holes : Nat) (a_text : Nat) (a_letter : Nat) (a_where : Nat) (a_rank : Nat) (a_value : Nat) (a_hour : Nat) (a_readLetter : Nat) (a_readWhere : Nat) (a_readRank : Nat) (a_readValue : Nat) (a_readHour : Nat) (a_listName : Nat) (a_listDay : Nat) (a_voterName : Nat) (a_voterDay : Nat) (a_voterCounty : Nat) (a_heaps : Nat) (a_speed : Nat) (a_four : Nat) (a_byRules : Nat) (a_hours : Nat) (a_rest : Nat) (a_yet : Nat) (a_put : Nat) (v_kept : Int32) (v_length : Int32) (v_items : Int32) (v_readItems : Int32) (v_at : Int32) (v_lists : Int32) (v_voters : Int32) (v_needed : Int32) (v_heaps : Nat → Int32) (v_hour : Nat → Int32) (v_hours : Nat → Int32) (v_letter : Nat → Int32) (v_rank : Nat → Int32) (v_speed : Nat → Int32) (v_value : Nat → Int32) (v_where : Nat → Int32) : va_W := [(a_this, .inr (11, [.ref a_cards, .ref a_county, .ref a_holes, .int v_kept, .int v_length, .ref a_text, .int v_items, .ref a_letter, .ref a_where, .ref a_rank, .ref a_value, .ref a_hour, .int v_readItems, .ref a_readLetter, .ref a_readWhere, .ref a_readRank, .ref a_readValue, .ref a_readHour, .int v_at, .int v_lists, .ref a_listName, .ref a_listDay, .int v_voters, .ref a_voterName, .ref a_voterDay, .ref a_voterCounty, .int v_needed, .ref a_heaps, .ref a_speed, .ref a_four, .ref a_byRules, .ref a_hours, .ref a_rest, .ref a_yet, .ref a_put])), (a_heaps, .inl (cI, 5, .inl v_heaps)), (a_hour, .inl (cI, 40, .inl v_hour)), (a_hours, .inl (cI, 32, .inl v_hours)), (a_letter, .inl (cI, 40, .inl v_letter)), (a_rank, .inl (cI, 40, .inl v_rank)), (a_speed, .inl (cI, 5, .inl v_speed)), (a_value, .inl (cI, 40, .inl v_value)), (a_where, .inl (cI, 40, .inl v_where))]
theorem hd_X11_soonest : yX11_soonest.cls = RX11 ∧ yX11_soonest.cls ≠ "java/lang/invoke/MethodHandle" ∧ yX11_soonest.cls ≠ "java/lang/invoke/VarHandle" ∧ (parseMethodDescriptor yX11_soonest.desc).map (fun d => d.parameters.length) = some 2 := by decide +kernel
abbrev rm_X11_soonest : Room := { frames := 5, cells := 0, slots := 0, locals := 119 }
set_option maxHeartbeats 4000000 in
set_option maxRecDepth 100000 in
theorem c_X11_soonest (l : Launch) (D : va_G) (cB cI cJ : ClassId) (N : Nat) (a_this : Nat) (a_cards : Nat) (a_county : Nat) (a_holes : Nat) (a_text : Nat) (a_letter : Nat) (a_where : Nat) (a_rank : Nat) (a_value : Nat) (a_hour : Nat) (a_readLetter : Nat) (a_readWhere : Nat) (a_readRank : Nat) (a_readValue : Nat) (a_readHour : Nat) (a_listName : Nat) (a_listDay : Nat) (a_voterName : Nat) (a_voterDay : Nat) (a_voterCounty : Nat) (a_heaps : Nat) (a_speed : Nat) (a_four : Nat) (a_byRules : Nat) (a_hours : Nat) (a_rest : Nat) (a_yet : Nat) (a_put : Nat) (v_kept : Int32) (v_length : Int32) (v_items : Int32) (v_readItems : Int32) (v_at : Int32) (v_lists : Int32) (v_voters : Int32) (v_needed : Int32) (v_heaps : Nat → Int32) (v_hour : Nat → Int32) (v_hours : Nat → Int32) (v_letter : Nat → Int32) (v_rank : Nat → Int32) (v_speed : Nat → Int32) (v_value : Nat → Int32) (v_where : Nat → Int32) (x1 : Int32) (x2 : Int32) {r : Int32} {o_hours : Nat → Int32} (hf : f_X11_soonest N v_items v_heaps v_hour v_letter v_rank v_speed v_value v_where v_hours x1 x2 = some (r, o_hours)) : MTi l yX11_soonest wsX11_soonest rm_X11_soonest D (wk_T cB cI cJ) [.ref a_this, .int x1, .int x2] (w_X11_soonest cB cI cJ a_this a_cards a_county a_holes a_text a_letter a_where a_rank a_value a_hour a_readLetter a_readWhere a_readRank a_readValue a_readHour a_listName a_listDay a_voterName a_voterDay a_voterCounty a_heaps a_speed a_four a_byRules a_hours a_rest a_yet a_put v_kept v_length v_items v_readItems v_at v_lists v_voters v_needed v_heaps v_hour v_hours v_letter v_rank v_speed v_value v_where) (w_X11_soonest cB cI cJ a_this a_cards a_county a_holes a_text a_letter a_where a_rank a_value a_hour a_readLetter a_readWhere a_readRank a_readValue a_readHour a_listName a_listDay a_voterName a_voterDay a_voterCounty a_heaps a_speed a_four a_byRules a_hours a_rest a_yet a_put v_kept v_length v_items v_readItems v_at v_lists v_voters v_needed v_heaps v_hour o_hours v_letter v_rank v_speed v_value v_where) r := by
  refine MTi.of (cc := cX11_soonest) (nL := 4) (rt := .int) (own := RX11) pn_X11 rfl rfl (Nat.le_of_ble_eq_true rfl) rfl ?_
  intro p e s m args below meth c A ls Q C hP hD hS hl hret
  obtain ⟨hx, hb, hml, hts, hown, hK, hN, hA, hlk⟩ := id C
  have hl : lv_has ls 4 [(0, .ref a_this), (1, .int x1), (2, .int x2)] := hl
  have L29 := wk_loopI (F := (fun k29 : (Nat → Int32) → Int32 → Int32 → Option (Int32 × (Nat → Int32)) => B_X11_soonest_29 N v_items v_heaps v_hour v_letter v_rank v_speed v_value v_where k29)) (bot := fun _ _ _ => none) (fun k29 : (Nat → Int32) → Int32 → Int32 → Option (Int32 × (Nat → Int32)) => ∀ (v_hours : Nat → Int32) (x2 : Int32) (x3 : Int32), k29 v_hours x2 x3 = some (r, o_hours) → ∀ (H : Heap) (locs : List Loc) (ls : Array Slot), va_P D vwCl (w_X11_soonest cB cI cJ a_this a_cards a_county a_holes a_text a_letter a_where a_rank a_value a_hour a_readLetter a_readWhere a_readRank a_readValue a_readHour a_listName a_listDay a_voterName a_voterDay a_voterCounty a_heaps a_speed a_four a_byRules a_hours a_rest a_yet a_put v_kept v_length v_items v_readItems v_at v_lists v_voters v_needed v_heaps v_hour v_hours v_letter v_rank v_speed v_value v_where) H → va_D A (w_X11_soonest cB cI cJ a_this a_cards a_county a_holes a_text a_letter a_where a_rank a_value a_hour a_readLetter a_readWhere a_readRank a_readValue a_readHour a_listName a_listDay a_voterName a_voterDay a_voterCounty a_heaps a_speed a_four a_byRules a_hours a_rest a_yet a_put v_kept v_length v_items v_readItems v_at v_lists v_voters v_needed v_heaps v_hour v_hours v_letter v_rank v_speed v_value v_where) → va_S A s.heap H locs → lv_has ls 4 [(0, .ref a_this), (2, .int x2), (3, .int x3)] → W p l e rm_X11_soonest s m args below meth c H locs 0 0 Q (F0 m 29 ls [])) (by intro v_hours x2 x3 hf; exact wk_no hf) (by
    intro k29 ih29
    intro v_hours x2 x3 hf H locs ls hP hD hS hl
    have hf : B_X11_soonest_29 N v_items v_heaps v_hour v_letter v_rank v_speed v_value v_where k29 v_hours x2 x3 = some (r, o_hours) := hf
    unfold B_X11_soonest_29 at hf
    refine lv_iload_n hx hb dX11_soonest_29 rfl (lv_at hl 2 rfl) ?_
    refine lv_sipush (v := (1000 : Int32)) hx hb dX11_soonest_30 (by decide) ?_
    refine lv_icmp_gt (tgt := 64) hx hb dX11_soonest_33 (by decide) (fun c1 => ?_) (fun c1 => ?_)
    · have hf := wk_itT hf c1
      refine lv_bipush (v := (-4 : Int32)) hx hb dX11_soonest_64 (by decide) ?_
      exact hret _ _ _ _ _ _ dX11_soonest_66 (wk_rt hf (fun z => z.1)) (wk_rt hf (fun z => w_X11_soonest cB cI cJ a_this a_cards a_county a_holes a_text a_letter a_where a_rank a_value a_hour a_readLetter a_readWhere a_readRank a_readValue a_readHour a_listName a_listDay a_voterName a_voterDay a_voterCounty a_heaps a_speed a_four a_byRules a_hours a_rest a_yet a_put v_kept v_length v_items v_readItems v_at v_lists v_voters v_needed v_heaps v_hour (z.2) v_letter v_rank v_speed v_value v_where)) hP hD hS
    · have hf := wk_itF hf c1
      refine lv_aload_n hx hb dX11_soonest_36 rfl (lv_at hl 0 rfl) ?_
      refine lv_iload_n hx hb dX11_soonest_37 rfl (lv_at hl 1 rfl) ?_
      obtain ⟨r2, hc2, hf⟩ := wk_b1E hf
      refine wk_callVi2 C hP hD hS (c_X11_does l D cB cI cJ N a_this a_cards a_county a_holes a_text a_letter a_where a_rank a_value a_hour a_readLetter a_readWhere a_readRank a_readValue a_readHour a_listName a_listDay a_voterName a_voterDay a_voterCounty a_heaps a_speed a_four a_byRules a_hours a_rest a_yet a_put v_kept v_length v_items v_readItems v_at v_lists v_voters v_needed v_heaps v_hours v_speed x2 hc2) (cwV 1 hts gX11_soonest_X11_does rfl rfl rfl hd_X11_does ⟨Nat.le_of_ble_eq_true rfl, Nat.le_of_ble_eq_true rfl⟩) hl.1 ⟨Nat.zero_le _, Nat.zero_le _⟩ [0, 1, 3, 6] [2, 4, 5, 7, 8] 9 (by decide +kernel) rfl (Wn := w_X11_soonest cB cI cJ a_this a_cards a_county a_holes a_text a_letter a_where a_rank a_value a_hour a_readLetter a_readWhere a_readRank a_readValue a_readHour a_listName a_listDay a_voterName a_voterDay a_voterCounty a_heaps a_speed a_four a_byRules a_hours a_rest a_yet a_put v_kept v_length v_items v_readItems v_at v_lists v_voters v_needed v_heaps v_hour v_hours v_letter v_rank v_speed v_value v_where) rfl rfl rfl rfl rfl rfl (ci := 11) rfl rfl (q0 := 0) rfl rfl rfl (Nat.le_of_ble_eq_true rfl) dX11_soonest_38 (fun H locs hP hD hS => ?_)
      refine lv_if_eq (tgt := 46) hx hb dX11_soonest_41 (by decide) (fun c3 => ?_) (fun c3 => ?_)
      · have hf := wk_itT hf c3
        refine lv_iload_n hx hb dX11_soonest_46 rfl (lv_at hl 2 rfl) ?_
        refine lv_sipush (v := (1000 : Int32)) hx hb dX11_soonest_47 (by decide) ?_
        refine lv_icmp_ge (tgt := 58) hx hb dX11_soonest_50 (by decide) (fun c4 => ?_) (fun c4 => ?_)
        · have hf := wk_itT hf c4
          obtain ⟨y5, ey5⟩ : ∃ y : Int32, y = x3 + (1 : Int32) := ⟨_, rfl⟩
          have hf := wk_nmE hf ey5
          refine lv_iinc (v := y5) (lv' := [(3, .int y5), (0, .ref a_this), (2, .int x2)]) hx hb dX11_soonest_58 hl (k := 2) rfl (by rw [ey5]; rfl) (by decide) rfl (fun ls hl => ?_)
          refine lv_goto (tgt := 29) hx hb dX11_soonest_61 (by decide) ?_
          exact ih29 _ _ _ hf _ _ _ hP hD hS (lv_sub hl [1, 2, 0] rfl)
        · have hf := wk_itF hf c4
          refine lv_aload_n hx hb dX11_soonest_53 rfl (lv_at hl 0 rfl) ?_
          refine lv_iload_n hx hb dX11_soonest_54 rfl (lv_at hl 2 rfl) ?_
          obtain ⟨o6_0, hc6, hf⟩ := wk_b1E hf
          refine wk_callVv2 C hP hD hS (c_X11_adds l D cB cI cJ N a_this a_cards a_county a_holes a_text a_letter a_where a_rank a_value a_hour a_readLetter a_readWhere a_readRank a_readValue a_readHour a_listName a_listDay a_voterName a_voterDay a_voterCounty a_heaps a_speed a_four a_byRules a_hours a_rest a_yet a_put v_kept v_length v_items v_readItems v_at v_lists v_voters v_needed v_hour v_hours v_letter v_rank v_value v_where x3 hc6) (cwV 1 hts gX11_soonest_X11_adds rfl rfl rfl hd_X11_adds ⟨Nat.le_of_ble_eq_true rfl, Nat.le_of_ble_eq_true rfl⟩) hl.1 ⟨Nat.zero_le _, Nat.zero_le _⟩ [0, 2, 3, 4, 5, 7, 8] [1, 6] 9 (by decide +kernel) rfl (Wn := w_X11_soonest cB cI cJ a_this a_cards a_county a_holes a_text a_letter a_where a_rank a_value a_hour a_readLetter a_readWhere a_readRank a_readValue a_readHour a_listName a_listDay a_voterName a_voterDay a_voterCounty a_heaps a_speed a_four a_byRules a_hours a_rest a_yet a_put v_kept v_length v_items v_readItems v_at v_lists v_voters v_needed v_heaps v_hour o6_0 v_letter v_rank v_speed v_value v_where) rfl rfl rfl rfl rfl rfl (ci := 11) rfl rfl (q0 := 0) rfl rfl rfl (Nat.le_of_ble_eq_true rfl) dX11_soonest_55 (fun H locs hP hD hS => ?_)
          obtain ⟨y7, ey7⟩ : ∃ y : Int32, y = x3 + (1 : Int32) := ⟨_, rfl⟩
          have hf := wk_nmE hf ey7
          refine lv_iinc (v := y7) (lv' := [(3, .int y7), (0, .ref a_this), (2, .int x2)]) hx hb dX11_soonest_58 hl (k := 2) rfl (by rw [ey7]; rfl) (by decide) rfl (fun ls hl => ?_)
          refine lv_goto (tgt := 29) hx hb dX11_soonest_61 (by decide) ?_
          exact ih29 _ _ _ hf _ _ _ hP hD hS (lv_sub hl [1, 2, 0] rfl)
      · have hf := wk_itF hf c3
        refine lv_iload_n hx hb dX11_soonest_44 rfl (lv_at hl 2 rfl) ?_
        exact hret _ _ _ _ _ _ dX11_soonest_45 (wk_rt hf (fun z => z.1)) (wk_rt hf (fun z => w_X11_soonest cB cI cJ a_this a_cards a_county a_holes a_text a_letter a_where a_rank a_value a_hour a_readLetter a_readWhere a_readRank a_readValue a_readHour a_listName a_listDay a_voterName a_voterDay a_voterCounty a_heaps a_speed a_four a_byRules a_hours a_rest a_yet a_put v_kept v_length v_items v_readItems v_at v_lists v_voters v_needed v_heaps v_hour (z.2) v_letter v_rank v_speed v_value v_where)) hP hD hS)
  unfold f_X11_soonest at hf
  refine lv_iload_n hx hb dX11_soonest_0 rfl (lv_at hl 1 rfl) ?_
  obtain ⟨r8, hc8, hf⟩ := wk_b1E hf
  refine wk_callSi2 C hP hD hS (c_X11_isHour l D cB cI cJ N x1 hc8) (va_cwS 1 hts gX11_soonest_X11_isHour rfl rfl rfl hd_X11_isHour.2 ⟨Nat.le_of_ble_eq_true rfl, Nat.le_of_ble_eq_true rfl⟩) hl.1 ⟨Nat.zero_le _, Nat.zero_le _⟩ [] [0, 1, 2, 3, 4, 5, 6, 7, 8] 9 (by decide +kernel) rfl (Wn := w_X11_soonest cB cI cJ a_this a_cards a_county a_holes a_text a_letter a_where a_rank a_value a_hour a_readLetter a_readWhere a_readRank a_readValue a_readHour a_listName a_listDay a_voterName a_voterDay a_voterCounty a_heaps a_speed a_four a_byRules a_hours a_rest a_yet a_put v_kept v_length v_items v_readItems v_at v_lists v_voters v_needed v_heaps v_hour v_hours v_letter v_rank v_speed v_value v_where) rfl rfl rfl rfl rfl rfl rfl rfl (Nat.le_of_ble_eq_true rfl) dX11_soonest_1 (fun H locs hP hD hS => ?_)
  refine lv_if_eq (tgt := 19) hx hb dX11_soonest_4 (by decide) (fun c9 => ?_) (fun c9 => ?_)
  · have hf := wk_itT hf c9
    refine lv_iconst (v := (-1 : Int32)) hx hb dX11_soonest_19 (by decide) ?_
    exact hret _ _ _ _ _ _ dX11_soonest_20 (wk_rt hf (fun z => z.1)) (wk_rt hf (fun z => w_X11_soonest cB cI cJ a_this a_cards a_county a_holes a_text a_letter a_where a_rank a_value a_hour a_readLetter a_readWhere a_readRank a_readValue a_readHour a_listName a_listDay a_voterName a_voterDay a_voterCounty a_heaps a_speed a_four a_byRules a_hours a_rest a_yet a_put v_kept v_length v_items v_readItems v_at v_lists v_voters v_needed v_heaps v_hour (z.2) v_letter v_rank v_speed v_value v_where)) hP hD hS
  · have hf := wk_itF hf c9
    refine lv_iload_n hx hb dX11_soonest_7 rfl (lv_at hl 2 rfl) ?_
    refine lv_i2l (v := (x2.toInt64)) hx hb dX11_soonest_8 rfl ?_
    refine lv_lconst (v := (1 : Int64)) hx hb dX11_soonest_9 (by decide) ?_
    refine lv_ldc2 (v := (20 : Int64)) hx hb hown (hts (.constantLong RX11 278 (20)) (List.mem_of_getElem? (i := 1) rfl)) dX11_soonest_10 ?_
    obtain ⟨r10, hc10, hf⟩ := wk_b1E hf
    refine wk_callSi2 C hP hD hS (c_X11_in l D cB cI cJ N (x2.toInt64) (1 : Int64) (20 : Int64) hc10) (va_cwS 3 hts gX11_soonest_X11_in rfl rfl rfl hd_X11_in.2 ⟨Nat.le_of_ble_eq_true rfl, Nat.le_of_ble_eq_true rfl⟩) hl.1 ⟨Nat.zero_le _, Nat.zero_le _⟩ [] [0, 1, 2, 3, 4, 5, 6, 7, 8] 9 (by decide +kernel) rfl (Wn := w_X11_soonest cB cI cJ a_this a_cards a_county a_holes a_text a_letter a_where a_rank a_value a_hour a_readLetter a_readWhere a_readRank a_readValue a_readHour a_listName a_listDay a_voterName a_voterDay a_voterCounty a_heaps a_speed a_four a_byRules a_hours a_rest a_yet a_put v_kept v_length v_items v_readItems v_at v_lists v_voters v_needed v_heaps v_hour v_hours v_letter v_rank v_speed v_value v_where) rfl rfl rfl rfl rfl rfl rfl rfl (Nat.le_of_ble_eq_true rfl) dX11_soonest_13 (fun H locs hP hD hS => ?_)
    refine lv_if_ne (tgt := 21) hx hb dX11_soonest_16 (by decide) (fun c11 => ?_) (fun c11 => ?_)
    · have hf := wk_itF hf c11
      refine lv_aload_n hx hb dX11_soonest_21 rfl (lv_at hl 0 rfl) ?_
      refine lv_iload_n hx hb dX11_soonest_22 rfl (lv_at hl 1 rfl) ?_
      refine lv_iload_n hx hb dX11_soonest_23 rfl (lv_at hl 1 rfl) ?_
      obtain ⟨o12_0, hc12, hf⟩ := wk_b1E hf
      refine wk_callVv2 C hP hD hS (c_X11_opens l D cB cI cJ N a_this a_cards a_county a_holes a_text a_letter a_where a_rank a_value a_hour a_readLetter a_readWhere a_readRank a_readValue a_readHour a_listName a_listDay a_voterName a_voterDay a_voterCounty a_heaps a_speed a_four a_byRules a_hours a_rest a_yet a_put v_kept v_length v_items v_readItems v_at v_lists v_voters v_needed v_hour v_hours v_letter v_rank v_value v_where x1 x1 hc12) (cwV 2 hts gX11_soonest_X11_opens rfl rfl rfl hd_X11_opens ⟨Nat.le_of_ble_eq_true rfl, Nat.le_of_ble_eq_true rfl⟩) hl.1 ⟨Nat.zero_le _, Nat.zero_le _⟩ [0, 2, 3, 4, 5, 7, 8] [1, 6] 9 (by decide +kernel) rfl (Wn := w_X11_soonest cB cI cJ a_this a_cards a_county a_holes a_text a_letter a_where a_rank a_value a_hour a_readLetter a_readWhere a_readRank a_readValue a_readHour a_listName a_listDay a_voterName a_voterDay a_voterCounty a_heaps a_speed a_four a_byRules a_hours a_rest a_yet a_put v_kept v_length v_items v_readItems v_at v_lists v_voters v_needed v_heaps v_hour o12_0 v_letter v_rank v_speed v_value v_where) rfl rfl rfl rfl rfl rfl (ci := 11) rfl rfl (q0 := 0) rfl rfl rfl (Nat.le_of_ble_eq_true rfl) dX11_soonest_24 (fun H locs hP hD hS => ?_)
      refine lv_iload_n hx hb dX11_soonest_27 rfl (lv_at hl 1 rfl) ?_
      refine lv_istore_n (lv' := [(3, .int x1), (0, .ref a_this), (1, .int x1), (2, .int x2)]) hx hb dX11_soonest_28 rfl hl (by decide) rfl (fun ls hl => ?_)
      exact L29 N _ _ _ hf _ _ _ hP hD hS (lv_sub hl [1, 3, 0] rfl)
    · have hf := wk_itT hf c11
      refine lv_iconst (v := (-1 : Int32)) hx hb dX11_soonest_19 (by decide) ?_
      exact hret _ _ _ _ _ _ dX11_soonest_20 (wk_rt hf (fun z => z.1)) (wk_rt hf (fun z => w_X11_soonest cB cI cJ a_this a_cards a_county a_holes a_text a_letter a_where a_rank a_value a_hour a_readLetter a_readWhere a_readRank a_readValue a_readHour a_listName a_listDay a_voterName a_voterDay a_voterCounty a_heaps a_speed a_four a_byRules a_hours a_rest a_yet a_put v_kept v_length v_items v_readItems v_at v_lists v_voters v_needed v_heaps v_hour (z.2) v_letter v_rank v_speed v_value v_where)) hP hD hS
abbrev w_X11_tables (cB cI cJ : ClassId) (a_this : Nat) (a_cards : Nat) (a_county : Nat) (a_holes : Nat) (a_text : Nat) (a_letter : Nat) (a_where : Nat) (a_rank : Nat) (a_value : Nat) (a_hour : Nat) (a_readLetter : Nat) (a_readWhere : Nat) (a_readRank : Nat) (a_readValue : Nat) (a_readHour : Nat) (a_listName : Nat) (a_listDay : Nat) (a_voterName : Nat) (a_voterDay : Nat) (a_voterCounty : Nat) (a_heaps : Nat) (a_speed : Nat) (a_four : Nat) (a_byRules : Nat) (a_hours : Nat) (a_rest : Nat) (a_yet : Nat) (a_put : Nat) (v_kept : Int32) (v_length : Int32) (v_items : Int32) (v_readItems : Int32) (v_at : Int32) (v_lists : Int32) (v_voters : Int32) (v_needed : Int32) (v_heaps : Nat → Int32) (v_hour : Nat → Int32) (v_letter : Nat → Int32) (v_put : Nat → Int32) (v_rank : Nat → Int32) (v_rest : Nat → Int32) (v_speed : Nat → Int32) (v_value : Nat → Int32) (v_where : Nat → Int32) (v_yet : Nat → Int32) : va_W := [(a_this, .inr (11, [.ref a_cards, .ref a_county, .ref a_holes, .int v_kept, .int v_length, .ref a_text, .int v_items, .ref a_letter, .ref a_where, .ref a_rank, .ref a_value, .ref a_hour, .int v_readItems, .ref a_readLetter, .ref a_readWhere, .ref a_readRank, .ref a_readValue, .ref a_readHour, .int v_at, .int v_lists, .ref a_listName, .ref a_listDay, .int v_voters, .ref a_voterName, .ref a_voterDay, .ref a_voterCounty, .int v_needed, .ref a_heaps, .ref a_speed, .ref a_four, .ref a_byRules, .ref a_hours, .ref a_rest, .ref a_yet, .ref a_put])), (a_heaps, .inl (cI, 5, .inl v_heaps)), (a_hour, .inl (cI, 40, .inl v_hour)), (a_letter, .inl (cI, 40, .inl v_letter)), (a_put, .inl (cI, 5, .inl v_put)), (a_rank, .inl (cI, 40, .inl v_rank)), (a_rest, .inl (cI, 5, .inl v_rest)), (a_speed, .inl (cI, 5, .inl v_speed)), (a_value, .inl (cI, 40, .inl v_value)), (a_where, .inl (cI, 40, .inl v_where)), (a_yet, .inl (cI, 5, .inl v_yet))]
theorem hd_X11_tables : yX11_tables.cls = RX11 ∧ yX11_tables.cls ≠ "java/lang/invoke/MethodHandle" ∧ yX11_tables.cls ≠ "java/lang/invoke/VarHandle" ∧ (parseMethodDescriptor yX11_tables.desc).map (fun d => d.parameters.length) = some 4 := by decide +kernel
abbrev rm_X11_tables : Room := { frames := 3, cells := 0, slots := 0, locals := 73 }
theorem in_X11_tables_X11 : ∀ w ∈ wsX110, w ∈ wsX11_tables := fun w h => List.mem_cons_of_mem _ (List.mem_append_right _ h)
set_option maxHeartbeats 4000000 in
set_option maxRecDepth 100000 in
theorem c_X11_tables (l : Launch) (D : va_G) (cB cI cJ : ClassId) (N : Nat) (a_this : Nat) (a_cards : Nat) (a_county : Nat) (a_holes : Nat) (a_text : Nat) (a_letter : Nat) (a_where : Nat) (a_rank : Nat) (a_value : Nat) (a_hour : Nat) (a_readLetter : Nat) (a_readWhere : Nat) (a_readRank : Nat) (a_readValue : Nat) (a_readHour : Nat) (a_listName : Nat) (a_listDay : Nat) (a_voterName : Nat) (a_voterDay : Nat) (a_voterCounty : Nat) (a_heaps : Nat) (a_speed : Nat) (a_four : Nat) (a_byRules : Nat) (a_hours : Nat) (a_rest : Nat) (a_yet : Nat) (a_put : Nat) (v_kept : Int32) (v_length : Int32) (v_items : Int32) (v_readItems : Int32) (v_at : Int32) (v_lists : Int32) (v_voters : Int32) (v_needed : Int32) (v_heaps : Nat → Int32) (v_hour : Nat → Int32) (v_letter : Nat → Int32) (v_put : Nat → Int32) (v_rank : Nat → Int32) (v_rest : Nat → Int32) (v_speed : Nat → Int32) (v_value : Nat → Int32) (v_where : Nat → Int32) (v_yet : Nat → Int32) (x1 : Int32) (x2 : Int32) (x3 : Int32) (x4 : Int32) {o_put : Nat → Int32} {o_rest : Nat → Int32} {o_yet : Nat → Int32} (hf : f_X11_tables N v_items v_heaps v_hour v_letter v_rank v_speed v_value v_where v_put v_rest v_yet x1 x2 x3 x4 = some (o_put, o_rest, o_yet)) : MTv l yX11_tables wsX11_tables rm_X11_tables D (wk_T cB cI cJ) [.ref a_this, .int x1, .int x2, .int x3, .int x4] (w_X11_tables cB cI cJ a_this a_cards a_county a_holes a_text a_letter a_where a_rank a_value a_hour a_readLetter a_readWhere a_readRank a_readValue a_readHour a_listName a_listDay a_voterName a_voterDay a_voterCounty a_heaps a_speed a_four a_byRules a_hours a_rest a_yet a_put v_kept v_length v_items v_readItems v_at v_lists v_voters v_needed v_heaps v_hour v_letter v_put v_rank v_rest v_speed v_value v_where v_yet) (w_X11_tables cB cI cJ a_this a_cards a_county a_holes a_text a_letter a_where a_rank a_value a_hour a_readLetter a_readWhere a_readRank a_readValue a_readHour a_listName a_listDay a_voterName a_voterDay a_voterCounty a_heaps a_speed a_four a_byRules a_hours a_rest a_yet a_put v_kept v_length v_items v_readItems v_at v_lists v_voters v_needed v_heaps v_hour v_letter o_put v_rank o_rest v_speed v_value v_where o_yet) := by
  refine MTv.of (cc := cX11_tables) (nL := 11) (own := RX11) pn_X11 rfl rfl (Nat.le_of_ble_eq_true rfl) ?_
  intro p e s m args below meth c A ls Q C hP hD hS hl hret
  obtain ⟨hx, hb, hml, hts, hown, hK, hN, hA, hlk⟩ := id C
  have hl : lv_has ls 11 [(0, .ref a_this), (1, .int x1), (2, .int x2), (3, .int x3), (4, .int x4)] := hl
  have L110 := wk_loopI (F := (fun k110 : (Nat → Int32) → (Nat → Int32) → (Nat → Int32) → Int32 → Int32 → Int32 → Option ((Nat → Int32) × (Nat → Int32) × (Nat → Int32)) => B_X11_tables_110 N v_items v_heaps v_hour v_letter v_rank v_speed v_value v_where k110)) (bot := fun _ _ _ _ _ _ => none) (fun k110 : (Nat → Int32) → (Nat → Int32) → (Nat → Int32) → Int32 → Int32 → Int32 → Option ((Nat → Int32) × (Nat → Int32) × (Nat → Int32)) => ∀ (v_put : Nat → Int32) (v_rest : Nat → Int32) (v_yet : Nat → Int32) (x3 : Int32) (x4 : Int32) (x5 : Int32), k110 v_put v_rest v_yet x3 x4 x5 = some (o_put, o_rest, o_yet) → ∀ (H : Heap) (locs : List Loc) (ls : Array Slot), va_P D vwCl (w_X11_tables cB cI cJ a_this a_cards a_county a_holes a_text a_letter a_where a_rank a_value a_hour a_readLetter a_readWhere a_readRank a_readValue a_readHour a_listName a_listDay a_voterName a_voterDay a_voterCounty a_heaps a_speed a_four a_byRules a_hours a_rest a_yet a_put v_kept v_length v_items v_readItems v_at v_lists v_voters v_needed v_heaps v_hour v_letter v_put v_rank v_rest v_speed v_value v_where v_yet) H → va_D A (w_X11_tables cB cI cJ a_this a_cards a_county a_holes a_text a_letter a_where a_rank a_value a_hour a_readLetter a_readWhere a_readRank a_readValue a_readHour a_listName a_listDay a_voterName a_voterDay a_voterCounty a_heaps a_speed a_four a_byRules a_hours a_rest a_yet a_put v_kept v_length v_items v_readItems v_at v_lists v_voters v_needed v_heaps v_hour v_letter v_put v_rank v_rest v_speed v_value v_where v_yet) → va_S A s.heap H locs → lv_has ls 11 [(0, .ref a_this), (3, .int x3), (4, .int x4), (5, .int x5)] → W p l e rm_X11_tables s m args below meth c H locs 0 0 Q (F0 m 110 ls [])) (by intro v_put v_rest v_yet x3 x4 x5 hf; exact wk_no hf) (by
    intro k110 ih110
    have L280 := wk_loopI (F := (fun k280 : (Nat → Int32) → (Nat → Int32) → (Nat → Int32) → Int32 → Int32 → Int32 → Int32 → Int32 → Option ((Nat → Int32) × (Nat → Int32) × (Nat → Int32)) => B_X11_tables_280 N v_items v_heaps v_hour v_letter v_rank v_speed v_value v_where k110 k280)) (bot := fun _ _ _ _ _ _ _ _ => none) (fun k280 : (Nat → Int32) → (Nat → Int32) → (Nat → Int32) → Int32 → Int32 → Int32 → Int32 → Int32 → Option ((Nat → Int32) × (Nat → Int32) × (Nat → Int32)) => ∀ (v_put : Nat → Int32) (v_rest : Nat → Int32) (v_yet : Nat → Int32) (x3 : Int32) (x4 : Int32) (x5 : Int32) (x6 : Int32) (x9 : Int32), k280 v_put v_rest v_yet x3 x4 x5 x6 x9 = some (o_put, o_rest, o_yet) → ∀ (H : Heap) (locs : List Loc) (ls : Array Slot), va_P D vwCl (w_X11_tables cB cI cJ a_this a_cards a_county a_holes a_text a_letter a_where a_rank a_value a_hour a_readLetter a_readWhere a_readRank a_readValue a_readHour a_listName a_listDay a_voterName a_voterDay a_voterCounty a_heaps a_speed a_four a_byRules a_hours a_rest a_yet a_put v_kept v_length v_items v_readItems v_at v_lists v_voters v_needed v_heaps v_hour v_letter v_put v_rank v_rest v_speed v_value v_where v_yet) H → va_D A (w_X11_tables cB cI cJ a_this a_cards a_county a_holes a_text a_letter a_where a_rank a_value a_hour a_readLetter a_readWhere a_readRank a_readValue a_readHour a_listName a_listDay a_voterName a_voterDay a_voterCounty a_heaps a_speed a_four a_byRules a_hours a_rest a_yet a_put v_kept v_length v_items v_readItems v_at v_lists v_voters v_needed v_heaps v_hour v_letter v_put v_rank v_rest v_speed v_value v_where v_yet) → va_S A s.heap H locs → lv_has ls 11 [(0, .ref a_this), (3, .int x3), (4, .int x4), (5, .int x5), (6, .int x6), (9, .int x9)] → W p l e rm_X11_tables s m args below meth c H locs 0 0 Q (F0 m 280 ls [])) (by intro v_put v_rest v_yet x3 x4 x5 x6 x9 hf; exact wk_no hf) (by
      intro k280 ih280
      have J326 : ∀ (v_put : Nat → Int32) (v_rest : Nat → Int32) (v_yet : Nat → Int32) (x3 : Int32) (x4 : Int32) (x5 : Int32) (x6 : Int32) (x9 : Int32) (s1 : Int32) (s2 : Int32) (s3 : Int32), B_X11_tables_326 N v_items v_heaps v_hour v_letter v_rank v_speed v_value v_where k110 k280 v_put v_rest v_yet x3 x4 x5 x6 x9 s1 s2 s3 = some (o_put, o_rest, o_yet) → ∀ (H : Heap) (locs : List Loc) (ls : Array Slot), va_P D vwCl (w_X11_tables cB cI cJ a_this a_cards a_county a_holes a_text a_letter a_where a_rank a_value a_hour a_readLetter a_readWhere a_readRank a_readValue a_readHour a_listName a_listDay a_voterName a_voterDay a_voterCounty a_heaps a_speed a_four a_byRules a_hours a_rest a_yet a_put v_kept v_length v_items v_readItems v_at v_lists v_voters v_needed v_heaps v_hour v_letter v_put v_rank v_rest v_speed v_value v_where v_yet) H → va_D A (w_X11_tables cB cI cJ a_this a_cards a_county a_holes a_text a_letter a_where a_rank a_value a_hour a_readLetter a_readWhere a_readRank a_readValue a_readHour a_listName a_listDay a_voterName a_voterDay a_voterCounty a_heaps a_speed a_four a_byRules a_hours a_rest a_yet a_put v_kept v_length v_items v_readItems v_at v_lists v_voters v_needed v_heaps v_hour v_letter v_put v_rank v_rest v_speed v_value v_where v_yet) → va_S A s.heap H locs → lv_has ls 11 [(0, .ref a_this), (3, .int x3), (4, .int x4), (5, .int x5), (6, .int x6), (9, .int x9)] → W p l e rm_X11_tables s m args below meth c H locs 0 0 Q (F0 m 326 ls [.int s3, .int s2, .int s1, .ref a_yet]) := by
        intro v_put v_rest v_yet x3 x4 x5 x6 x9 s1 s2 s3 hf H locs ls hP hD hS hl
        unfold B_X11_tables_326 at hf
        refine lv_isub hx hb dX11_tables_326 ?_
        obtain ⟨hi1, hf⟩ := wk_ckE hf
        refine va_iast hx hb hK hP hD hS 10 0 rfl rfl hi1 dX11_tables_327 (fun H locs hP hD hS => ?_)
        have hP : va_P D vwCl (w_X11_tables cB cI cJ a_this a_cards a_county a_holes a_text a_letter a_where a_rank a_value a_hour a_readLetter a_readWhere a_readRank a_readValue a_readHour a_listName a_listDay a_voterName a_voterDay a_voterCounty a_heaps a_speed a_four a_byRules a_hours a_rest a_yet a_put v_kept v_length v_items v_readItems v_at v_lists v_voters v_needed v_heaps v_hour v_letter v_put v_rank v_rest v_speed v_value v_where (upd v_yet s1.toNatClampNeg (s2 - s3))) H := hP
        have hD : va_D A (w_X11_tables cB cI cJ a_this a_cards a_county a_holes a_text a_letter a_where a_rank a_value a_hour a_readLetter a_readWhere a_readRank a_readValue a_readHour a_listName a_listDay a_voterName a_voterDay a_voterCounty a_heaps a_speed a_four a_byRules a_hours a_rest a_yet a_put v_kept v_length v_items v_readItems v_at v_lists v_voters v_needed v_heaps v_hour v_letter v_put v_rank v_rest v_speed v_value v_where (upd v_yet s1.toNatClampNeg (s2 - s3))) := hD
        obtain ⟨y2, ey2⟩ : ∃ y : Int32, y = x9 + (1 : Int32) := ⟨_, rfl⟩
        have hf := wk_nmE hf ey2
        refine lv_iinc (v := y2) (lv' := [(9, .int y2), (0, .ref a_this), (3, .int x3), (4, .int x4), (5, .int x5), (6, .int x6)]) hx hb dX11_tables_328 hl (k := 5) rfl (by rw [ey2]; rfl) (by decide) rfl (fun ls hl => ?_)
        refine lv_goto (tgt := 280) hx hb dX11_tables_331 (by decide) ?_
        exact ih280 _ _ _ _ _ _ _ _ hf _ _ _ hP hD hS (lv_sub hl [1, 2, 3, 4, 5, 0] rfl)
      intro v_put v_rest v_yet x3 x4 x5 x6 x9 hf H locs ls hP hD hS hl
      have hf : B_X11_tables_280 N v_items v_heaps v_hour v_letter v_rank v_speed v_value v_where k110 k280 v_put v_rest v_yet x3 x4 x5 x6 x9 = some (o_put, o_rest, o_yet) := hf
      unfold B_X11_tables_280 at hf
      refine lv_iload hx hb dX11_tables_280 (lv_at hl 5 rfl) ?_
      refine lv_iconst (v := (5 : Int32)) hx hb dX11_tables_282 (by decide) ?_
      refine lv_icmp_ge (tgt := 334) hx hb dX11_tables_283 (by decide) (fun c3 => ?_) (fun c3 => ?_)
      · have hf := wk_itT hf c3
        obtain ⟨y4, ey4⟩ : ∃ y : Int32, y = x5 + (1 : Int32) := ⟨_, rfl⟩
        have hf := wk_nmE hf ey4
        refine lv_iinc (v := y4) (lv' := [(5, .int y4), (0, .ref a_this), (3, .int x3), (4, .int x4), (6, .int x6), (9, .int x9)]) hx hb dX11_tables_334 hl (k := 3) rfl (by rw [ey4]; rfl) (by decide) rfl (fun ls hl => ?_)
        refine lv_goto (tgt := 110) hx hb dX11_tables_337 (by decide) ?_
        exact ih110 _ _ _ _ _ _ hf _ _ _ hP hD hS (lv_sub hl [1, 2, 3, 0] rfl)
      · have hf := wk_itF hf c3
        refine lv_aload_n hx hb dX11_tables_286 rfl (lv_at hl 0 rfl) ?_
        refine va_get (D := D) (ci := 11) (v := .ref a_rest) (C := RX11) (T := TX11) (N := 35) hx hb hts in_X11_tables_X11 hown hK hP 0 rfl rfl 32 (by decide) (hts (.fieldLink RX11 88 "HangingCardsModel" "rest" "[I") (List.mem_of_getElem? (i := 1) rfl)) (fun _ h9 => h9) rfl dX11_tables_287 ?_
        refine lv_iload hx hb dX11_tables_290 (lv_at hl 5 rfl) ?_
        refine lv_dup2_11 hx hb dX11_tables_292 rfl rfl ?_
        obtain ⟨hi5, hf⟩ := wk_ckE hf
        refine va_iald hx hb hK hP 6 0 rfl rfl hi5 dX11_tables_293 ?_
        refine lv_aload_n hx hb dX11_tables_294 rfl (lv_at hl 0 rfl) ?_
        refine va_get (D := D) (ci := 11) (v := .ref a_put) (C := RX11) (T := TX11) (N := 35) hx hb hts in_X11_tables_X11 hown hK hP 0 rfl rfl 34 (by decide) (hts (.fieldLink RX11 94 "HangingCardsModel" "put" "[I") (List.mem_of_getElem? (i := 3) rfl)) (fun _ h9 => h9) rfl dX11_tables_295 ?_
        refine lv_iload hx hb dX11_tables_298 (lv_at hl 5 rfl) ?_
        obtain ⟨hi6, hf⟩ := wk_ckE hf
        refine va_iald hx hb hK hP 4 0 rfl rfl hi6 dX11_tables_300 ?_
        refine lv_isub hx hb dX11_tables_301 ?_
        obtain ⟨hi7, hf⟩ := wk_ckE hf
        refine va_iast hx hb hK hP hD hS 6 0 rfl rfl hi7 dX11_tables_302 (fun H locs hP hD hS => ?_)
        have hP : va_P D vwCl (w_X11_tables cB cI cJ a_this a_cards a_county a_holes a_text a_letter a_where a_rank a_value a_hour a_readLetter a_readWhere a_readRank a_readValue a_readHour a_listName a_listDay a_voterName a_voterDay a_voterCounty a_heaps a_speed a_four a_byRules a_hours a_rest a_yet a_put v_kept v_length v_items v_readItems v_at v_lists v_voters v_needed v_heaps v_hour v_letter v_put v_rank (upd v_rest x9.toNatClampNeg ((v_rest x9.toNatClampNeg) - (v_put x9.toNatClampNeg))) v_speed v_value v_where v_yet) H := hP
        have hD : va_D A (w_X11_tables cB cI cJ a_this a_cards a_county a_holes a_text a_letter a_where a_rank a_value a_hour a_readLetter a_readWhere a_readRank a_readValue a_readHour a_listName a_listDay a_voterName a_voterDay a_voterCounty a_heaps a_speed a_four a_byRules a_hours a_rest a_yet a_put v_kept v_length v_items v_readItems v_at v_lists v_voters v_needed v_heaps v_hour v_letter v_put v_rank (upd v_rest x9.toNatClampNeg ((v_rest x9.toNatClampNeg) - (v_put x9.toNatClampNeg))) v_speed v_value v_where v_yet) := hD
        refine lv_aload_n hx hb dX11_tables_303 rfl (lv_at hl 0 rfl) ?_
        refine va_get (D := D) (ci := 11) (v := .ref a_yet) (C := RX11) (T := TX11) (N := 35) hx hb hts in_X11_tables_X11 hown hK hP 0 rfl rfl 33 (by decide) (hts (.fieldLink RX11 91 "HangingCardsModel" "yet" "[I") (List.mem_of_getElem? (i := 2) rfl)) (fun _ h9 => h9) rfl dX11_tables_304 ?_
        refine lv_iload hx hb dX11_tables_307 (lv_at hl 5 rfl) ?_
        refine lv_dup2_11 hx hb dX11_tables_309 rfl rfl ?_
        obtain ⟨hi8, hf⟩ := wk_ckE hf
        refine va_iald hx hb hK hP 10 0 rfl rfl hi8 dX11_tables_310 ?_
        refine lv_iload hx hb dX11_tables_311 (lv_at hl 4 rfl) ?_
        refine lv_iload hx hb dX11_tables_313 (lv_at hl 5 rfl) ?_
        obtain ⟨r9, hc9, hf⟩ := wk_b1E hf
        refine wk_callSi2 C hP hD hS (c_X11_has l D cB cI cJ N x6 x9 hc9) (va_cwS 2 hts gX11_tables_X11_has rfl rfl rfl hd_X11_has.2 ⟨Nat.le_of_ble_eq_true rfl, Nat.le_of_ble_eq_true rfl⟩) hl.1 ⟨Nat.zero_le _, Nat.zero_le _⟩ [] [0, 1, 2, 3, 4, 5, 6, 7, 8, 9, 10] 11 (by decide +kernel) rfl (Wn := w_X11_tables cB cI cJ a_this a_cards a_county a_holes a_text a_letter a_where a_rank a_value a_hour a_readLetter a_readWhere a_readRank a_readValue a_readHour a_listName a_listDay a_voterName a_voterDay a_voterCounty a_heaps a_speed a_four a_byRules a_hours a_rest a_yet a_put v_kept v_length v_items v_readItems v_at v_lists v_voters v_needed v_heaps v_hour v_letter v_put v_rank (upd v_rest x9.toNatClampNeg ((v_rest x9.toNatClampNeg) - (v_put x9.toNatClampNeg))) v_speed v_value v_where v_yet) rfl rfl rfl rfl rfl rfl rfl rfl (Nat.le_of_ble_eq_true rfl) dX11_tables_315 (fun H locs hP hD hS => ?_)
        refine lv_if_eq (tgt := 325) hx hb dX11_tables_318 (by decide) (fun c10 => ?_) (fun c10 => ?_)
        · have hf := wk_itT hf c10
          refine lv_iconst (v := (0 : Int32)) hx hb dX11_tables_325 (by decide) ?_
          exact J326 _ _ _ _ _ _ _ _ _ _ _ hf _ _ _ hP hD hS (lv_sub hl [0, 1, 2, 3, 4, 5] rfl)
        · have hf := wk_itF hf c10
          refine lv_iconst (v := (1 : Int32)) hx hb dX11_tables_321 (by decide) ?_
          refine lv_goto (tgt := 326) hx hb dX11_tables_322 (by decide) ?_
          exact J326 _ _ _ _ _ _ _ _ _ _ _ hf _ _ _ hP hD hS (lv_sub hl [0, 1, 2, 3, 4, 5] rfl))
    have L155 := wk_loopI (F := (fun k155 : (Nat → Int32) → (Nat → Int32) → (Nat → Int32) → Int32 → Int32 → Int32 → Int32 → Int32 → Int32 → Option ((Nat → Int32) × (Nat → Int32) × (Nat → Int32)) => B_X11_tables_155 N v_items v_heaps v_hour v_letter v_rank v_speed v_value v_where k110 k155)) (bot := fun _ _ _ _ _ _ _ _ _ => none) (fun k155 : (Nat → Int32) → (Nat → Int32) → (Nat → Int32) → Int32 → Int32 → Int32 → Int32 → Int32 → Int32 → Option ((Nat → Int32) × (Nat → Int32) × (Nat → Int32)) => ∀ (v_put : Nat → Int32) (v_rest : Nat → Int32) (v_yet : Nat → Int32) (x3 : Int32) (x4 : Int32) (x5 : Int32) (x6 : Int32) (x7 : Int32) (x8 : Int32), k155 v_put v_rest v_yet x3 x4 x5 x6 x7 x8 = some (o_put, o_rest, o_yet) → ∀ (H : Heap) (locs : List Loc) (ls : Array Slot), va_P D vwCl (w_X11_tables cB cI cJ a_this a_cards a_county a_holes a_text a_letter a_where a_rank a_value a_hour a_readLetter a_readWhere a_readRank a_readValue a_readHour a_listName a_listDay a_voterName a_voterDay a_voterCounty a_heaps a_speed a_four a_byRules a_hours a_rest a_yet a_put v_kept v_length v_items v_readItems v_at v_lists v_voters v_needed v_heaps v_hour v_letter v_put v_rank v_rest v_speed v_value v_where v_yet) H → va_D A (w_X11_tables cB cI cJ a_this a_cards a_county a_holes a_text a_letter a_where a_rank a_value a_hour a_readLetter a_readWhere a_readRank a_readValue a_readHour a_listName a_listDay a_voterName a_voterDay a_voterCounty a_heaps a_speed a_four a_byRules a_hours a_rest a_yet a_put v_kept v_length v_items v_readItems v_at v_lists v_voters v_needed v_heaps v_hour v_letter v_put v_rank v_rest v_speed v_value v_where v_yet) → va_S A s.heap H locs → lv_has ls 11 [(0, .ref a_this), (3, .int x3), (4, .int x4), (5, .int x5), (6, .int x6), (7, .int x7), (8, .int x8)] → W p l e rm_X11_tables s m args below meth c H locs 0 0 Q (F0 m 155 ls [])) (by intro v_put v_rest v_yet x3 x4 x5 x6 x7 x8 hf; exact wk_no hf) (by
      intro k155 ih155
      have J261 : ∀ (v_put : Nat → Int32) (v_rest : Nat → Int32) (v_yet : Nat → Int32) (x3 : Int32) (x4 : Int32) (x5 : Int32) (x6 : Int32) (x7 : Int32) (x8 : Int32) (x9 : Int32) (s1 : Int32) (s2 : Int32), B_X11_tables_261 N v_items v_heaps v_hour v_letter v_rank v_speed v_value v_where k110 k155 v_put v_rest v_yet x3 x4 x5 x6 x7 x8 x9 s1 s2 = some (o_put, o_rest, o_yet) → ∀ (H : Heap) (locs : List Loc) (ls : Array Slot), va_P D vwCl (w_X11_tables cB cI cJ a_this a_cards a_county a_holes a_text a_letter a_where a_rank a_value a_hour a_readLetter a_readWhere a_readRank a_readValue a_readHour a_listName a_listDay a_voterName a_voterDay a_voterCounty a_heaps a_speed a_four a_byRules a_hours a_rest a_yet a_put v_kept v_length v_items v_readItems v_at v_lists v_voters v_needed v_heaps v_hour v_letter v_put v_rank v_rest v_speed v_value v_where v_yet) H → va_D A (w_X11_tables cB cI cJ a_this a_cards a_county a_holes a_text a_letter a_where a_rank a_value a_hour a_readLetter a_readWhere a_readRank a_readValue a_readHour a_listName a_listDay a_voterName a_voterDay a_voterCounty a_heaps a_speed a_four a_byRules a_hours a_rest a_yet a_put v_kept v_length v_items v_readItems v_at v_lists v_voters v_needed v_heaps v_hour v_letter v_put v_rank v_rest v_speed v_value v_where v_yet) → va_S A s.heap H locs → lv_has ls 11 [(0, .ref a_this), (3, .int x3), (4, .int x4), (5, .int x5), (6, .int x6), (7, .int x7), (8, .int x8), (9, .int x9)] → W p l e rm_X11_tables s m args below meth c H locs 0 0 Q (F0 m 261 ls [.int s2, .int s1, .ref a_put]) := by
        intro v_put v_rest v_yet x3 x4 x5 x6 x7 x8 x9 s1 s2 hf H locs ls hP hD hS hl
        unfold B_X11_tables_261 at hf
        obtain ⟨hi11, hf⟩ := wk_ckE hf
        refine va_iast hx hb hK hP hD hS 4 0 rfl rfl hi11 dX11_tables_261 (fun H locs hP hD hS => ?_)
        have hP : va_P D vwCl (w_X11_tables cB cI cJ a_this a_cards a_county a_holes a_text a_letter a_where a_rank a_value a_hour a_readLetter a_readWhere a_readRank a_readValue a_readHour a_listName a_listDay a_voterName a_voterDay a_voterCounty a_heaps a_speed a_four a_byRules a_hours a_rest a_yet a_put v_kept v_length v_items v_readItems v_at v_lists v_voters v_needed v_heaps v_hour v_letter (upd v_put s1.toNatClampNeg s2) v_rank v_rest v_speed v_value v_where v_yet) H := hP
        have hD : va_D A (w_X11_tables cB cI cJ a_this a_cards a_county a_holes a_text a_letter a_where a_rank a_value a_hour a_readLetter a_readWhere a_readRank a_readValue a_readHour a_listName a_listDay a_voterName a_voterDay a_voterCounty a_heaps a_speed a_four a_byRules a_hours a_rest a_yet a_put v_kept v_length v_items v_readItems v_at v_lists v_voters v_needed v_heaps v_hour v_letter (upd v_put s1.toNatClampNeg s2) v_rank v_rest v_speed v_value v_where v_yet) := hD
        refine lv_iload hx hb dX11_tables_262 (lv_at hl 5 rfl) ?_
        refine lv_aload_n hx hb dX11_tables_264 rfl (lv_at hl 0 rfl) ?_
        refine va_get (D := D) (ci := 11) (v := .ref a_put) (C := RX11) (T := TX11) (N := 35) hx hb hts in_X11_tables_X11 hown hK hP 0 rfl rfl 34 (by decide) (hts (.fieldLink RX11 94 "HangingCardsModel" "put" "[I") (List.mem_of_getElem? (i := 3) rfl)) (fun _ h9 => h9) rfl dX11_tables_265 ?_
        refine lv_iload hx hb dX11_tables_268 (lv_at hl 7 rfl) ?_
        obtain ⟨hi12, hf⟩ := wk_ckE hf
        refine va_iald hx hb hK hP 4 0 rfl rfl hi12 dX11_tables_270 ?_
        refine lv_isub hx hb dX11_tables_271 ?_
        refine lv_topi (fun y13 ey13 => ?_)
        have hf := wk_nmE hf ey13
        refine lv_istore (lv' := [(7, .int y13), (0, .ref a_this), (3, .int x3), (4, .int x4), (5, .int x5), (6, .int x6), (8, .int x8), (9, .int x9)]) hx hb dX11_tables_272 hl (by decide) rfl (fun ls hl => ?_)
        refine lv_goto (tgt := 155) hx hb dX11_tables_274 (by decide) ?_
        exact ih155 _ _ _ _ _ _ _ _ _ hf _ _ _ hP hD hS (lv_sub hl [1, 2, 3, 4, 5, 0, 6] rfl)
      have L167 := wk_loopI (F := (fun k167 : (Nat → Int32) → (Nat → Int32) → (Nat → Int32) → Int32 → Int32 → Int32 → Int32 → Int32 → Int32 → Int32 → Int32 → Option ((Nat → Int32) × (Nat → Int32) × (Nat → Int32)) => B_X11_tables_167 N v_items v_heaps v_hour v_letter v_rank v_speed v_value v_where k110 k155 k167)) (bot := fun _ _ _ _ _ _ _ _ _ _ _ => none) (fun k167 : (Nat → Int32) → (Nat → Int32) → (Nat → Int32) → Int32 → Int32 → Int32 → Int32 → Int32 → Int32 → Int32 → Int32 → Option ((Nat → Int32) × (Nat → Int32) × (Nat → Int32)) => ∀ (v_put : Nat → Int32) (v_rest : Nat → Int32) (v_yet : Nat → Int32) (x3 : Int32) (x4 : Int32) (x5 : Int32) (x6 : Int32) (x7 : Int32) (x8 : Int32) (x9 : Int32) (x10 : Int32), k167 v_put v_rest v_yet x3 x4 x5 x6 x7 x8 x9 x10 = some (o_put, o_rest, o_yet) → ∀ (H : Heap) (locs : List Loc) (ls : Array Slot), va_P D vwCl (w_X11_tables cB cI cJ a_this a_cards a_county a_holes a_text a_letter a_where a_rank a_value a_hour a_readLetter a_readWhere a_readRank a_readValue a_readHour a_listName a_listDay a_voterName a_voterDay a_voterCounty a_heaps a_speed a_four a_byRules a_hours a_rest a_yet a_put v_kept v_length v_items v_readItems v_at v_lists v_voters v_needed v_heaps v_hour v_letter v_put v_rank v_rest v_speed v_value v_where v_yet) H → va_D A (w_X11_tables cB cI cJ a_this a_cards a_county a_holes a_text a_letter a_where a_rank a_value a_hour a_readLetter a_readWhere a_readRank a_readValue a_readHour a_listName a_listDay a_voterName a_voterDay a_voterCounty a_heaps a_speed a_four a_byRules a_hours a_rest a_yet a_put v_kept v_length v_items v_readItems v_at v_lists v_voters v_needed v_heaps v_hour v_letter v_put v_rank v_rest v_speed v_value v_where v_yet) → va_S A s.heap H locs → lv_has ls 11 [(0, .ref a_this), (3, .int x3), (4, .int x4), (5, .int x5), (6, .int x6), (7, .int x7), (8, .int x8), (9, .int x9), (10, .int x10)] → W p l e rm_X11_tables s m args below meth c H locs 0 0 Q (F0 m 167 ls [])) (by intro v_put v_rest v_yet x3 x4 x5 x6 x7 x8 x9 x10 hf; exact wk_no hf) (by
        intro k167 ih167
        intro v_put v_rest v_yet x3 x4 x5 x6 x7 x8 x9 x10 hf H locs ls hP hD hS hl
        have hf : B_X11_tables_167 N v_items v_heaps v_hour v_letter v_rank v_speed v_value v_where k110 k155 k167 v_put v_rest v_yet x3 x4 x5 x6 x7 x8 x9 x10 = some (o_put, o_rest, o_yet) := hf
        unfold B_X11_tables_167 at hf
        refine lv_iload hx hb dX11_tables_167 (lv_at hl 8 rfl) ?_
        refine lv_iconst (v := (5 : Int32)) hx hb dX11_tables_169 (by decide) ?_
        refine lv_icmp_ge (tgt := 220) hx hb dX11_tables_170 (by decide) (fun c14 => ?_) (fun c14 => ?_)
        · have hf := wk_itT hf c14
          refine lv_iload hx hb dX11_tables_220 (lv_at hl 6 rfl) ?_
          refine lv_iconst (v := (1 : Int32)) hx hb dX11_tables_222 (by decide) ?_
          refine lv_iload hx hb dX11_tables_223 (lv_at hl 7 rfl) ?_
          refine lv_ishl hx hb dX11_tables_225 ?_
          refine lv_iconst (v := (-1 : Int32)) hx hb dX11_tables_226 (by decide) ?_
          refine lv_ixor hx hb dX11_tables_227 ?_
          refine lv_iand hx hb dX11_tables_228 ?_
          refine lv_topi (fun y15 ey15 => ?_)
          have hf := wk_nmE hf ey15
          refine lv_istore (lv' := [(8, .int y15), (0, .ref a_this), (3, .int x3), (4, .int x4), (5, .int x5), (6, .int x6), (7, .int x7), (9, .int x9), (10, .int x10)]) hx hb dX11_tables_229 hl (by decide) rfl (fun ls hl => ?_)
          refine lv_aload_n hx hb dX11_tables_231 rfl (lv_at hl 1 rfl) ?_
          refine va_get (D := D) (ci := 11) (v := .ref a_put) (C := RX11) (T := TX11) (N := 35) hx hb hts in_X11_tables_X11 hown hK hP 0 rfl rfl 34 (by decide) (hts (.fieldLink RX11 94 "HangingCardsModel" "put" "[I") (List.mem_of_getElem? (i := 3) rfl)) (fun _ h9 => h9) rfl dX11_tables_232 ?_
          refine lv_iload hx hb dX11_tables_235 (lv_at hl 7 rfl) ?_
          refine lv_iload hx hb dX11_tables_237 (lv_at hl 6 rfl) ?_
          refine lv_aload_n hx hb dX11_tables_239 rfl (lv_at hl 1 rfl) ?_
          refine va_get (D := D) (ci := 11) (v := .ref a_rest) (C := RX11) (T := TX11) (N := 35) hx hb hts in_X11_tables_X11 hown hK hP 0 rfl rfl 32 (by decide) (hts (.fieldLink RX11 88 "HangingCardsModel" "rest" "[I") (List.mem_of_getElem? (i := 1) rfl)) (fun _ h9 => h9) rfl dX11_tables_240 ?_
          refine lv_iload hx hb dX11_tables_243 (lv_at hl 7 rfl) ?_
          obtain ⟨hi16, hf⟩ := wk_ckE hf
          refine va_iald hx hb hK hP 6 0 rfl rfl hi16 dX11_tables_245 ?_
          refine lv_icmp_ge (tgt := 254) hx hb dX11_tables_246 (by decide) (fun c17 => ?_) (fun c17 => ?_)
          · have hf := wk_itT hf c17
            refine lv_aload_n hx hb dX11_tables_254 rfl (lv_at hl 1 rfl) ?_
            refine va_get (D := D) (ci := 11) (v := .ref a_rest) (C := RX11) (T := TX11) (N := 35) hx hb hts in_X11_tables_X11 hown hK hP 0 rfl rfl 32 (by decide) (hts (.fieldLink RX11 88 "HangingCardsModel" "rest" "[I") (List.mem_of_getElem? (i := 1) rfl)) (fun _ h9 => h9) rfl dX11_tables_255 ?_
            refine lv_iload hx hb dX11_tables_258 (lv_at hl 7 rfl) ?_
            obtain ⟨hi18, hf⟩ := wk_ckE hf
            refine va_iald hx hb hK hP 6 0 rfl rfl hi18 dX11_tables_260 ?_
            exact J261 _ _ _ _ _ _ _ _ _ _ _ _ hf _ _ _ hP hD hS (lv_sub hl [1, 2, 3, 4, 5, 6, 0, 7] rfl)
          · have hf := wk_itF hf c17
            refine lv_iload hx hb dX11_tables_249 (lv_at hl 6 rfl) ?_
            refine lv_goto (tgt := 261) hx hb dX11_tables_251 (by decide) ?_
            exact J261 _ _ _ _ _ _ _ _ _ _ _ _ hf _ _ _ hP hD hS (lv_sub hl [1, 2, 3, 4, 5, 6, 0, 7] rfl)
        · have hf := wk_itF hf c14
          refine lv_iload hx hb dX11_tables_173 (lv_at hl 6 rfl) ?_
          refine lv_iload hx hb dX11_tables_175 (lv_at hl 8 rfl) ?_
          obtain ⟨r19, hc19, hf⟩ := wk_b1E hf
          refine wk_callSi2 C hP hD hS (c_X11_has l D cB cI cJ N x8 x10 hc19) (va_cwS 2 hts gX11_tables_X11_has rfl rfl rfl hd_X11_has.2 ⟨Nat.le_of_ble_eq_true rfl, Nat.le_of_ble_eq_true rfl⟩) hl.1 ⟨Nat.zero_le _, Nat.zero_le _⟩ [] [0, 1, 2, 3, 4, 5, 6, 7, 8, 9, 10] 11 (by decide +kernel) rfl (Wn := w_X11_tables cB cI cJ a_this a_cards a_county a_holes a_text a_letter a_where a_rank a_value a_hour a_readLetter a_readWhere a_readRank a_readValue a_readHour a_listName a_listDay a_voterName a_voterDay a_voterCounty a_heaps a_speed a_four a_byRules a_hours a_rest a_yet a_put v_kept v_length v_items v_readItems v_at v_lists v_voters v_needed v_heaps v_hour v_letter v_put v_rank v_rest v_speed v_value v_where v_yet) rfl rfl rfl rfl rfl rfl rfl rfl (Nat.le_of_ble_eq_true rfl) dX11_tables_177 (fun H locs hP hD hS => ?_)
          refine lv_if_eq (tgt := 210) hx hb dX11_tables_180 (by decide) (fun c20 => ?_) (fun c20 => ?_)
          · have hf := wk_itT hf c20
            refine lv_iload hx hb dX11_tables_210 (lv_at hl 7 rfl) ?_
            refine lv_istore (lv' := [(9, .int x9), (0, .ref a_this), (3, .int x3), (4, .int x4), (5, .int x5), (6, .int x6), (7, .int x7), (8, .int x8), (10, .int x10)]) hx hb dX11_tables_212 hl (by decide) rfl (fun ls hl => ?_)
            obtain ⟨y21, ey21⟩ : ∃ y : Int32, y = x10 + (1 : Int32) := ⟨_, rfl⟩
            have hf := wk_nmE hf ey21
            refine lv_iinc (v := y21) (lv' := [(10, .int y21), (9, .int x9), (0, .ref a_this), (3, .int x3), (4, .int x4), (5, .int x5), (6, .int x6), (7, .int x7), (8, .int x8)]) hx hb dX11_tables_214 hl (k := 8) rfl (by rw [ey21]; rfl) (by decide) rfl (fun ls hl => ?_)
            refine lv_goto (tgt := 167) hx hb dX11_tables_217 (by decide) ?_
            exact ih167 _ _ _ _ _ _ _ _ _ _ _ hf _ _ _ hP hD hS (lv_sub hl [2, 3, 4, 5, 6, 7, 8, 1, 0] rfl)
          · have hf := wk_itF hf c20
            refine lv_iload hx hb dX11_tables_183 (lv_at hl 7 rfl) ?_
            refine lv_if_lt (tgt := 205) hx hb dX11_tables_185 (by decide) (fun c22 => ?_) (fun c22 => ?_)
            · have hf := wk_itT hf c22
              refine lv_iload hx hb dX11_tables_205 (lv_at hl 8 rfl) ?_
              refine lv_goto (tgt := 212) hx hb dX11_tables_207 (by decide) ?_
              refine lv_istore (lv' := [(9, .int x10), (0, .ref a_this), (3, .int x3), (4, .int x4), (5, .int x5), (6, .int x6), (7, .int x7), (8, .int x8), (10, .int x10)]) hx hb dX11_tables_212 hl (by decide) rfl (fun ls hl => ?_)
              obtain ⟨y23, ey23⟩ : ∃ y : Int32, y = x10 + (1 : Int32) := ⟨_, rfl⟩
              have hf := wk_nmE hf ey23
              refine lv_iinc (v := y23) (lv' := [(10, .int y23), (9, .int x10), (0, .ref a_this), (3, .int x3), (4, .int x4), (5, .int x5), (6, .int x6), (7, .int x7), (8, .int x8)]) hx hb dX11_tables_214 hl (k := 8) rfl (by rw [ey23]; rfl) (by decide) rfl (fun ls hl => ?_)
              refine lv_goto (tgt := 167) hx hb dX11_tables_217 (by decide) ?_
              exact ih167 _ _ _ _ _ _ _ _ _ _ _ hf _ _ _ hP hD hS (lv_sub hl [2, 3, 4, 5, 6, 7, 8, 1, 0] rfl)
            · have hf := wk_itF hf c22
              refine lv_aload_n hx hb dX11_tables_188 rfl (lv_at hl 0 rfl) ?_
              refine va_get (D := D) (ci := 11) (v := .ref a_yet) (C := RX11) (T := TX11) (N := 35) hx hb hts in_X11_tables_X11 hown hK hP 0 rfl rfl 33 (by decide) (hts (.fieldLink RX11 91 "HangingCardsModel" "yet" "[I") (List.mem_of_getElem? (i := 2) rfl)) (fun _ h9 => h9) rfl dX11_tables_189 ?_
              refine lv_iload hx hb dX11_tables_192 (lv_at hl 8 rfl) ?_
              obtain ⟨hi24, hf⟩ := wk_ckE hf
              refine va_iald hx hb hK hP 10 0 rfl rfl hi24 dX11_tables_194 ?_
              refine lv_aload_n hx hb dX11_tables_195 rfl (lv_at hl 0 rfl) ?_
              refine va_get (D := D) (ci := 11) (v := .ref a_yet) (C := RX11) (T := TX11) (N := 35) hx hb hts in_X11_tables_X11 hown hK hP 0 rfl rfl 33 (by decide) (hts (.fieldLink RX11 91 "HangingCardsModel" "yet" "[I") (List.mem_of_getElem? (i := 2) rfl)) (fun _ h9 => h9) rfl dX11_tables_196 ?_
              refine lv_iload hx hb dX11_tables_199 (lv_at hl 7 rfl) ?_
              obtain ⟨hi25, hf⟩ := wk_ckE hf
              refine va_iald hx hb hK hP 10 0 rfl rfl hi25 dX11_tables_201 ?_
              refine lv_icmp_ge (tgt := 210) hx hb dX11_tables_202 (by decide) (fun c26 => ?_) (fun c26 => ?_)
              · have hf := wk_itT hf c26
                refine lv_iload hx hb dX11_tables_210 (lv_at hl 7 rfl) ?_
                refine lv_istore (lv' := [(9, .int x9), (0, .ref a_this), (3, .int x3), (4, .int x4), (5, .int x5), (6, .int x6), (7, .int x7), (8, .int x8), (10, .int x10)]) hx hb dX11_tables_212 hl (by decide) rfl (fun ls hl => ?_)
                obtain ⟨y27, ey27⟩ : ∃ y : Int32, y = x10 + (1 : Int32) := ⟨_, rfl⟩
                have hf := wk_nmE hf ey27
                refine lv_iinc (v := y27) (lv' := [(10, .int y27), (9, .int x9), (0, .ref a_this), (3, .int x3), (4, .int x4), (5, .int x5), (6, .int x6), (7, .int x7), (8, .int x8)]) hx hb dX11_tables_214 hl (k := 8) rfl (by rw [ey27]; rfl) (by decide) rfl (fun ls hl => ?_)
                refine lv_goto (tgt := 167) hx hb dX11_tables_217 (by decide) ?_
                exact ih167 _ _ _ _ _ _ _ _ _ _ _ hf _ _ _ hP hD hS (lv_sub hl [2, 3, 4, 5, 6, 7, 8, 1, 0] rfl)
              · have hf := wk_itF hf c26
                refine lv_iload hx hb dX11_tables_205 (lv_at hl 8 rfl) ?_
                refine lv_goto (tgt := 212) hx hb dX11_tables_207 (by decide) ?_
                refine lv_istore (lv' := [(9, .int x10), (0, .ref a_this), (3, .int x3), (4, .int x4), (5, .int x5), (6, .int x6), (7, .int x7), (8, .int x8), (10, .int x10)]) hx hb dX11_tables_212 hl (by decide) rfl (fun ls hl => ?_)
                obtain ⟨y28, ey28⟩ : ∃ y : Int32, y = x10 + (1 : Int32) := ⟨_, rfl⟩
                have hf := wk_nmE hf ey28
                refine lv_iinc (v := y28) (lv' := [(10, .int y28), (9, .int x10), (0, .ref a_this), (3, .int x3), (4, .int x4), (5, .int x5), (6, .int x6), (7, .int x7), (8, .int x8)]) hx hb dX11_tables_214 hl (k := 8) rfl (by rw [ey28]; rfl) (by decide) rfl (fun ls hl => ?_)
                refine lv_goto (tgt := 167) hx hb dX11_tables_217 (by decide) ?_
                exact ih167 _ _ _ _ _ _ _ _ _ _ _ hf _ _ _ hP hD hS (lv_sub hl [2, 3, 4, 5, 6, 7, 8, 1, 0] rfl))
      intro v_put v_rest v_yet x3 x4 x5 x6 x7 x8 hf H locs ls hP hD hS hl
      have hf : B_X11_tables_155 N v_items v_heaps v_hour v_letter v_rank v_speed v_value v_where k110 k155 v_put v_rest v_yet x3 x4 x5 x6 x7 x8 = some (o_put, o_rest, o_yet) := hf
      unfold B_X11_tables_155 at hf
      refine lv_iload hx hb dX11_tables_155 (lv_at hl 6 rfl) ?_
      refine lv_if_eq (tgt := 277) hx hb dX11_tables_157 (by decide) (fun c29 => ?_) (fun c29 => ?_)
      · have hf := wk_itT hf c29
        refine lv_iconst (v := (0 : Int32)) hx hb dX11_tables_277 (by decide) ?_
        refine lv_istore (lv' := [(9, .int (0 : Int32)), (0, .ref a_this), (3, .int x3), (4, .int x4), (5, .int x5), (6, .int x6), (7, .int x7), (8, .int x8)]) hx hb dX11_tables_278 hl (by decide) rfl (fun ls hl => ?_)
        exact L280 N _ _ _ _ _ _ _ _ hf _ _ _ hP hD hS (lv_sub hl [1, 2, 3, 4, 5, 0] rfl)
      · have hf := wk_itF hf c29
        refine lv_bipush (v := (-4 : Int32)) hx hb dX11_tables_160 (by decide) ?_
        refine lv_istore (lv' := [(9, .int (-4 : Int32)), (0, .ref a_this), (3, .int x3), (4, .int x4), (5, .int x5), (6, .int x6), (7, .int x7), (8, .int x8)]) hx hb dX11_tables_162 hl (by decide) rfl (fun ls hl => ?_)
        refine lv_iconst (v := (0 : Int32)) hx hb dX11_tables_164 (by decide) ?_
        refine lv_istore (lv' := [(10, .int (0 : Int32)), (9, .int (-4 : Int32)), (0, .ref a_this), (3, .int x3), (4, .int x4), (5, .int x5), (6, .int x6), (7, .int x7), (8, .int x8)]) hx hb dX11_tables_165 hl (by decide) rfl (fun ls hl => ?_)
        exact L167 N _ _ _ _ _ _ _ _ _ _ _ hf _ _ _ hP hD hS (lv_sub hl [2, 3, 4, 5, 6, 7, 8, 1, 0] rfl))
    have L131 := wk_loopI (F := (fun k131 : (Nat → Int32) → (Nat → Int32) → (Nat → Int32) → Int32 → Int32 → Int32 → Int32 → Int32 → Int32 → Option ((Nat → Int32) × (Nat → Int32) × (Nat → Int32)) => B_X11_tables_131 N v_items v_heaps v_hour v_letter v_rank v_speed v_value v_where k110 k131)) (bot := fun _ _ _ _ _ _ _ _ _ => none) (fun k131 : (Nat → Int32) → (Nat → Int32) → (Nat → Int32) → Int32 → Int32 → Int32 → Int32 → Int32 → Int32 → Option ((Nat → Int32) × (Nat → Int32) × (Nat → Int32)) => ∀ (v_put : Nat → Int32) (v_rest : Nat → Int32) (v_yet : Nat → Int32) (x3 : Int32) (x4 : Int32) (x5 : Int32) (x6 : Int32) (x7 : Int32) (x8 : Int32), k131 v_put v_rest v_yet x3 x4 x5 x6 x7 x8 = some (o_put, o_rest, o_yet) → ∀ (H : Heap) (locs : List Loc) (ls : Array Slot), va_P D vwCl (w_X11_tables cB cI cJ a_this a_cards a_county a_holes a_text a_letter a_where a_rank a_value a_hour a_readLetter a_readWhere a_readRank a_readValue a_readHour a_listName a_listDay a_voterName a_voterDay a_voterCounty a_heaps a_speed a_four a_byRules a_hours a_rest a_yet a_put v_kept v_length v_items v_readItems v_at v_lists v_voters v_needed v_heaps v_hour v_letter v_put v_rank v_rest v_speed v_value v_where v_yet) H → va_D A (w_X11_tables cB cI cJ a_this a_cards a_county a_holes a_text a_letter a_where a_rank a_value a_hour a_readLetter a_readWhere a_readRank a_readValue a_readHour a_listName a_listDay a_voterName a_voterDay a_voterCounty a_heaps a_speed a_four a_byRules a_hours a_rest a_yet a_put v_kept v_length v_items v_readItems v_at v_lists v_voters v_needed v_heaps v_hour v_letter v_put v_rank v_rest v_speed v_value v_where v_yet) → va_S A s.heap H locs → lv_has ls 11 [(0, .ref a_this), (3, .int x3), (4, .int x4), (5, .int x5), (6, .int x6), (7, .int x7), (8, .int x8)] → W p l e rm_X11_tables s m args below meth c H locs 0 0 Q (F0 m 131 ls [])) (by intro v_put v_rest v_yet x3 x4 x5 x6 x7 x8 hf; exact wk_no hf) (by
      intro k131 ih131
      intro v_put v_rest v_yet x3 x4 x5 x6 x7 x8 hf H locs ls hP hD hS hl
      have hf : B_X11_tables_131 N v_items v_heaps v_hour v_letter v_rank v_speed v_value v_where k110 k131 v_put v_rest v_yet x3 x4 x5 x6 x7 x8 = some (o_put, o_rest, o_yet) := hf
      unfold B_X11_tables_131 at hf
      refine lv_iload hx hb dX11_tables_131 (lv_at hl 6 rfl) ?_
      refine lv_iconst (v := (5 : Int32)) hx hb dX11_tables_133 (by decide) ?_
      refine lv_icmp_ge (tgt := 151) hx hb dX11_tables_134 (by decide) (fun c30 => ?_) (fun c30 => ?_)
      · have hf := wk_itT hf c30
        refine lv_iload hx hb dX11_tables_151 (lv_at hl 4 rfl) ?_
        refine lv_istore (lv' := [(8, .int x6), (0, .ref a_this), (3, .int x3), (4, .int x4), (5, .int x5), (6, .int x6), (7, .int x7)]) hx hb dX11_tables_153 hl (by decide) rfl (fun ls hl => ?_)
        exact L155 N _ _ _ _ _ _ _ _ _ hf _ _ _ hP hD hS (lv_sub hl [1, 2, 3, 4, 5, 6, 0] rfl)
      · have hf := wk_itF hf c30
        refine lv_aload_n hx hb dX11_tables_137 rfl (lv_at hl 0 rfl) ?_
        refine va_get (D := D) (ci := 11) (v := .ref a_put) (C := RX11) (T := TX11) (N := 35) hx hb hts in_X11_tables_X11 hown hK hP 0 rfl rfl 34 (by decide) (hts (.fieldLink RX11 94 "HangingCardsModel" "put" "[I") (List.mem_of_getElem? (i := 3) rfl)) (fun _ h9 => h9) rfl dX11_tables_138 ?_
        refine lv_iload hx hb dX11_tables_141 (lv_at hl 6 rfl) ?_
        refine lv_iconst (v := (0 : Int32)) hx hb dX11_tables_143 (by decide) ?_
        obtain ⟨hi31, hf⟩ := wk_ckE hf
        refine va_iast hx hb hK hP hD hS 4 0 rfl rfl hi31 dX11_tables_144 (fun H locs hP hD hS => ?_)
        have hP : va_P D vwCl (w_X11_tables cB cI cJ a_this a_cards a_county a_holes a_text a_letter a_where a_rank a_value a_hour a_readLetter a_readWhere a_readRank a_readValue a_readHour a_listName a_listDay a_voterName a_voterDay a_voterCounty a_heaps a_speed a_four a_byRules a_hours a_rest a_yet a_put v_kept v_length v_items v_readItems v_at v_lists v_voters v_needed v_heaps v_hour v_letter (upd v_put x8.toNatClampNeg (0 : Int32)) v_rank v_rest v_speed v_value v_where v_yet) H := hP
        have hD : va_D A (w_X11_tables cB cI cJ a_this a_cards a_county a_holes a_text a_letter a_where a_rank a_value a_hour a_readLetter a_readWhere a_readRank a_readValue a_readHour a_listName a_listDay a_voterName a_voterDay a_voterCounty a_heaps a_speed a_four a_byRules a_hours a_rest a_yet a_put v_kept v_length v_items v_readItems v_at v_lists v_voters v_needed v_heaps v_hour v_letter (upd v_put x8.toNatClampNeg (0 : Int32)) v_rank v_rest v_speed v_value v_where v_yet) := hD
        obtain ⟨y32, ey32⟩ : ∃ y : Int32, y = x8 + (1 : Int32) := ⟨_, rfl⟩
        have hf := wk_nmE hf ey32
        refine lv_iinc (v := y32) (lv' := [(8, .int y32), (0, .ref a_this), (3, .int x3), (4, .int x4), (5, .int x5), (6, .int x6), (7, .int x7)]) hx hb dX11_tables_145 hl (k := 6) rfl (by rw [ey32]; rfl) (by decide) rfl (fun ls hl => ?_)
        refine lv_goto (tgt := 131) hx hb dX11_tables_148 (by decide) ?_
        exact ih131 _ _ _ _ _ _ _ _ _ hf _ _ _ hP hD hS (lv_sub hl [1, 2, 3, 4, 5, 6, 0] rfl))
    intro v_put v_rest v_yet x3 x4 x5 hf H locs ls hP hD hS hl
    have hf : B_X11_tables_110 N v_items v_heaps v_hour v_letter v_rank v_speed v_value v_where k110 v_put v_rest v_yet x3 x4 x5 = some (o_put, o_rest, o_yet) := hf
    unfold B_X11_tables_110 at hf
    refine lv_iload hx hb dX11_tables_110 (lv_at hl 3 rfl) ?_
    refine lv_iload hx hb dX11_tables_112 (lv_at hl 2 rfl) ?_
    refine lv_icmp_gt (tgt := 340) hx hb dX11_tables_114 (by decide) (fun c33 => ?_) (fun c33 => ?_)
    · have hf := wk_itT hf c33
      exact hret _ _ _ _ _ dX11_tables_340 (wk_rt hf (fun z => w_X11_tables cB cI cJ a_this a_cards a_county a_holes a_text a_letter a_where a_rank a_value a_hour a_readLetter a_readWhere a_readRank a_readValue a_readHour a_listName a_listDay a_voterName a_voterDay a_voterCounty a_heaps a_speed a_four a_byRules a_hours a_rest a_yet a_put v_kept v_length v_items v_readItems v_at v_lists v_voters v_needed v_heaps v_hour v_letter (z.1) v_rank (z.2.1) v_speed v_value v_where (z.2.2))) hP hD hS
    · have hf := wk_itF hf c33
      refine lv_aload_n hx hb dX11_tables_117 rfl (lv_at hl 0 rfl) ?_
      refine lv_iload hx hb dX11_tables_118 (lv_at hl 3 rfl) ?_
      obtain ⟨r34, hc34, hf⟩ := wk_b1E hf
      refine wk_callVi2 C hP hD hS (c_X11_open l D cB cI cJ N a_this a_cards a_county a_holes a_text a_letter a_where a_rank a_value a_hour a_readLetter a_readWhere a_readRank a_readValue a_readHour a_listName a_listDay a_voterName a_voterDay a_voterCounty a_heaps a_speed a_four a_byRules a_hours a_rest a_yet a_put v_kept v_length v_items v_readItems v_at v_lists v_voters v_needed v_hour v_letter v_rank v_value v_where x5 hc34) (cwV 1 hts gX11_tables_X11_open rfl rfl rfl hd_X11_open ⟨Nat.le_of_ble_eq_true rfl, Nat.le_of_ble_eq_true rfl⟩) hl.1 ⟨Nat.zero_le _, Nat.zero_le _⟩ [0, 2, 3, 5, 8, 9] [1, 4, 6, 7, 10] 11 (by decide +kernel) rfl (Wn := w_X11_tables cB cI cJ a_this a_cards a_county a_holes a_text a_letter a_where a_rank a_value a_hour a_readLetter a_readWhere a_readRank a_readValue a_readHour a_listName a_listDay a_voterName a_voterDay a_voterCounty a_heaps a_speed a_four a_byRules a_hours a_rest a_yet a_put v_kept v_length v_items v_readItems v_at v_lists v_voters v_needed v_heaps v_hour v_letter v_put v_rank v_rest v_speed v_value v_where v_yet) rfl rfl rfl rfl rfl rfl (ci := 11) rfl rfl (q0 := 0) rfl rfl rfl (Nat.le_of_ble_eq_true rfl) dX11_tables_120 (fun H locs hP hD hS => ?_)
      refine lv_istore (lv' := [(6, .int r34), (0, .ref a_this), (3, .int x3), (4, .int x4), (5, .int x5)]) hx hb dX11_tables_123 hl (by decide) rfl (fun ls hl => ?_)
      refine lv_iload_n hx hb dX11_tables_125 rfl (lv_at hl 2 rfl) ?_
      refine lv_istore (lv' := [(7, .int x3), (6, .int r34), (0, .ref a_this), (3, .int x3), (4, .int x4), (5, .int x5)]) hx hb dX11_tables_126 hl (by decide) rfl (fun ls hl => ?_)
      refine lv_iconst (v := (0 : Int32)) hx hb dX11_tables_128 (by decide) ?_
      refine lv_istore (lv' := [(8, .int (0 : Int32)), (7, .int x3), (6, .int r34), (0, .ref a_this), (3, .int x3), (4, .int x4), (5, .int x5)]) hx hb dX11_tables_129 hl (by decide) rfl (fun ls hl => ?_)
      exact L131 N _ _ _ _ _ _ _ _ _ hf _ _ _ hP hD hS (lv_sub hl [3, 4, 5, 6, 2, 1, 0] rfl))
  have L47 := wk_loopI (F := (fun k47 : (Nat → Int32) → (Nat → Int32) → (Nat → Int32) → Int32 → Int32 → Int32 → Int32 → Int32 → Option ((Nat → Int32) × (Nat → Int32) × (Nat → Int32)) => B_X11_tables_47 N v_items v_heaps v_hour v_letter v_rank v_speed v_value v_where k47)) (bot := fun _ _ _ _ _ _ _ _ => none) (fun k47 : (Nat → Int32) → (Nat → Int32) → (Nat → Int32) → Int32 → Int32 → Int32 → Int32 → Int32 → Option ((Nat → Int32) × (Nat → Int32) × (Nat → Int32)) => ∀ (v_put : Nat → Int32) (v_rest : Nat → Int32) (v_yet : Nat → Int32) (x1 : Int32) (x2 : Int32) (x3 : Int32) (x4 : Int32) (x5 : Int32), k47 v_put v_rest v_yet x1 x2 x3 x4 x5 = some (o_put, o_rest, o_yet) → ∀ (H : Heap) (locs : List Loc) (ls : Array Slot), va_P D vwCl (w_X11_tables cB cI cJ a_this a_cards a_county a_holes a_text a_letter a_where a_rank a_value a_hour a_readLetter a_readWhere a_readRank a_readValue a_readHour a_listName a_listDay a_voterName a_voterDay a_voterCounty a_heaps a_speed a_four a_byRules a_hours a_rest a_yet a_put v_kept v_length v_items v_readItems v_at v_lists v_voters v_needed v_heaps v_hour v_letter v_put v_rank v_rest v_speed v_value v_where v_yet) H → va_D A (w_X11_tables cB cI cJ a_this a_cards a_county a_holes a_text a_letter a_where a_rank a_value a_hour a_readLetter a_readWhere a_readRank a_readValue a_readHour a_listName a_listDay a_voterName a_voterDay a_voterCounty a_heaps a_speed a_four a_byRules a_hours a_rest a_yet a_put v_kept v_length v_items v_readItems v_at v_lists v_voters v_needed v_heaps v_hour v_letter v_put v_rank v_rest v_speed v_value v_where v_yet) → va_S A s.heap H locs → lv_has ls 11 [(0, .ref a_this), (1, .int x1), (2, .int x2), (3, .int x3), (4, .int x4), (5, .int x5)] → W p l e rm_X11_tables s m args below meth c H locs 0 0 Q (F0 m 47 ls [])) (by intro v_put v_rest v_yet x1 x2 x3 x4 x5 hf; exact wk_no hf) (by
    intro k47 ih47
    have L64 := wk_loopI (F := (fun k64 : (Nat → Int32) → (Nat → Int32) → (Nat → Int32) → Int32 → Int32 → Int32 → Int32 → Int32 → Int32 → Int32 → Option ((Nat → Int32) × (Nat → Int32) × (Nat → Int32)) => B_X11_tables_64 N v_items v_heaps v_hour v_letter v_rank v_speed v_value v_where k47 k64)) (bot := fun _ _ _ _ _ _ _ _ _ _ => none) (fun k64 : (Nat → Int32) → (Nat → Int32) → (Nat → Int32) → Int32 → Int32 → Int32 → Int32 → Int32 → Int32 → Int32 → Option ((Nat → Int32) × (Nat → Int32) × (Nat → Int32)) => ∀ (v_put : Nat → Int32) (v_rest : Nat → Int32) (v_yet : Nat → Int32) (x1 : Int32) (x2 : Int32) (x3 : Int32) (x4 : Int32) (x5 : Int32) (x6 : Int32) (x7 : Int32), k64 v_put v_rest v_yet x1 x2 x3 x4 x5 x6 x7 = some (o_put, o_rest, o_yet) → ∀ (H : Heap) (locs : List Loc) (ls : Array Slot), va_P D vwCl (w_X11_tables cB cI cJ a_this a_cards a_county a_holes a_text a_letter a_where a_rank a_value a_hour a_readLetter a_readWhere a_readRank a_readValue a_readHour a_listName a_listDay a_voterName a_voterDay a_voterCounty a_heaps a_speed a_four a_byRules a_hours a_rest a_yet a_put v_kept v_length v_items v_readItems v_at v_lists v_voters v_needed v_heaps v_hour v_letter v_put v_rank v_rest v_speed v_value v_where v_yet) H → va_D A (w_X11_tables cB cI cJ a_this a_cards a_county a_holes a_text a_letter a_where a_rank a_value a_hour a_readLetter a_readWhere a_readRank a_readValue a_readHour a_listName a_listDay a_voterName a_voterDay a_voterCounty a_heaps a_speed a_four a_byRules a_hours a_rest a_yet a_put v_kept v_length v_items v_readItems v_at v_lists v_voters v_needed v_heaps v_hour v_letter v_put v_rank v_rest v_speed v_value v_where v_yet) → va_S A s.heap H locs → lv_has ls 11 [(0, .ref a_this), (1, .int x1), (2, .int x2), (3, .int x3), (4, .int x4), (5, .int x5), (6, .int x6), (7, .int x7)] → W p l e rm_X11_tables s m args below meth c H locs 0 0 Q (F0 m 64 ls [])) (by intro v_put v_rest v_yet x1 x2 x3 x4 x5 x6 x7 hf; exact wk_no hf) (by
      intro k64 ih64
      have J93 : ∀ (v_put : Nat → Int32) (v_rest : Nat → Int32) (v_yet : Nat → Int32) (x1 : Int32) (x2 : Int32) (x3 : Int32) (x4 : Int32) (x5 : Int32) (x6 : Int32) (x7 : Int32) (s1 : Int32) (s2 : Int32) (s3 : Int32), B_X11_tables_93 N v_items v_heaps v_hour v_letter v_rank v_speed v_value v_where k47 k64 v_put v_rest v_yet x1 x2 x3 x4 x5 x6 x7 s1 s2 s3 = some (o_put, o_rest, o_yet) → ∀ (H : Heap) (locs : List Loc) (ls : Array Slot), va_P D vwCl (w_X11_tables cB cI cJ a_this a_cards a_county a_holes a_text a_letter a_where a_rank a_value a_hour a_readLetter a_readWhere a_readRank a_readValue a_readHour a_listName a_listDay a_voterName a_voterDay a_voterCounty a_heaps a_speed a_four a_byRules a_hours a_rest a_yet a_put v_kept v_length v_items v_readItems v_at v_lists v_voters v_needed v_heaps v_hour v_letter v_put v_rank v_rest v_speed v_value v_where v_yet) H → va_D A (w_X11_tables cB cI cJ a_this a_cards a_county a_holes a_text a_letter a_where a_rank a_value a_hour a_readLetter a_readWhere a_readRank a_readValue a_readHour a_listName a_listDay a_voterName a_voterDay a_voterCounty a_heaps a_speed a_four a_byRules a_hours a_rest a_yet a_put v_kept v_length v_items v_readItems v_at v_lists v_voters v_needed v_heaps v_hour v_letter v_put v_rank v_rest v_speed v_value v_where v_yet) → va_S A s.heap H locs → lv_has ls 11 [(0, .ref a_this), (1, .int x1), (2, .int x2), (3, .int x3), (4, .int x4), (5, .int x5), (6, .int x6), (7, .int x7)] → W p l e rm_X11_tables s m args below meth c H locs 0 0 Q (F0 m 93 ls [.int s3, .int s2, .int s1, .ref a_yet]) := by
        intro v_put v_rest v_yet x1 x2 x3 x4 x5 x6 x7 s1 s2 s3 hf H locs ls hP hD hS hl
        unfold B_X11_tables_93 at hf
        refine lv_iadd hx hb dX11_tables_93 ?_
        obtain ⟨hi35, hf⟩ := wk_ckE hf
        refine va_iast hx hb hK hP hD hS 10 0 rfl rfl hi35 dX11_tables_94 (fun H locs hP hD hS => ?_)
        have hP : va_P D vwCl (w_X11_tables cB cI cJ a_this a_cards a_county a_holes a_text a_letter a_where a_rank a_value a_hour a_readLetter a_readWhere a_readRank a_readValue a_readHour a_listName a_listDay a_voterName a_voterDay a_voterCounty a_heaps a_speed a_four a_byRules a_hours a_rest a_yet a_put v_kept v_length v_items v_readItems v_at v_lists v_voters v_needed v_heaps v_hour v_letter v_put v_rank v_rest v_speed v_value v_where (upd v_yet s1.toNatClampNeg (s2 + s3))) H := hP
        have hD : va_D A (w_X11_tables cB cI cJ a_this a_cards a_county a_holes a_text a_letter a_where a_rank a_value a_hour a_readLetter a_readWhere a_readRank a_readValue a_readHour a_listName a_listDay a_voterName a_voterDay a_voterCounty a_heaps a_speed a_four a_byRules a_hours a_rest a_yet a_put v_kept v_length v_items v_readItems v_at v_lists v_voters v_needed v_heaps v_hour v_letter v_put v_rank v_rest v_speed v_value v_where (upd v_yet s1.toNatClampNeg (s2 + s3))) := hD
        obtain ⟨y36, ey36⟩ : ∃ y : Int32, y = x7 + (1 : Int32) := ⟨_, rfl⟩
        have hf := wk_nmE hf ey36
        refine lv_iinc (v := y36) (lv' := [(7, .int y36), (0, .ref a_this), (1, .int x1), (2, .int x2), (3, .int x3), (4, .int x4), (5, .int x5), (6, .int x6)]) hx hb dX11_tables_95 hl (k := 7) rfl (by rw [ey36]; rfl) (by decide) rfl (fun ls hl => ?_)
        refine lv_goto (tgt := 64) hx hb dX11_tables_98 (by decide) ?_
        exact ih64 _ _ _ _ _ _ _ _ _ _ hf _ _ _ hP hD hS (lv_sub hl [1, 2, 3, 4, 5, 6, 7, 0] rfl)
      intro v_put v_rest v_yet x1 x2 x3 x4 x5 x6 x7 hf H locs ls hP hD hS hl
      have hf : B_X11_tables_64 N v_items v_heaps v_hour v_letter v_rank v_speed v_value v_where k47 k64 v_put v_rest v_yet x1 x2 x3 x4 x5 x6 x7 = some (o_put, o_rest, o_yet) := hf
      unfold B_X11_tables_64 at hf
      refine lv_iload hx hb dX11_tables_64 (lv_at hl 7 rfl) ?_
      refine lv_iconst (v := (5 : Int32)) hx hb dX11_tables_66 (by decide) ?_
      refine lv_icmp_ge (tgt := 101) hx hb dX11_tables_67 (by decide) (fun c37 => ?_) (fun c37 => ?_)
      · have hf := wk_itT hf c37
        obtain ⟨y38, ey38⟩ : ∃ y : Int32, y = x5 + (1 : Int32) := ⟨_, rfl⟩
        have hf := wk_nmE hf ey38
        refine lv_iinc (v := y38) (lv' := [(5, .int y38), (0, .ref a_this), (1, .int x1), (2, .int x2), (3, .int x3), (4, .int x4), (6, .int x6), (7, .int x7)]) hx hb dX11_tables_101 hl (k := 5) rfl (by rw [ey38]; rfl) (by decide) rfl (fun ls hl => ?_)
        refine lv_goto (tgt := 47) hx hb dX11_tables_104 (by decide) ?_
        exact ih47 _ _ _ _ _ _ _ _ hf _ _ _ hP hD hS (lv_sub hl [1, 2, 3, 4, 5, 0] rfl)
      · have hf := wk_itF hf c37
        refine lv_aload_n hx hb dX11_tables_70 rfl (lv_at hl 0 rfl) ?_
        refine va_get (D := D) (ci := 11) (v := .ref a_yet) (C := RX11) (T := TX11) (N := 35) hx hb hts in_X11_tables_X11 hown hK hP 0 rfl rfl 33 (by decide) (hts (.fieldLink RX11 91 "HangingCardsModel" "yet" "[I") (List.mem_of_getElem? (i := 2) rfl)) (fun _ h9 => h9) rfl dX11_tables_71 ?_
        refine lv_iload hx hb dX11_tables_74 (lv_at hl 7 rfl) ?_
        refine lv_dup2_11 hx hb dX11_tables_76 rfl rfl ?_
        obtain ⟨hi39, hf⟩ := wk_ckE hf
        refine va_iald hx hb hK hP 10 0 rfl rfl hi39 dX11_tables_77 ?_
        refine lv_iload hx hb dX11_tables_78 (lv_at hl 6 rfl) ?_
        refine lv_iload hx hb dX11_tables_80 (lv_at hl 7 rfl) ?_
        obtain ⟨r40, hc40, hf⟩ := wk_b1E hf
        refine wk_callSi2 C hP hD hS (c_X11_has l D cB cI cJ N x6 x7 hc40) (va_cwS 2 hts gX11_tables_X11_has rfl rfl rfl hd_X11_has.2 ⟨Nat.le_of_ble_eq_true rfl, Nat.le_of_ble_eq_true rfl⟩) hl.1 ⟨Nat.zero_le _, Nat.zero_le _⟩ [] [0, 1, 2, 3, 4, 5, 6, 7, 8, 9, 10] 11 (by decide +kernel) rfl (Wn := w_X11_tables cB cI cJ a_this a_cards a_county a_holes a_text a_letter a_where a_rank a_value a_hour a_readLetter a_readWhere a_readRank a_readValue a_readHour a_listName a_listDay a_voterName a_voterDay a_voterCounty a_heaps a_speed a_four a_byRules a_hours a_rest a_yet a_put v_kept v_length v_items v_readItems v_at v_lists v_voters v_needed v_heaps v_hour v_letter v_put v_rank v_rest v_speed v_value v_where v_yet) rfl rfl rfl rfl rfl rfl rfl rfl (Nat.le_of_ble_eq_true rfl) dX11_tables_82 (fun H locs hP hD hS => ?_)
        refine lv_if_eq (tgt := 92) hx hb dX11_tables_85 (by decide) (fun c41 => ?_) (fun c41 => ?_)
        · have hf := wk_itT hf c41
          refine lv_iconst (v := (0 : Int32)) hx hb dX11_tables_92 (by decide) ?_
          exact J93 _ _ _ _ _ _ _ _ _ _ _ _ _ hf _ _ _ hP hD hS (lv_sub hl [0, 1, 2, 3, 4, 5, 6, 7] rfl)
        · have hf := wk_itF hf c41
          refine lv_iconst (v := (1 : Int32)) hx hb dX11_tables_88 (by decide) ?_
          refine lv_goto (tgt := 93) hx hb dX11_tables_89 (by decide) ?_
          exact J93 _ _ _ _ _ _ _ _ _ _ _ _ _ hf _ _ _ hP hD hS (lv_sub hl [0, 1, 2, 3, 4, 5, 6, 7] rfl))
    intro v_put v_rest v_yet x1 x2 x3 x4 x5 hf H locs ls hP hD hS hl
    have hf : B_X11_tables_47 N v_items v_heaps v_hour v_letter v_rank v_speed v_value v_where k47 v_put v_rest v_yet x1 x2 x3 x4 x5 = some (o_put, o_rest, o_yet) := hf
    unfold B_X11_tables_47 at hf
    refine lv_iload hx hb dX11_tables_47 (lv_at hl 5 rfl) ?_
    refine lv_iload_n hx hb dX11_tables_49 rfl (lv_at hl 2 rfl) ?_
    refine lv_icmp_ge (tgt := 107) hx hb dX11_tables_50 (by decide) (fun c42 => ?_) (fun c42 => ?_)
    · have hf := wk_itT hf c42
      refine lv_iload_n hx hb dX11_tables_107 rfl (lv_at hl 1 rfl) ?_
      refine lv_istore (lv' := [(5, .int x1), (0, .ref a_this), (1, .int x1), (2, .int x2), (3, .int x3), (4, .int x4)]) hx hb dX11_tables_108 hl (by decide) rfl (fun ls hl => ?_)
      exact L110 N _ _ _ _ _ _ hf _ _ _ hP hD hS (lv_sub hl [1, 4, 5, 0] rfl)
    · have hf := wk_itF hf c42
      refine lv_aload_n hx hb dX11_tables_53 rfl (lv_at hl 0 rfl) ?_
      refine lv_iload hx hb dX11_tables_54 (lv_at hl 5 rfl) ?_
      obtain ⟨r43, hc43, hf⟩ := wk_b1E hf
      refine wk_callVi2 C hP hD hS (c_X11_open l D cB cI cJ N a_this a_cards a_county a_holes a_text a_letter a_where a_rank a_value a_hour a_readLetter a_readWhere a_readRank a_readValue a_readHour a_listName a_listDay a_voterName a_voterDay a_voterCounty a_heaps a_speed a_four a_byRules a_hours a_rest a_yet a_put v_kept v_length v_items v_readItems v_at v_lists v_voters v_needed v_hour v_letter v_rank v_value v_where x5 hc43) (cwV 1 hts gX11_tables_X11_open rfl rfl rfl hd_X11_open ⟨Nat.le_of_ble_eq_true rfl, Nat.le_of_ble_eq_true rfl⟩) hl.1 ⟨Nat.zero_le _, Nat.zero_le _⟩ [0, 2, 3, 5, 8, 9] [1, 4, 6, 7, 10] 11 (by decide +kernel) rfl (Wn := w_X11_tables cB cI cJ a_this a_cards a_county a_holes a_text a_letter a_where a_rank a_value a_hour a_readLetter a_readWhere a_readRank a_readValue a_readHour a_listName a_listDay a_voterName a_voterDay a_voterCounty a_heaps a_speed a_four a_byRules a_hours a_rest a_yet a_put v_kept v_length v_items v_readItems v_at v_lists v_voters v_needed v_heaps v_hour v_letter v_put v_rank v_rest v_speed v_value v_where v_yet) rfl rfl rfl rfl rfl rfl (ci := 11) rfl rfl (q0 := 0) rfl rfl rfl (Nat.le_of_ble_eq_true rfl) dX11_tables_56 (fun H locs hP hD hS => ?_)
      refine lv_istore (lv' := [(6, .int r43), (0, .ref a_this), (1, .int x1), (2, .int x2), (3, .int x3), (4, .int x4), (5, .int x5)]) hx hb dX11_tables_59 hl (by decide) rfl (fun ls hl => ?_)
      refine lv_iconst (v := (0 : Int32)) hx hb dX11_tables_61 (by decide) ?_
      refine lv_istore (lv' := [(7, .int (0 : Int32)), (6, .int r43), (0, .ref a_this), (1, .int x1), (2, .int x2), (3, .int x3), (4, .int x4), (5, .int x5)]) hx hb dX11_tables_62 hl (by decide) rfl (fun ls hl => ?_)
      exact L64 N _ _ _ _ _ _ _ _ _ _ hf _ _ _ hP hD hS (lv_sub hl [2, 3, 4, 5, 6, 7, 1, 0] rfl))
  have L3 := wk_loopI (F := (fun k3 : (Nat → Int32) → (Nat → Int32) → (Nat → Int32) → Int32 → Int32 → Int32 → Int32 → Int32 → Option ((Nat → Int32) × (Nat → Int32) × (Nat → Int32)) => B_X11_tables_3 N v_items v_heaps v_hour v_letter v_rank v_speed v_value v_where k3)) (bot := fun _ _ _ _ _ _ _ _ => none) (fun k3 : (Nat → Int32) → (Nat → Int32) → (Nat → Int32) → Int32 → Int32 → Int32 → Int32 → Int32 → Option ((Nat → Int32) × (Nat → Int32) × (Nat → Int32)) => ∀ (v_put : Nat → Int32) (v_rest : Nat → Int32) (v_yet : Nat → Int32) (x1 : Int32) (x2 : Int32) (x3 : Int32) (x4 : Int32) (x5 : Int32), k3 v_put v_rest v_yet x1 x2 x3 x4 x5 = some (o_put, o_rest, o_yet) → ∀ (H : Heap) (locs : List Loc) (ls : Array Slot), va_P D vwCl (w_X11_tables cB cI cJ a_this a_cards a_county a_holes a_text a_letter a_where a_rank a_value a_hour a_readLetter a_readWhere a_readRank a_readValue a_readHour a_listName a_listDay a_voterName a_voterDay a_voterCounty a_heaps a_speed a_four a_byRules a_hours a_rest a_yet a_put v_kept v_length v_items v_readItems v_at v_lists v_voters v_needed v_heaps v_hour v_letter v_put v_rank v_rest v_speed v_value v_where v_yet) H → va_D A (w_X11_tables cB cI cJ a_this a_cards a_county a_holes a_text a_letter a_where a_rank a_value a_hour a_readLetter a_readWhere a_readRank a_readValue a_readHour a_listName a_listDay a_voterName a_voterDay a_voterCounty a_heaps a_speed a_four a_byRules a_hours a_rest a_yet a_put v_kept v_length v_items v_readItems v_at v_lists v_voters v_needed v_heaps v_hour v_letter v_put v_rank v_rest v_speed v_value v_where v_yet) → va_S A s.heap H locs → lv_has ls 11 [(0, .ref a_this), (1, .int x1), (2, .int x2), (3, .int x3), (4, .int x4), (5, .int x5)] → W p l e rm_X11_tables s m args below meth c H locs 0 0 Q (F0 m 3 ls [])) (by intro v_put v_rest v_yet x1 x2 x3 x4 x5 hf; exact wk_no hf) (by
    intro k3 ih3
    intro v_put v_rest v_yet x1 x2 x3 x4 x5 hf H locs ls hP hD hS hl
    have hf : B_X11_tables_3 N v_items v_heaps v_hour v_letter v_rank v_speed v_value v_where k3 v_put v_rest v_yet x1 x2 x3 x4 x5 = some (o_put, o_rest, o_yet) := hf
    unfold B_X11_tables_3 at hf
    refine lv_iload hx hb dX11_tables_3 (lv_at hl 5 rfl) ?_
    refine lv_iconst (v := (5 : Int32)) hx hb dX11_tables_5 (by decide) ?_
    refine lv_icmp_ge (tgt := 44) hx hb dX11_tables_6 (by decide) (fun c44 => ?_) (fun c44 => ?_)
    · have hf := wk_itT hf c44
      refine lv_iload_n hx hb dX11_tables_44 rfl (lv_at hl 1 rfl) ?_
      refine lv_istore (lv' := [(5, .int x1), (0, .ref a_this), (1, .int x1), (2, .int x2), (3, .int x3), (4, .int x4)]) hx hb dX11_tables_45 hl (by decide) rfl (fun ls hl => ?_)
      exact L47 N _ _ _ _ _ _ _ _ hf _ _ _ hP hD hS (lv_sub hl [1, 2, 3, 4, 5, 0] rfl)
    · have hf := wk_itF hf c44
      refine lv_aload_n hx hb dX11_tables_9 rfl (lv_at hl 0 rfl) ?_
      refine va_get (D := D) (ci := 11) (v := .ref a_rest) (C := RX11) (T := TX11) (N := 35) hx hb hts in_X11_tables_X11 hown hK hP 0 rfl rfl 32 (by decide) (hts (.fieldLink RX11 88 "HangingCardsModel" "rest" "[I") (List.mem_of_getElem? (i := 1) rfl)) (fun _ h9 => h9) rfl dX11_tables_10 ?_
      refine lv_iload hx hb dX11_tables_13 (lv_at hl 5 rfl) ?_
      refine lv_aload_n hx hb dX11_tables_15 rfl (lv_at hl 0 rfl) ?_
      refine lv_iload hx hb dX11_tables_16 (lv_at hl 5 rfl) ?_
      obtain ⟨r45, hc45, hf⟩ := wk_b1E hf
      refine wk_callVi2 C hP hD hS (c_X11_work l D cB cI cJ N a_this a_cards a_county a_holes a_text a_letter a_where a_rank a_value a_hour a_readLetter a_readWhere a_readRank a_readValue a_readHour a_listName a_listDay a_voterName a_voterDay a_voterCounty a_heaps a_speed a_four a_byRules a_hours a_rest a_yet a_put v_kept v_length v_items v_readItems v_at v_lists v_voters v_needed v_heaps v_speed x5 hc45) (cwV 1 hts gX11_tables_X11_work rfl rfl rfl hd_X11_work ⟨Nat.le_of_ble_eq_true rfl, Nat.le_of_ble_eq_true rfl⟩) hl.1 ⟨Nat.zero_le _, Nat.zero_le _⟩ [0, 1, 7] [2, 3, 4, 5, 6, 8, 9, 10] 11 (by decide +kernel) rfl (Wn := w_X11_tables cB cI cJ a_this a_cards a_county a_holes a_text a_letter a_where a_rank a_value a_hour a_readLetter a_readWhere a_readRank a_readValue a_readHour a_listName a_listDay a_voterName a_voterDay a_voterCounty a_heaps a_speed a_four a_byRules a_hours a_rest a_yet a_put v_kept v_length v_items v_readItems v_at v_lists v_voters v_needed v_heaps v_hour v_letter v_put v_rank v_rest v_speed v_value v_where v_yet) rfl rfl rfl rfl rfl rfl (ci := 11) rfl rfl (q0 := 0) rfl rfl rfl (Nat.le_of_ble_eq_true rfl) dX11_tables_18 (fun H locs hP hD hS => ?_)
      obtain ⟨hi46, hf⟩ := wk_ckE hf
      refine va_iast hx hb hK hP hD hS 6 0 rfl rfl hi46 dX11_tables_21 (fun H locs hP hD hS => ?_)
      have hP : va_P D vwCl (w_X11_tables cB cI cJ a_this a_cards a_county a_holes a_text a_letter a_where a_rank a_value a_hour a_readLetter a_readWhere a_readRank a_readValue a_readHour a_listName a_listDay a_voterName a_voterDay a_voterCounty a_heaps a_speed a_four a_byRules a_hours a_rest a_yet a_put v_kept v_length v_items v_readItems v_at v_lists v_voters v_needed v_heaps v_hour v_letter v_put v_rank (upd v_rest x5.toNatClampNeg r45) v_speed v_value v_where v_yet) H := hP
      have hD : va_D A (w_X11_tables cB cI cJ a_this a_cards a_county a_holes a_text a_letter a_where a_rank a_value a_hour a_readLetter a_readWhere a_readRank a_readValue a_readHour a_listName a_listDay a_voterName a_voterDay a_voterCounty a_heaps a_speed a_four a_byRules a_hours a_rest a_yet a_put v_kept v_length v_items v_readItems v_at v_lists v_voters v_needed v_heaps v_hour v_letter v_put v_rank (upd v_rest x5.toNatClampNeg r45) v_speed v_value v_where v_yet) := hD
      refine lv_aload_n hx hb dX11_tables_22 rfl (lv_at hl 0 rfl) ?_
      refine va_get (D := D) (ci := 11) (v := .ref a_yet) (C := RX11) (T := TX11) (N := 35) hx hb hts in_X11_tables_X11 hown hK hP 0 rfl rfl 33 (by decide) (hts (.fieldLink RX11 91 "HangingCardsModel" "yet" "[I") (List.mem_of_getElem? (i := 2) rfl)) (fun _ h9 => h9) rfl dX11_tables_23 ?_
      refine lv_iload hx hb dX11_tables_26 (lv_at hl 5 rfl) ?_
      refine lv_iconst (v := (0 : Int32)) hx hb dX11_tables_28 (by decide) ?_
      obtain ⟨hi47, hf⟩ := wk_ckE hf
      refine va_iast hx hb hK hP hD hS 10 0 rfl rfl hi47 dX11_tables_29 (fun H locs hP hD hS => ?_)
      have hP : va_P D vwCl (w_X11_tables cB cI cJ a_this a_cards a_county a_holes a_text a_letter a_where a_rank a_value a_hour a_readLetter a_readWhere a_readRank a_readValue a_readHour a_listName a_listDay a_voterName a_voterDay a_voterCounty a_heaps a_speed a_four a_byRules a_hours a_rest a_yet a_put v_kept v_length v_items v_readItems v_at v_lists v_voters v_needed v_heaps v_hour v_letter v_put v_rank (upd v_rest x5.toNatClampNeg r45) v_speed v_value v_where (upd v_yet x5.toNatClampNeg (0 : Int32))) H := hP
      have hD : va_D A (w_X11_tables cB cI cJ a_this a_cards a_county a_holes a_text a_letter a_where a_rank a_value a_hour a_readLetter a_readWhere a_readRank a_readValue a_readHour a_listName a_listDay a_voterName a_voterDay a_voterCounty a_heaps a_speed a_four a_byRules a_hours a_rest a_yet a_put v_kept v_length v_items v_readItems v_at v_lists v_voters v_needed v_heaps v_hour v_letter v_put v_rank (upd v_rest x5.toNatClampNeg r45) v_speed v_value v_where (upd v_yet x5.toNatClampNeg (0 : Int32))) := hD
      refine lv_aload_n hx hb dX11_tables_30 rfl (lv_at hl 0 rfl) ?_
      refine va_get (D := D) (ci := 11) (v := .ref a_put) (C := RX11) (T := TX11) (N := 35) hx hb hts in_X11_tables_X11 hown hK hP 0 rfl rfl 34 (by decide) (hts (.fieldLink RX11 94 "HangingCardsModel" "put" "[I") (List.mem_of_getElem? (i := 3) rfl)) (fun _ h9 => h9) rfl dX11_tables_31 ?_
      refine lv_iload hx hb dX11_tables_34 (lv_at hl 5 rfl) ?_
      refine lv_iconst (v := (0 : Int32)) hx hb dX11_tables_36 (by decide) ?_
      obtain ⟨hi48, hf⟩ := wk_ckE hf
      refine va_iast hx hb hK hP hD hS 4 0 rfl rfl hi48 dX11_tables_37 (fun H locs hP hD hS => ?_)
      have hP : va_P D vwCl (w_X11_tables cB cI cJ a_this a_cards a_county a_holes a_text a_letter a_where a_rank a_value a_hour a_readLetter a_readWhere a_readRank a_readValue a_readHour a_listName a_listDay a_voterName a_voterDay a_voterCounty a_heaps a_speed a_four a_byRules a_hours a_rest a_yet a_put v_kept v_length v_items v_readItems v_at v_lists v_voters v_needed v_heaps v_hour v_letter (upd v_put x5.toNatClampNeg (0 : Int32)) v_rank (upd v_rest x5.toNatClampNeg r45) v_speed v_value v_where (upd v_yet x5.toNatClampNeg (0 : Int32))) H := hP
      have hD : va_D A (w_X11_tables cB cI cJ a_this a_cards a_county a_holes a_text a_letter a_where a_rank a_value a_hour a_readLetter a_readWhere a_readRank a_readValue a_readHour a_listName a_listDay a_voterName a_voterDay a_voterCounty a_heaps a_speed a_four a_byRules a_hours a_rest a_yet a_put v_kept v_length v_items v_readItems v_at v_lists v_voters v_needed v_heaps v_hour v_letter (upd v_put x5.toNatClampNeg (0 : Int32)) v_rank (upd v_rest x5.toNatClampNeg r45) v_speed v_value v_where (upd v_yet x5.toNatClampNeg (0 : Int32))) := hD
      obtain ⟨y49, ey49⟩ : ∃ y : Int32, y = x5 + (1 : Int32) := ⟨_, rfl⟩
      have hf := wk_nmE hf ey49
      refine lv_iinc (v := y49) (lv' := [(5, .int y49), (0, .ref a_this), (1, .int x1), (2, .int x2), (3, .int x3), (4, .int x4)]) hx hb dX11_tables_38 hl (k := 5) rfl (by rw [ey49]; rfl) (by decide) rfl (fun ls hl => ?_)
      refine lv_goto (tgt := 3) hx hb dX11_tables_41 (by decide) ?_
      exact ih3 _ _ _ _ _ _ _ _ hf _ _ _ hP hD hS (lv_sub hl [1, 2, 3, 4, 5, 0] rfl))
  unfold f_X11_tables at hf
  refine lv_iconst (v := (0 : Int32)) hx hb dX11_tables_0 (by decide) ?_
  refine lv_istore (lv' := [(5, .int (0 : Int32)), (0, .ref a_this), (1, .int x1), (2, .int x2), (3, .int x3), (4, .int x4)]) hx hb dX11_tables_1 hl (by decide) rfl (fun ls hl => ?_)
  exact L3 N _ _ _ _ _ _ _ _ hf _ _ _ hP hD hS (lv_sub hl [1, 2, 3, 4, 5, 0] rfl)
abbrev w_X11_table (cB cI cJ : ClassId) (a_this : Nat) (a_cards : Nat) (a_county : Nat) (a_holes : Nat) (a_text : Nat) (a_letter : Nat) (a_where : Nat) (a_rank : Nat) (a_value : Nat) (a_hour : Nat) (a_readLetter : Nat) (a_readWhere : Nat) (a_readRank : Nat) (a_readValue : Nat) (a_readHour : Nat) (a_listName : Nat) (a_listDay : Nat) (a_voterName : Nat) (a_voterDay : Nat) (a_voterCounty : Nat) (a_heaps : Nat) (a_speed : Nat) (a_four : Nat) (a_byRules : Nat) (a_hours : Nat) (a_rest : Nat) (a_yet : Nat) (a_put : Nat) (v_kept : Int32) (v_length : Int32) (v_items : Int32) (v_readItems : Int32) (v_at : Int32) (v_lists : Int32) (v_voters : Int32) (v_needed : Int32) (v_heaps : Nat → Int32) (v_hour : Nat → Int32) (v_letter : Nat → Int32) (v_put : Nat → Int32) (v_rank : Nat → Int32) (v_rest : Nat → Int32) (v_speed : Nat → Int32) (v_value : Nat → Int32) (v_where : Nat → Int32) (v_yet : Nat → Int32) : va_W := [(a_this, .inr (11, [.ref a_cards, .ref a_county, .ref a_holes, .int v_kept, .int v_length, .ref a_text, .int v_items, .ref a_letter, .ref a_where, .ref a_rank, .ref a_value, .ref a_hour, .int v_readItems, .ref a_readLetter, .ref a_readWhere, .ref a_readRank, .ref a_readValue, .ref a_readHour, .int v_at, .int v_lists, .ref a_listName, .ref a_listDay, .int v_voters, .ref a_voterName, .ref a_voterDay, .ref a_voterCounty, .int v_needed, .ref a_heaps, .ref a_speed, .ref a_four, .ref a_byRules, .ref a_hours, .ref a_rest, .ref a_yet, .ref a_put])), (a_heaps, .inl (cI, 5, .inl v_heaps)), (a_hour, .inl (cI, 40, .inl v_hour)), (a_letter, .inl (cI, 40, .inl v_letter)), (a_put, .inl (cI, 5, .inl v_put)), (a_rank, .inl (cI, 40, .inl v_rank)), (a_rest, .inl (cI, 5, .inl v_rest)), (a_speed, .inl (cI, 5, .inl v_speed)), (a_value, .inl (cI, 40, .inl v_value)), (a_where, .inl (cI, 40, .inl v_where)), (a_yet, .inl (cI, 5, .inl v_yet))]
theorem hd_X11_table : yX11_table.cls = RX11 ∧ yX11_table.cls ≠ "java/lang/invoke/MethodHandle" ∧ yX11_table.cls ≠ "java/lang/invoke/VarHandle" ∧ (parseMethodDescriptor yX11_table.desc).map (fun d => d.parameters.length) = some 5 := by decide +kernel
abbrev rm_X11_table : Room := { frames := 4, cells := 0, slots := 0, locals := 103 }
theorem in_X11_table_X11 : ∀ w ∈ wsX110, w ∈ wsX11_table := fun w h => List.mem_cons_of_mem _ (List.mem_append_right _ h)
set_option maxHeartbeats 4000000 in
set_option maxRecDepth 100000 in
theorem c_X11_table (l : Launch) (D : va_G) (cB cI cJ : ClassId) (N : Nat) (a_this : Nat) (a_cards : Nat) (a_county : Nat) (a_holes : Nat) (a_text : Nat) (a_letter : Nat) (a_where : Nat) (a_rank : Nat) (a_value : Nat) (a_hour : Nat) (a_readLetter : Nat) (a_readWhere : Nat) (a_readRank : Nat) (a_readValue : Nat) (a_readHour : Nat) (a_listName : Nat) (a_listDay : Nat) (a_voterName : Nat) (a_voterDay : Nat) (a_voterCounty : Nat) (a_heaps : Nat) (a_speed : Nat) (a_four : Nat) (a_byRules : Nat) (a_hours : Nat) (a_rest : Nat) (a_yet : Nat) (a_put : Nat) (v_kept : Int32) (v_length : Int32) (v_items : Int32) (v_readItems : Int32) (v_at : Int32) (v_lists : Int32) (v_voters : Int32) (v_needed : Int32) (v_heaps : Nat → Int32) (v_hour : Nat → Int32) (v_letter : Nat → Int32) (v_put : Nat → Int32) (v_rank : Nat → Int32) (v_rest : Nat → Int32) (v_speed : Nat → Int32) (v_value : Nat → Int32) (v_where : Nat → Int32) (v_yet : Nat → Int32) (x1 : Int32) (x2 : Int32) (x3 : Int32) (x4 : Int32) (x5 : Int32) {r : Int32} {o_put : Nat → Int32} {o_rest : Nat → Int32} {o_yet : Nat → Int32} (hf : f_X11_table N v_items v_heaps v_hour v_letter v_rank v_speed v_value v_where v_put v_rest v_yet x1 x2 x3 x4 x5 = some (r, o_put, o_rest, o_yet)) : MTi l yX11_table wsX11_table rm_X11_table D (wk_T cB cI cJ) [.ref a_this, .int x1, .int x2, .int x3, .int x4, .int x5] (w_X11_table cB cI cJ a_this a_cards a_county a_holes a_text a_letter a_where a_rank a_value a_hour a_readLetter a_readWhere a_readRank a_readValue a_readHour a_listName a_listDay a_voterName a_voterDay a_voterCounty a_heaps a_speed a_four a_byRules a_hours a_rest a_yet a_put v_kept v_length v_items v_readItems v_at v_lists v_voters v_needed v_heaps v_hour v_letter v_put v_rank v_rest v_speed v_value v_where v_yet) (w_X11_table cB cI cJ a_this a_cards a_county a_holes a_text a_letter a_where a_rank a_value a_hour a_readLetter a_readWhere a_readRank a_readValue a_readHour a_listName a_listDay a_voterName a_voterDay a_voterCounty a_heaps a_speed a_four a_byRules a_hours a_rest a_yet a_put v_kept v_length v_items v_readItems v_at v_lists v_voters v_needed v_heaps v_hour v_letter o_put v_rank o_rest v_speed v_value v_where o_yet) r := by
  refine MTi.of (cc := cX11_table) (nL := 6) (rt := .int) (own := RX11) pn_X11 rfl rfl (Nat.le_of_ble_eq_true rfl) rfl ?_
  intro p e s m args below meth c A ls Q C hP hD hS hl hret
  obtain ⟨hx, hb, hml, hts, hown, hK, hN, hA, hlk⟩ := id C
  have hl : lv_has ls 6 [(0, .ref a_this), (1, .int x1), (2, .int x2), (3, .int x3), (4, .int x4), (5, .int x5)] := hl
  unfold f_X11_table at hf
  refine lv_iload_n hx hb dX11_table_0 rfl (lv_at hl 1 rfl) ?_
  refine lv_iload_n hx hb dX11_table_1 rfl (lv_at hl 2 rfl) ?_
  obtain ⟨r1, hc1, hf⟩ := wk_b1E hf
  refine wk_callSi2 C hP hD hS (c_X11_isSpan l D cB cI cJ N x1 x2 hc1) (va_cwS 2 hts gX11_table_X11_isSpan rfl rfl rfl hd_X11_isSpan.2 ⟨Nat.le_of_ble_eq_true rfl, Nat.le_of_ble_eq_true rfl⟩) hl.1 ⟨Nat.zero_le _, Nat.zero_le _⟩ [] [0, 1, 2, 3, 4, 5, 6, 7, 8, 9, 10] 11 (by decide +kernel) rfl (Wn := w_X11_table cB cI cJ a_this a_cards a_county a_holes a_text a_letter a_where a_rank a_value a_hour a_readLetter a_readWhere a_readRank a_readValue a_readHour a_listName a_listDay a_voterName a_voterDay a_voterCounty a_heaps a_speed a_four a_byRules a_hours a_rest a_yet a_put v_kept v_length v_items v_readItems v_at v_lists v_voters v_needed v_heaps v_hour v_letter v_put v_rank v_rest v_speed v_value v_where v_yet) rfl rfl rfl rfl rfl rfl rfl rfl (Nat.le_of_ble_eq_true rfl) dX11_table_2 (fun H locs hP hD hS => ?_)
  refine lv_if_eq (tgt := 48) hx hb dX11_table_5 (by decide) (fun c2 => ?_) (fun c2 => ?_)
  · have hf := wk_itT hf c2
    refine lv_iconst (v := (-1 : Int32)) hx hb dX11_table_48 (by decide) ?_
    exact hret _ _ _ _ _ _ dX11_table_49 (wk_rt hf (fun z => z.1)) (wk_rt hf (fun z => w_X11_table cB cI cJ a_this a_cards a_county a_holes a_text a_letter a_where a_rank a_value a_hour a_readLetter a_readWhere a_readRank a_readValue a_readHour a_listName a_listDay a_voterName a_voterDay a_voterCounty a_heaps a_speed a_four a_byRules a_hours a_rest a_yet a_put v_kept v_length v_items v_readItems v_at v_lists v_voters v_needed v_heaps v_hour v_letter (z.2.1) v_rank (z.2.2.1) v_speed v_value v_where (z.2.2.2))) hP hD hS
  · have hf := wk_itF hf c2
    refine lv_iload_n hx hb dX11_table_8 rfl (lv_at hl 3 rfl) ?_
    refine lv_i2l (v := (x3.toInt64)) hx hb dX11_table_9 rfl ?_
    refine lv_lconst (v := (1 : Int64)) hx hb dX11_table_10 (by decide) ?_
    refine lv_ldc2 (v := (20 : Int64)) hx hb hown (hts (.constantLong RX11 278 (20)) (List.mem_of_getElem? (i := 1) rfl)) dX11_table_11 ?_
    obtain ⟨r3, hc3, hf⟩ := wk_b1E hf
    refine wk_callSi2 C hP hD hS (c_X11_in l D cB cI cJ N (x3.toInt64) (1 : Int64) (20 : Int64) hc3) (va_cwS 3 hts gX11_table_X11_in rfl rfl rfl hd_X11_in.2 ⟨Nat.le_of_ble_eq_true rfl, Nat.le_of_ble_eq_true rfl⟩) hl.1 ⟨Nat.zero_le _, Nat.zero_le _⟩ [] [0, 1, 2, 3, 4, 5, 6, 7, 8, 9, 10] 11 (by decide +kernel) rfl (Wn := w_X11_table cB cI cJ a_this a_cards a_county a_holes a_text a_letter a_where a_rank a_value a_hour a_readLetter a_readWhere a_readRank a_readValue a_readHour a_listName a_listDay a_voterName a_voterDay a_voterCounty a_heaps a_speed a_four a_byRules a_hours a_rest a_yet a_put v_kept v_length v_items v_readItems v_at v_lists v_voters v_needed v_heaps v_hour v_letter v_put v_rank v_rest v_speed v_value v_where v_yet) rfl rfl rfl rfl rfl rfl rfl rfl (Nat.le_of_ble_eq_true rfl) dX11_table_14 (fun H locs hP hD hS => ?_)
    refine lv_if_eq (tgt := 48) hx hb dX11_table_17 (by decide) (fun c4 => ?_) (fun c4 => ?_)
    · have hf := wk_itT hf c4
      refine lv_iconst (v := (-1 : Int32)) hx hb dX11_table_48 (by decide) ?_
      exact hret _ _ _ _ _ _ dX11_table_49 (wk_rt hf (fun z => z.1)) (wk_rt hf (fun z => w_X11_table cB cI cJ a_this a_cards a_county a_holes a_text a_letter a_where a_rank a_value a_hour a_readLetter a_readWhere a_readRank a_readValue a_readHour a_listName a_listDay a_voterName a_voterDay a_voterCounty a_heaps a_speed a_four a_byRules a_hours a_rest a_yet a_put v_kept v_length v_items v_readItems v_at v_lists v_voters v_needed v_heaps v_hour v_letter (z.2.1) v_rank (z.2.2.1) v_speed v_value v_where (z.2.2.2))) hP hD hS
    · have hf := wk_itF hf c4
      refine lv_iload hx hb dX11_table_20 (lv_at hl 4 rfl) ?_
      refine lv_i2l (v := (x4.toInt64)) hx hb dX11_table_22 rfl ?_
      refine lv_iload_n hx hb dX11_table_23 rfl (lv_at hl 1 rfl) ?_
      refine lv_i2l (v := (x1.toInt64)) hx hb dX11_table_24 rfl ?_
      refine lv_iload_n hx hb dX11_table_25 rfl (lv_at hl 2 rfl) ?_
      refine lv_iconst (v := (1 : Int32)) hx hb dX11_table_26 (by decide) ?_
      refine lv_isub hx hb dX11_table_27 ?_
      refine lv_i2l (v := ((x2 - (1 : Int32)).toInt64)) hx hb dX11_table_28 rfl ?_
      obtain ⟨r5, hc5, hf⟩ := wk_b1E hf
      refine wk_callSi2 C hP hD hS (c_X11_in l D cB cI cJ N (x4.toInt64) (x1.toInt64) ((x2 - (1 : Int32)).toInt64) hc5) (va_cwS 3 hts gX11_table_X11_in rfl rfl rfl hd_X11_in.2 ⟨Nat.le_of_ble_eq_true rfl, Nat.le_of_ble_eq_true rfl⟩) hl.1 ⟨Nat.zero_le _, Nat.zero_le _⟩ [] [0, 1, 2, 3, 4, 5, 6, 7, 8, 9, 10] 11 (by decide +kernel) rfl (Wn := w_X11_table cB cI cJ a_this a_cards a_county a_holes a_text a_letter a_where a_rank a_value a_hour a_readLetter a_readWhere a_readRank a_readValue a_readHour a_listName a_listDay a_voterName a_voterDay a_voterCounty a_heaps a_speed a_four a_byRules a_hours a_rest a_yet a_put v_kept v_length v_items v_readItems v_at v_lists v_voters v_needed v_heaps v_hour v_letter v_put v_rank v_rest v_speed v_value v_where v_yet) rfl rfl rfl rfl rfl rfl rfl rfl (Nat.le_of_ble_eq_true rfl) dX11_table_29 (fun H locs hP hD hS => ?_)
      refine lv_if_eq (tgt := 48) hx hb dX11_table_32 (by decide) (fun c6 => ?_) (fun c6 => ?_)
      · have hf := wk_itT hf c6
        refine lv_iconst (v := (-1 : Int32)) hx hb dX11_table_48 (by decide) ?_
        exact hret _ _ _ _ _ _ dX11_table_49 (wk_rt hf (fun z => z.1)) (wk_rt hf (fun z => w_X11_table cB cI cJ a_this a_cards a_county a_holes a_text a_letter a_where a_rank a_value a_hour a_readLetter a_readWhere a_readRank a_readValue a_readHour a_listName a_listDay a_voterName a_voterDay a_voterCounty a_heaps a_speed a_four a_byRules a_hours a_rest a_yet a_put v_kept v_length v_items v_readItems v_at v_lists v_voters v_needed v_heaps v_hour v_letter (z.2.1) v_rank (z.2.2.1) v_speed v_value v_where (z.2.2.2))) hP hD hS
      · have hf := wk_itF hf c6
        refine lv_iload hx hb dX11_table_35 (lv_at hl 5 rfl) ?_
        refine lv_i2l (v := (x5.toInt64)) hx hb dX11_table_37 rfl ?_
        refine lv_lconst (v := (0 : Int64)) hx hb dX11_table_38 (by decide) ?_
        refine lv_ldc2 (v := (4 : Int64)) hx hb hown (hts (.constantLong RX11 101 (4)) (List.mem_of_getElem? (i := 2) rfl)) dX11_table_39 ?_
        obtain ⟨r7, hc7, hf⟩ := wk_b1E hf
        refine wk_callSi2 C hP hD hS (c_X11_in l D cB cI cJ N (x5.toInt64) (0 : Int64) (4 : Int64) hc7) (va_cwS 3 hts gX11_table_X11_in rfl rfl rfl hd_X11_in.2 ⟨Nat.le_of_ble_eq_true rfl, Nat.le_of_ble_eq_true rfl⟩) hl.1 ⟨Nat.zero_le _, Nat.zero_le _⟩ [] [0, 1, 2, 3, 4, 5, 6, 7, 8, 9, 10] 11 (by decide +kernel) rfl (Wn := w_X11_table cB cI cJ a_this a_cards a_county a_holes a_text a_letter a_where a_rank a_value a_hour a_readLetter a_readWhere a_readRank a_readValue a_readHour a_listName a_listDay a_voterName a_voterDay a_voterCounty a_heaps a_speed a_four a_byRules a_hours a_rest a_yet a_put v_kept v_length v_items v_readItems v_at v_lists v_voters v_needed v_heaps v_hour v_letter v_put v_rank v_rest v_speed v_value v_where v_yet) rfl rfl rfl rfl rfl rfl rfl rfl (Nat.le_of_ble_eq_true rfl) dX11_table_42 (fun H locs hP hD hS => ?_)
        refine lv_if_ne (tgt := 50) hx hb dX11_table_45 (by decide) (fun c8 => ?_) (fun c8 => ?_)
        · have hf := wk_itF hf c8
          refine lv_aload_n hx hb dX11_table_50 rfl (lv_at hl 0 rfl) ?_
          refine lv_iload_n hx hb dX11_table_51 rfl (lv_at hl 1 rfl) ?_
          refine lv_iload_n hx hb dX11_table_52 rfl (lv_at hl 2 rfl) ?_
          refine lv_iload_n hx hb dX11_table_53 rfl (lv_at hl 3 rfl) ?_
          refine lv_iload hx hb dX11_table_54 (lv_at hl 4 rfl) ?_
          obtain ⟨o9_0, o9_1, o9_2, hc9, hf⟩ := wk_b3E hf
          refine wk_callVv2 C hP hD hS (c_X11_tables l D cB cI cJ N a_this a_cards a_county a_holes a_text a_letter a_where a_rank a_value a_hour a_readLetter a_readWhere a_readRank a_readValue a_readHour a_listName a_listDay a_voterName a_voterDay a_voterCounty a_heaps a_speed a_four a_byRules a_hours a_rest a_yet a_put v_kept v_length v_items v_readItems v_at v_lists v_voters v_needed v_heaps v_hour v_letter v_put v_rank v_rest v_speed v_value v_where v_yet x1 x2 x3 x4 hc9) (cwV 4 hts gX11_table_X11_tables rfl rfl rfl hd_X11_tables ⟨Nat.le_of_ble_eq_true rfl, Nat.le_of_ble_eq_true rfl⟩) hl.1 ⟨Nat.zero_le _, Nat.zero_le _⟩ [0, 1, 2, 3, 4, 5, 6, 7, 8, 9, 10] [] 11 (by decide +kernel) rfl (Wn := w_X11_table cB cI cJ a_this a_cards a_county a_holes a_text a_letter a_where a_rank a_value a_hour a_readLetter a_readWhere a_readRank a_readValue a_readHour a_listName a_listDay a_voterName a_voterDay a_voterCounty a_heaps a_speed a_four a_byRules a_hours a_rest a_yet a_put v_kept v_length v_items v_readItems v_at v_lists v_voters v_needed v_heaps v_hour v_letter o9_0 v_rank o9_1 v_speed v_value v_where o9_2) rfl rfl rfl rfl rfl rfl (ci := 11) rfl rfl (q0 := 0) rfl rfl rfl (Nat.le_of_ble_eq_true rfl) dX11_table_56 (fun H locs hP hD hS => ?_)
          refine lv_aload_n hx hb dX11_table_59 rfl (lv_at hl 0 rfl) ?_
          refine va_get (D := D) (ci := 11) (v := .ref a_put) (C := RX11) (T := TX11) (N := 35) hx hb hts in_X11_table_X11 hown hK hP 0 rfl rfl 34 (by decide) (hts (.fieldLink RX11 94 "HangingCardsModel" "put" "[I") (List.mem_of_getElem? (i := 3) rfl)) (fun _ h9 => h9) rfl dX11_table_60 ?_
          refine lv_iload hx hb dX11_table_63 (lv_at hl 5 rfl) ?_
          obtain ⟨hi10, hf⟩ := wk_ckE hf
          refine va_iald hx hb hK hP 4 0 rfl rfl hi10 dX11_table_65 ?_
          exact hret _ _ _ _ _ _ dX11_table_66 (wk_rt hf (fun z => z.1)) (wk_rt hf (fun z => w_X11_table cB cI cJ a_this a_cards a_county a_holes a_text a_letter a_where a_rank a_value a_hour a_readLetter a_readWhere a_readRank a_readValue a_readHour a_listName a_listDay a_voterName a_voterDay a_voterCounty a_heaps a_speed a_four a_byRules a_hours a_rest a_yet a_put v_kept v_length v_items v_readItems v_at v_lists v_voters v_needed v_heaps v_hour v_letter (z.2.1) v_rank (z.2.2.1) v_speed v_value v_where (z.2.2.2))) hP hD hS
        · have hf := wk_itT hf c8
          refine lv_iconst (v := (-1 : Int32)) hx hb dX11_table_48 (by decide) ?_
          exact hret _ _ _ _ _ _ dX11_table_49 (wk_rt hf (fun z => z.1)) (wk_rt hf (fun z => w_X11_table cB cI cJ a_this a_cards a_county a_holes a_text a_letter a_where a_rank a_value a_hour a_readLetter a_readWhere a_readRank a_readValue a_readHour a_listName a_listDay a_voterName a_voterDay a_voterCounty a_heaps a_speed a_four a_byRules a_hours a_rest a_yet a_put v_kept v_length v_items v_readItems v_at v_lists v_voters v_needed v_heaps v_hour v_letter (z.2.1) v_rank (z.2.2.1) v_speed v_value v_where (z.2.2.2))) hP hD hS
abbrev w_X11_left (cB cI cJ : ClassId) (a_this : Nat) (a_cards : Nat) (a_county : Nat) (a_holes : Nat) (a_text : Nat) (a_letter : Nat) (a_where : Nat) (a_rank : Nat) (a_value : Nat) (a_hour : Nat) (a_readLetter : Nat) (a_readWhere : Nat) (a_readRank : Nat) (a_readValue : Nat) (a_readHour : Nat) (a_listName : Nat) (a_listDay : Nat) (a_voterName : Nat) (a_voterDay : Nat) (a_voterCounty : Nat) (a_heaps : Nat) (a_speed : Nat) (a_four : Nat) (a_byRules : Nat) (a_hours : Nat) (a_rest : Nat) (a_yet : Nat) (a_put : Nat) (v_kept : Int32) (v_length : Int32) (v_items : Int32) (v_readItems : Int32) (v_at : Int32) (v_lists : Int32) (v_voters : Int32) (v_needed : Int32) (v_heaps : Nat → Int32) (v_hour : Nat → Int32) (v_letter : Nat → Int32) (v_put : Nat → Int32) (v_rank : Nat → Int32) (v_rest : Nat → Int32) (v_speed : Nat → Int32) (v_value : Nat → Int32) (v_where : Nat → Int32) (v_yet : Nat → Int32) : va_W := [(a_this, .inr (11, [.ref a_cards, .ref a_county, .ref a_holes, .int v_kept, .int v_length, .ref a_text, .int v_items, .ref a_letter, .ref a_where, .ref a_rank, .ref a_value, .ref a_hour, .int v_readItems, .ref a_readLetter, .ref a_readWhere, .ref a_readRank, .ref a_readValue, .ref a_readHour, .int v_at, .int v_lists, .ref a_listName, .ref a_listDay, .int v_voters, .ref a_voterName, .ref a_voterDay, .ref a_voterCounty, .int v_needed, .ref a_heaps, .ref a_speed, .ref a_four, .ref a_byRules, .ref a_hours, .ref a_rest, .ref a_yet, .ref a_put])), (a_heaps, .inl (cI, 5, .inl v_heaps)), (a_hour, .inl (cI, 40, .inl v_hour)), (a_letter, .inl (cI, 40, .inl v_letter)), (a_put, .inl (cI, 5, .inl v_put)), (a_rank, .inl (cI, 40, .inl v_rank)), (a_rest, .inl (cI, 5, .inl v_rest)), (a_speed, .inl (cI, 5, .inl v_speed)), (a_value, .inl (cI, 40, .inl v_value)), (a_where, .inl (cI, 40, .inl v_where)), (a_yet, .inl (cI, 5, .inl v_yet))]
theorem hd_X11_left : yX11_left.cls = RX11 ∧ yX11_left.cls ≠ "java/lang/invoke/MethodHandle" ∧ yX11_left.cls ≠ "java/lang/invoke/VarHandle" ∧ (parseMethodDescriptor yX11_left.desc).map (fun d => d.parameters.length) = some 3 := by decide +kernel
abbrev rm_X11_left : Room := { frames := 4, cells := 0, slots := 0, locals := 103 }
theorem in_X11_left_X11 : ∀ w ∈ wsX110, w ∈ wsX11_left := fun w h => List.mem_cons_of_mem _ (List.mem_append_right _ h)
set_option maxHeartbeats 4000000 in
set_option maxRecDepth 100000 in
theorem c_X11_left (l : Launch) (D : va_G) (cB cI cJ : ClassId) (N : Nat) (a_this : Nat) (a_cards : Nat) (a_county : Nat) (a_holes : Nat) (a_text : Nat) (a_letter : Nat) (a_where : Nat) (a_rank : Nat) (a_value : Nat) (a_hour : Nat) (a_readLetter : Nat) (a_readWhere : Nat) (a_readRank : Nat) (a_readValue : Nat) (a_readHour : Nat) (a_listName : Nat) (a_listDay : Nat) (a_voterName : Nat) (a_voterDay : Nat) (a_voterCounty : Nat) (a_heaps : Nat) (a_speed : Nat) (a_four : Nat) (a_byRules : Nat) (a_hours : Nat) (a_rest : Nat) (a_yet : Nat) (a_put : Nat) (v_kept : Int32) (v_length : Int32) (v_items : Int32) (v_readItems : Int32) (v_at : Int32) (v_lists : Int32) (v_voters : Int32) (v_needed : Int32) (v_heaps : Nat → Int32) (v_hour : Nat → Int32) (v_letter : Nat → Int32) (v_put : Nat → Int32) (v_rank : Nat → Int32) (v_rest : Nat → Int32) (v_speed : Nat → Int32) (v_value : Nat → Int32) (v_where : Nat → Int32) (v_yet : Nat → Int32) (x1 : Int32) (x2 : Int32) (x3 : Int32) {r : Int32} {o_put : Nat → Int32} {o_rest : Nat → Int32} {o_yet : Nat → Int32} (hf : f_X11_left N v_items v_heaps v_hour v_letter v_rank v_speed v_value v_where v_put v_rest v_yet x1 x2 x3 = some (r, o_put, o_rest, o_yet)) : MTi l yX11_left wsX11_left rm_X11_left D (wk_T cB cI cJ) [.ref a_this, .int x1, .int x2, .int x3] (w_X11_left cB cI cJ a_this a_cards a_county a_holes a_text a_letter a_where a_rank a_value a_hour a_readLetter a_readWhere a_readRank a_readValue a_readHour a_listName a_listDay a_voterName a_voterDay a_voterCounty a_heaps a_speed a_four a_byRules a_hours a_rest a_yet a_put v_kept v_length v_items v_readItems v_at v_lists v_voters v_needed v_heaps v_hour v_letter v_put v_rank v_rest v_speed v_value v_where v_yet) (w_X11_left cB cI cJ a_this a_cards a_county a_holes a_text a_letter a_where a_rank a_value a_hour a_readLetter a_readWhere a_readRank a_readValue a_readHour a_listName a_listDay a_voterName a_voterDay a_voterCounty a_heaps a_speed a_four a_byRules a_hours a_rest a_yet a_put v_kept v_length v_items v_readItems v_at v_lists v_voters v_needed v_heaps v_hour v_letter o_put v_rank o_rest v_speed v_value v_where o_yet) r := by
  refine MTi.of (cc := cX11_left) (nL := 6) (rt := .int) (own := RX11) pn_X11 rfl rfl (Nat.le_of_ble_eq_true rfl) rfl ?_
  intro p e s m args below meth c A ls Q C hP hD hS hl hret
  obtain ⟨hx, hb, hml, hts, hown, hK, hN, hA, hlk⟩ := id C
  have hl : lv_has ls 6 [(0, .ref a_this), (1, .int x1), (2, .int x2), (3, .int x3)] := hl
  have L38 := wk_loopI (F := (fun k38 : (Nat → Int32) → (Nat → Int32) → (Nat → Int32) → Int32 → Int32 → Option (Int32 × (Nat → Int32) × (Nat → Int32) × (Nat → Int32)) => B_X11_left_38 N v_items v_heaps v_hour v_letter v_rank v_speed v_value v_where k38)) (bot := fun _ _ _ _ _ => none) (fun k38 : (Nat → Int32) → (Nat → Int32) → (Nat → Int32) → Int32 → Int32 → Option (Int32 × (Nat → Int32) × (Nat → Int32) × (Nat → Int32)) => ∀ (v_put : Nat → Int32) (v_rest : Nat → Int32) (v_yet : Nat → Int32) (x4 : Int32) (x5 : Int32), k38 v_put v_rest v_yet x4 x5 = some (r, o_put, o_rest, o_yet) → ∀ (H : Heap) (locs : List Loc) (ls : Array Slot), va_P D vwCl (w_X11_left cB cI cJ a_this a_cards a_county a_holes a_text a_letter a_where a_rank a_value a_hour a_readLetter a_readWhere a_readRank a_readValue a_readHour a_listName a_listDay a_voterName a_voterDay a_voterCounty a_heaps a_speed a_four a_byRules a_hours a_rest a_yet a_put v_kept v_length v_items v_readItems v_at v_lists v_voters v_needed v_heaps v_hour v_letter v_put v_rank v_rest v_speed v_value v_where v_yet) H → va_D A (w_X11_left cB cI cJ a_this a_cards a_county a_holes a_text a_letter a_where a_rank a_value a_hour a_readLetter a_readWhere a_readRank a_readValue a_readHour a_listName a_listDay a_voterName a_voterDay a_voterCounty a_heaps a_speed a_four a_byRules a_hours a_rest a_yet a_put v_kept v_length v_items v_readItems v_at v_lists v_voters v_needed v_heaps v_hour v_letter v_put v_rank v_rest v_speed v_value v_where v_yet) → va_S A s.heap H locs → lv_has ls 6 [(0, .ref a_this), (4, .int x4), (5, .int x5)] → W p l e rm_X11_left s m args below meth c H locs 0 0 Q (F0 m 38 ls [])) (by intro v_put v_rest v_yet x4 x5 hf; exact wk_no hf) (by
    intro k38 ih38
    intro v_put v_rest v_yet x4 x5 hf H locs ls hP hD hS hl
    have hf : B_X11_left_38 N v_items v_heaps v_hour v_letter v_rank v_speed v_value v_where k38 v_put v_rest v_yet x4 x5 = some (r, o_put, o_rest, o_yet) := hf
    unfold B_X11_left_38 at hf
    refine lv_iload hx hb dX11_left_38 (lv_at hl 2 rfl) ?_
    refine lv_iconst (v := (5 : Int32)) hx hb dX11_left_40 (by decide) ?_
    refine lv_icmp_ge (tgt := 62) hx hb dX11_left_41 (by decide) (fun c1 => ?_) (fun c1 => ?_)
    · have hf := wk_itT hf c1
      refine lv_iload hx hb dX11_left_62 (lv_at hl 1 rfl) ?_
      exact hret _ _ _ _ _ _ dX11_left_64 (wk_rt hf (fun z => z.1)) (wk_rt hf (fun z => w_X11_left cB cI cJ a_this a_cards a_county a_holes a_text a_letter a_where a_rank a_value a_hour a_readLetter a_readWhere a_readRank a_readValue a_readHour a_listName a_listDay a_voterName a_voterDay a_voterCounty a_heaps a_speed a_four a_byRules a_hours a_rest a_yet a_put v_kept v_length v_items v_readItems v_at v_lists v_voters v_needed v_heaps v_hour v_letter (z.2.1) v_rank (z.2.2.1) v_speed v_value v_where (z.2.2.2))) hP hD hS
    · have hf := wk_itF hf c1
      refine lv_iload hx hb dX11_left_44 (lv_at hl 1 rfl) ?_
      refine lv_aload_n hx hb dX11_left_46 rfl (lv_at hl 0 rfl) ?_
      refine va_get (D := D) (ci := 11) (v := .ref a_rest) (C := RX11) (T := TX11) (N := 35) hx hb hts in_X11_left_X11 hown hK hP 0 rfl rfl 32 (by decide) (hts (.fieldLink RX11 88 "HangingCardsModel" "rest" "[I") (List.mem_of_getElem? (i := 2) rfl)) (fun _ h9 => h9) rfl dX11_left_47 ?_
      refine lv_iload hx hb dX11_left_50 (lv_at hl 2 rfl) ?_
      obtain ⟨hi2, hf⟩ := wk_ckE hf
      refine va_iald hx hb hK hP 6 0 rfl rfl hi2 dX11_left_52 ?_
      refine lv_iadd hx hb dX11_left_53 ?_
      refine lv_topi (fun y3 ey3 => ?_)
      have hf := wk_nmE hf ey3
      refine lv_istore (lv' := [(4, .int y3), (0, .ref a_this), (5, .int x5)]) hx hb dX11_left_54 hl (by decide) rfl (fun ls hl => ?_)
      obtain ⟨y4, ey4⟩ : ∃ y : Int32, y = x5 + (1 : Int32) := ⟨_, rfl⟩
      have hf := wk_nmE hf ey4
      refine lv_iinc (v := y4) (lv' := [(5, .int y4), (4, .int y3), (0, .ref a_this)]) hx hb dX11_left_56 hl (k := 2) rfl (by rw [ey4]; rfl) (by decide) rfl (fun ls hl => ?_)
      refine lv_goto (tgt := 38) hx hb dX11_left_59 (by decide) ?_
      exact ih38 _ _ _ _ _ hf _ _ _ hP hD hS (lv_sub hl [2, 1, 0] rfl))
  unfold f_X11_left at hf
  refine lv_iload_n hx hb dX11_left_0 rfl (lv_at hl 1 rfl) ?_
  refine lv_iload_n hx hb dX11_left_1 rfl (lv_at hl 2 rfl) ?_
  obtain ⟨r5, hc5, hf⟩ := wk_b1E hf
  refine wk_callSi2 C hP hD hS (c_X11_isSpan l D cB cI cJ N x1 x2 hc5) (va_cwS 2 hts gX11_left_X11_isSpan rfl rfl rfl hd_X11_isSpan.2 ⟨Nat.le_of_ble_eq_true rfl, Nat.le_of_ble_eq_true rfl⟩) hl.1 ⟨Nat.zero_le _, Nat.zero_le _⟩ [] [0, 1, 2, 3, 4, 5, 6, 7, 8, 9, 10] 11 (by decide +kernel) rfl (Wn := w_X11_left cB cI cJ a_this a_cards a_county a_holes a_text a_letter a_where a_rank a_value a_hour a_readLetter a_readWhere a_readRank a_readValue a_readHour a_listName a_listDay a_voterName a_voterDay a_voterCounty a_heaps a_speed a_four a_byRules a_hours a_rest a_yet a_put v_kept v_length v_items v_readItems v_at v_lists v_voters v_needed v_heaps v_hour v_letter v_put v_rank v_rest v_speed v_value v_where v_yet) rfl rfl rfl rfl rfl rfl rfl rfl (Nat.le_of_ble_eq_true rfl) dX11_left_2 (fun H locs hP hD hS => ?_)
  refine lv_if_eq (tgt := 20) hx hb dX11_left_5 (by decide) (fun c6 => ?_) (fun c6 => ?_)
  · have hf := wk_itT hf c6
    refine lv_iconst (v := (-1 : Int32)) hx hb dX11_left_20 (by decide) ?_
    exact hret _ _ _ _ _ _ dX11_left_21 (wk_rt hf (fun z => z.1)) (wk_rt hf (fun z => w_X11_left cB cI cJ a_this a_cards a_county a_holes a_text a_letter a_where a_rank a_value a_hour a_readLetter a_readWhere a_readRank a_readValue a_readHour a_listName a_listDay a_voterName a_voterDay a_voterCounty a_heaps a_speed a_four a_byRules a_hours a_rest a_yet a_put v_kept v_length v_items v_readItems v_at v_lists v_voters v_needed v_heaps v_hour v_letter (z.2.1) v_rank (z.2.2.1) v_speed v_value v_where (z.2.2.2))) hP hD hS
  · have hf := wk_itF hf c6
    refine lv_iload_n hx hb dX11_left_8 rfl (lv_at hl 3 rfl) ?_
    refine lv_i2l (v := (x3.toInt64)) hx hb dX11_left_9 rfl ?_
    refine lv_lconst (v := (1 : Int64)) hx hb dX11_left_10 (by decide) ?_
    refine lv_ldc2 (v := (20 : Int64)) hx hb hown (hts (.constantLong RX11 278 (20)) (List.mem_of_getElem? (i := 1) rfl)) dX11_left_11 ?_
    obtain ⟨r7, hc7, hf⟩ := wk_b1E hf
    refine wk_callSi2 C hP hD hS (c_X11_in l D cB cI cJ N (x3.toInt64) (1 : Int64) (20 : Int64) hc7) (va_cwS 3 hts gX11_left_X11_in rfl rfl rfl hd_X11_in.2 ⟨Nat.le_of_ble_eq_true rfl, Nat.le_of_ble_eq_true rfl⟩) hl.1 ⟨Nat.zero_le _, Nat.zero_le _⟩ [] [0, 1, 2, 3, 4, 5, 6, 7, 8, 9, 10] 11 (by decide +kernel) rfl (Wn := w_X11_left cB cI cJ a_this a_cards a_county a_holes a_text a_letter a_where a_rank a_value a_hour a_readLetter a_readWhere a_readRank a_readValue a_readHour a_listName a_listDay a_voterName a_voterDay a_voterCounty a_heaps a_speed a_four a_byRules a_hours a_rest a_yet a_put v_kept v_length v_items v_readItems v_at v_lists v_voters v_needed v_heaps v_hour v_letter v_put v_rank v_rest v_speed v_value v_where v_yet) rfl rfl rfl rfl rfl rfl rfl rfl (Nat.le_of_ble_eq_true rfl) dX11_left_14 (fun H locs hP hD hS => ?_)
    refine lv_if_ne (tgt := 22) hx hb dX11_left_17 (by decide) (fun c8 => ?_) (fun c8 => ?_)
    · have hf := wk_itF hf c8
      refine lv_aload_n hx hb dX11_left_22 rfl (lv_at hl 0 rfl) ?_
      refine lv_iload_n hx hb dX11_left_23 rfl (lv_at hl 1 rfl) ?_
      refine lv_iload_n hx hb dX11_left_24 rfl (lv_at hl 2 rfl) ?_
      refine lv_iload_n hx hb dX11_left_25 rfl (lv_at hl 3 rfl) ?_
      refine lv_iload_n hx hb dX11_left_26 rfl (lv_at hl 2 rfl) ?_
      refine lv_iconst (v := (1 : Int32)) hx hb dX11_left_27 (by decide) ?_
      refine lv_isub hx hb dX11_left_28 ?_
      obtain ⟨o9_0, o9_1, o9_2, hc9, hf⟩ := wk_b3E hf
      refine wk_callVv2 C hP hD hS (c_X11_tables l D cB cI cJ N a_this a_cards a_county a_holes a_text a_letter a_where a_rank a_value a_hour a_readLetter a_readWhere a_readRank a_readValue a_readHour a_listName a_listDay a_voterName a_voterDay a_voterCounty a_heaps a_speed a_four a_byRules a_hours a_rest a_yet a_put v_kept v_length v_items v_readItems v_at v_lists v_voters v_needed v_heaps v_hour v_letter v_put v_rank v_rest v_speed v_value v_where v_yet x1 x2 x3 (x2 - (1 : Int32)) hc9) (cwV 4 hts gX11_left_X11_tables rfl rfl rfl hd_X11_tables ⟨Nat.le_of_ble_eq_true rfl, Nat.le_of_ble_eq_true rfl⟩) hl.1 ⟨Nat.zero_le _, Nat.zero_le _⟩ [0, 1, 2, 3, 4, 5, 6, 7, 8, 9, 10] [] 11 (by decide +kernel) rfl (Wn := w_X11_left cB cI cJ a_this a_cards a_county a_holes a_text a_letter a_where a_rank a_value a_hour a_readLetter a_readWhere a_readRank a_readValue a_readHour a_listName a_listDay a_voterName a_voterDay a_voterCounty a_heaps a_speed a_four a_byRules a_hours a_rest a_yet a_put v_kept v_length v_items v_readItems v_at v_lists v_voters v_needed v_heaps v_hour v_letter o9_0 v_rank o9_1 v_speed v_value v_where o9_2) rfl rfl rfl rfl rfl rfl (ci := 11) rfl rfl (q0 := 0) rfl rfl rfl (Nat.le_of_ble_eq_true rfl) dX11_left_29 (fun H locs hP hD hS => ?_)
      refine lv_iconst (v := (0 : Int32)) hx hb dX11_left_32 (by decide) ?_
      refine lv_istore (lv' := [(4, .int (0 : Int32)), (0, .ref a_this), (1, .int x1), (2, .int x2), (3, .int x3)]) hx hb dX11_left_33 hl (by decide) rfl (fun ls hl => ?_)
      refine lv_iconst (v := (0 : Int32)) hx hb dX11_left_35 (by decide) ?_
      refine lv_istore (lv' := [(5, .int (0 : Int32)), (4, .int (0 : Int32)), (0, .ref a_this), (1, .int x1), (2, .int x2), (3, .int x3)]) hx hb dX11_left_36 hl (by decide) rfl (fun ls hl => ?_)
      exact L38 N _ _ _ _ _ hf _ _ _ hP hD hS (lv_sub hl [2, 1, 0] rfl)
    · have hf := wk_itT hf c8
      refine lv_iconst (v := (-1 : Int32)) hx hb dX11_left_20 (by decide) ?_
      exact hret _ _ _ _ _ _ dX11_left_21 (wk_rt hf (fun z => z.1)) (wk_rt hf (fun z => w_X11_left cB cI cJ a_this a_cards a_county a_holes a_text a_letter a_where a_rank a_value a_hour a_readLetter a_readWhere a_readRank a_readValue a_readHour a_listName a_listDay a_voterName a_voterDay a_voterCounty a_heaps a_speed a_four a_byRules a_hours a_rest a_yet a_put v_kept v_length v_items v_readItems v_at v_lists v_voters v_needed v_heaps v_hour v_letter (z.2.1) v_rank (z.2.2.1) v_speed v_value v_where (z.2.2.2))) hP hD hS
abbrev w_X11_copies (cB cI cJ : ClassId) (a_this : Nat) (a_cards : Nat) (a_county : Nat) (a_holes : Nat) (a_text : Nat) (a_letter : Nat) (a_where : Nat) (a_rank : Nat) (a_value : Nat) (a_hour : Nat) (a_readLetter : Nat) (a_readWhere : Nat) (a_readRank : Nat) (a_readValue : Nat) (a_readHour : Nat) (a_listName : Nat) (a_listDay : Nat) (a_voterName : Nat) (a_voterDay : Nat) (a_voterCounty : Nat) (a_heaps : Nat) (a_speed : Nat) (a_four : Nat) (a_byRules : Nat) (a_hours : Nat) (a_rest : Nat) (a_yet : Nat) (a_put : Nat) (v_kept : Int32) (v_length : Int32) (v_items : Int32) (v_readItems : Int32) (v_at : Int32) (v_lists : Int32) (v_voters : Int32) (v_needed : Int32) (v_cards : Nat → Int32) (v_county : Nat → Int32) (v_holes : Nat → Int32) : va_W := [(a_this, .inr (11, [.ref a_cards, .ref a_county, .ref a_holes, .int v_kept, .int v_length, .ref a_text, .int v_items, .ref a_letter, .ref a_where, .ref a_rank, .ref a_value, .ref a_hour, .int v_readItems, .ref a_readLetter, .ref a_readWhere, .ref a_readRank, .ref a_readValue, .ref a_readHour, .int v_at, .int v_lists, .ref a_listName, .ref a_listDay, .int v_voters, .ref a_voterName, .ref a_voterDay, .ref a_voterCounty, .int v_needed, .ref a_heaps, .ref a_speed, .ref a_four, .ref a_byRules, .ref a_hours, .ref a_rest, .ref a_yet, .ref a_put])), (a_cards, .inl (cI, 3, .inl v_cards)), (a_county, .inl (cI, 120, .inl v_county)), (a_holes, .inl (cI, 1440, .inl v_holes))]
theorem hd_X11_copies : yX11_copies.cls = RX11 ∧ yX11_copies.cls ≠ "java/lang/invoke/MethodHandle" ∧ yX11_copies.cls ≠ "java/lang/invoke/VarHandle" ∧ (parseMethodDescriptor yX11_copies.desc).map (fun d => d.parameters.length) = some 2 := by decide +kernel
abbrev rm_X11_copies : Room := { frames := 0, cells := 0, slots := 0, locals := 0 }
theorem in_X11_copies_X11 : ∀ w ∈ wsX110, w ∈ wsX11_copies := fun w h => List.mem_cons_of_mem _ (List.mem_append_right _ h)
set_option maxHeartbeats 4000000 in
set_option maxRecDepth 100000 in
theorem c_X11_copies (l : Launch) (D : va_G) (cB cI cJ : ClassId) (N : Nat) (a_this : Nat) (a_cards : Nat) (a_county : Nat) (a_holes : Nat) (a_text : Nat) (a_letter : Nat) (a_where : Nat) (a_rank : Nat) (a_value : Nat) (a_hour : Nat) (a_readLetter : Nat) (a_readWhere : Nat) (a_readRank : Nat) (a_readValue : Nat) (a_readHour : Nat) (a_listName : Nat) (a_listDay : Nat) (a_voterName : Nat) (a_voterDay : Nat) (a_voterCounty : Nat) (a_heaps : Nat) (a_speed : Nat) (a_four : Nat) (a_byRules : Nat) (a_hours : Nat) (a_rest : Nat) (a_yet : Nat) (a_put : Nat) (v_kept : Int32) (v_length : Int32) (v_items : Int32) (v_readItems : Int32) (v_at : Int32) (v_lists : Int32) (v_voters : Int32) (v_needed : Int32) (v_cards : Nat → Int32) (v_county : Nat → Int32) (v_holes : Nat → Int32) (x1 : Int32) (x2 : Int32) {o_cards : Nat → Int32} {o_county : Nat → Int32} {o_holes : Nat → Int32} (hf : f_X11_copies N v_cards v_county v_holes x1 x2 = some (o_cards, o_county, o_holes)) : MTv l yX11_copies wsX11_copies rm_X11_copies D (wk_T cB cI cJ) [.ref a_this, .int x1, .int x2] (w_X11_copies cB cI cJ a_this a_cards a_county a_holes a_text a_letter a_where a_rank a_value a_hour a_readLetter a_readWhere a_readRank a_readValue a_readHour a_listName a_listDay a_voterName a_voterDay a_voterCounty a_heaps a_speed a_four a_byRules a_hours a_rest a_yet a_put v_kept v_length v_items v_readItems v_at v_lists v_voters v_needed v_cards v_county v_holes) (w_X11_copies cB cI cJ a_this a_cards a_county a_holes a_text a_letter a_where a_rank a_value a_hour a_readLetter a_readWhere a_readRank a_readValue a_readHour a_listName a_listDay a_voterName a_voterDay a_voterCounty a_heaps a_speed a_four a_byRules a_hours a_rest a_yet a_put v_kept v_length v_items v_readItems v_at v_lists v_voters v_needed o_cards o_county o_holes) := by
  refine MTv.of (cc := cX11_copies) (nL := 4) (own := RX11) pn_X11 rfl rfl (Nat.le_of_ble_eq_true rfl) ?_
  intro p e s m args below meth c A ls Q C hP hD hS hl hret
  obtain ⟨hx, hb, hml, hts, hown, hK, hN, hA, hlk⟩ := id C
  have hl : lv_has ls 4 [(0, .ref a_this), (1, .int x1), (2, .int x2)] := hl
  have L50 := wk_loopI (F := (fun k50 : (Nat → Int32) → (Nat → Int32) → (Nat → Int32) → Int32 → Int32 → Int32 → Option ((Nat → Int32) × (Nat → Int32) × (Nat → Int32)) => B_X11_copies_50 N k50)) (bot := fun _ _ _ _ _ _ => none) (fun k50 : (Nat → Int32) → (Nat → Int32) → (Nat → Int32) → Int32 → Int32 → Int32 → Option ((Nat → Int32) × (Nat → Int32) × (Nat → Int32)) => ∀ (v_cards : Nat → Int32) (v_county : Nat → Int32) (v_holes : Nat → Int32) (x1 : Int32) (x2 : Int32) (x3 : Int32), k50 v_cards v_county v_holes x1 x2 x3 = some (o_cards, o_county, o_holes) → ∀ (H : Heap) (locs : List Loc) (ls : Array Slot), va_P D vwCl (w_X11_copies cB cI cJ a_this a_cards a_county a_holes a_text a_letter a_where a_rank a_value a_hour a_readLetter a_readWhere a_readRank a_readValue a_readHour a_listName a_listDay a_voterName a_voterDay a_voterCounty a_heaps a_speed a_four a_byRules a_hours a_rest a_yet a_put v_kept v_length v_items v_readItems v_at v_lists v_voters v_needed v_cards v_county v_holes) H → va_D A (w_X11_copies cB cI cJ a_this a_cards a_county a_holes a_text a_letter a_where a_rank a_value a_hour a_readLetter a_readWhere a_readRank a_readValue a_readHour a_listName a_listDay a_voterName a_voterDay a_voterCounty a_heaps a_speed a_four a_byRules a_hours a_rest a_yet a_put v_kept v_length v_items v_readItems v_at v_lists v_voters v_needed v_cards v_county v_holes) → va_S A s.heap H locs → lv_has ls 4 [(0, .ref a_this), (1, .int x1), (2, .int x2), (3, .int x3)] → W p l e rm_X11_copies s m args below meth c H locs 0 0 Q (F0 m 50 ls [])) (by intro v_cards v_county v_holes x1 x2 x3 hf; exact wk_no hf) (by
    intro k50 ih50
    intro v_cards v_county v_holes x1 x2 x3 hf H locs ls hP hD hS hl
    have hf : B_X11_copies_50 N k50 v_cards v_county v_holes x1 x2 x3 = some (o_cards, o_county, o_holes) := hf
    unfold B_X11_copies_50 at hf
    refine lv_iload_n hx hb dX11_copies_50 rfl (lv_at hl 3 rfl) ?_
    refine lv_sipush (v := (480 : Int32)) hx hb dX11_copies_51 (by decide) ?_
    refine lv_icmp_ge (tgt := 87) hx hb dX11_copies_54 (by decide) (fun c1 => ?_) (fun c1 => ?_)
    · have hf := wk_itT hf c1
      exact hret _ _ _ _ _ dX11_copies_87 (wk_rt hf (fun z => w_X11_copies cB cI cJ a_this a_cards a_county a_holes a_text a_letter a_where a_rank a_value a_hour a_readLetter a_readWhere a_readRank a_readValue a_readHour a_listName a_listDay a_voterName a_voterDay a_voterCounty a_heaps a_speed a_four a_byRules a_hours a_rest a_yet a_put v_kept v_length v_items v_readItems v_at v_lists v_voters v_needed (z.1) (z.2.1) (z.2.2))) hP hD hS
    · have hf := wk_itF hf c1
      refine lv_aload_n hx hb dX11_copies_57 rfl (lv_at hl 0 rfl) ?_
      refine va_get (D := D) (ci := 11) (v := .ref a_holes) (C := RX11) (T := TX11) (N := 35) hx hb hts in_X11_copies_X11 hown hK hP 0 rfl rfl 2 (by decide) (hts (.fieldLink RX11 16 "HangingCardsModel" "holes" "[I") (List.mem_of_getElem? (i := 3) rfl)) (fun _ h9 => h9) rfl dX11_copies_58 ?_
      refine lv_sipush (v := (480 : Int32)) hx hb dX11_copies_61 (by decide) ?_
      refine lv_iload_n hx hb dX11_copies_64 rfl (lv_at hl 2 rfl) ?_
      refine lv_imul hx hb dX11_copies_65 ?_
      refine lv_iload_n hx hb dX11_copies_66 rfl (lv_at hl 3 rfl) ?_
      refine lv_iadd hx hb dX11_copies_67 ?_
      refine lv_aload_n hx hb dX11_copies_68 rfl (lv_at hl 0 rfl) ?_
      refine va_get (D := D) (ci := 11) (v := .ref a_holes) (C := RX11) (T := TX11) (N := 35) hx hb hts in_X11_copies_X11 hown hK hP 0 rfl rfl 2 (by decide) (hts (.fieldLink RX11 16 "HangingCardsModel" "holes" "[I") (List.mem_of_getElem? (i := 3) rfl)) (fun _ h9 => h9) rfl dX11_copies_69 ?_
      refine lv_sipush (v := (480 : Int32)) hx hb dX11_copies_72 (by decide) ?_
      refine lv_iload_n hx hb dX11_copies_75 rfl (lv_at hl 1 rfl) ?_
      refine lv_imul hx hb dX11_copies_76 ?_
      refine lv_iload_n hx hb dX11_copies_77 rfl (lv_at hl 3 rfl) ?_
      refine lv_iadd hx hb dX11_copies_78 ?_
      obtain ⟨hi2, hf⟩ := wk_ckE hf
      refine va_iald hx hb hK hP 3 0 rfl rfl hi2 dX11_copies_79 ?_
      obtain ⟨hi3, hf⟩ := wk_ckE hf
      refine va_iast hx hb hK hP hD hS 3 0 rfl rfl hi3 dX11_copies_80 (fun H locs hP hD hS => ?_)
      have hP : va_P D vwCl (w_X11_copies cB cI cJ a_this a_cards a_county a_holes a_text a_letter a_where a_rank a_value a_hour a_readLetter a_readWhere a_readRank a_readValue a_readHour a_listName a_listDay a_voterName a_voterDay a_voterCounty a_heaps a_speed a_four a_byRules a_hours a_rest a_yet a_put v_kept v_length v_items v_readItems v_at v_lists v_voters v_needed v_cards v_county (upd v_holes (((480 : Int32) * x2) + x3).toNatClampNeg (v_holes (((480 : Int32) * x1) + x3).toNatClampNeg))) H := hP
      have hD : va_D A (w_X11_copies cB cI cJ a_this a_cards a_county a_holes a_text a_letter a_where a_rank a_value a_hour a_readLetter a_readWhere a_readRank a_readValue a_readHour a_listName a_listDay a_voterName a_voterDay a_voterCounty a_heaps a_speed a_four a_byRules a_hours a_rest a_yet a_put v_kept v_length v_items v_readItems v_at v_lists v_voters v_needed v_cards v_county (upd v_holes (((480 : Int32) * x2) + x3).toNatClampNeg (v_holes (((480 : Int32) * x1) + x3).toNatClampNeg))) := hD
      obtain ⟨y4, ey4⟩ : ∃ y : Int32, y = x3 + (1 : Int32) := ⟨_, rfl⟩
      have hf := wk_nmE hf ey4
      refine lv_iinc (v := y4) (lv' := [(3, .int y4), (0, .ref a_this), (1, .int x1), (2, .int x2)]) hx hb dX11_copies_81 hl (k := 3) rfl (by rw [ey4]; rfl) (by decide) rfl (fun ls hl => ?_)
      refine lv_goto (tgt := 50) hx hb dX11_copies_84 (by decide) ?_
      exact ih50 _ _ _ _ _ _ hf _ _ _ hP hD hS (lv_sub hl [1, 2, 3, 0] rfl))
  have L14 := wk_loopI (F := (fun k14 : (Nat → Int32) → (Nat → Int32) → (Nat → Int32) → Int32 → Int32 → Int32 → Option ((Nat → Int32) × (Nat → Int32) × (Nat → Int32)) => B_X11_copies_14 N k14)) (bot := fun _ _ _ _ _ _ => none) (fun k14 : (Nat → Int32) → (Nat → Int32) → (Nat → Int32) → Int32 → Int32 → Int32 → Option ((Nat → Int32) × (Nat → Int32) × (Nat → Int32)) => ∀ (v_cards : Nat → Int32) (v_county : Nat → Int32) (v_holes : Nat → Int32) (x1 : Int32) (x2 : Int32) (x3 : Int32), k14 v_cards v_county v_holes x1 x2 x3 = some (o_cards, o_county, o_holes) → ∀ (H : Heap) (locs : List Loc) (ls : Array Slot), va_P D vwCl (w_X11_copies cB cI cJ a_this a_cards a_county a_holes a_text a_letter a_where a_rank a_value a_hour a_readLetter a_readWhere a_readRank a_readValue a_readHour a_listName a_listDay a_voterName a_voterDay a_voterCounty a_heaps a_speed a_four a_byRules a_hours a_rest a_yet a_put v_kept v_length v_items v_readItems v_at v_lists v_voters v_needed v_cards v_county v_holes) H → va_D A (w_X11_copies cB cI cJ a_this a_cards a_county a_holes a_text a_letter a_where a_rank a_value a_hour a_readLetter a_readWhere a_readRank a_readValue a_readHour a_listName a_listDay a_voterName a_voterDay a_voterCounty a_heaps a_speed a_four a_byRules a_hours a_rest a_yet a_put v_kept v_length v_items v_readItems v_at v_lists v_voters v_needed v_cards v_county v_holes) → va_S A s.heap H locs → lv_has ls 4 [(0, .ref a_this), (1, .int x1), (2, .int x2), (3, .int x3)] → W p l e rm_X11_copies s m args below meth c H locs 0 0 Q (F0 m 14 ls [])) (by intro v_cards v_county v_holes x1 x2 x3 hf; exact wk_no hf) (by
    intro k14 ih14
    intro v_cards v_county v_holes x1 x2 x3 hf H locs ls hP hD hS hl
    have hf : B_X11_copies_14 N k14 v_cards v_county v_holes x1 x2 x3 = some (o_cards, o_county, o_holes) := hf
    unfold B_X11_copies_14 at hf
    refine lv_iload_n hx hb dX11_copies_14 rfl (lv_at hl 3 rfl) ?_
    refine lv_bipush (v := (40 : Int32)) hx hb dX11_copies_15 (by decide) ?_
    refine lv_icmp_ge (tgt := 48) hx hb dX11_copies_17 (by decide) (fun c5 => ?_) (fun c5 => ?_)
    · have hf := wk_itT hf c5
      refine lv_iconst (v := (0 : Int32)) hx hb dX11_copies_48 (by decide) ?_
      refine lv_istore_n (lv' := [(3, .int (0 : Int32)), (0, .ref a_this), (1, .int x1), (2, .int x2)]) hx hb dX11_copies_49 rfl hl (by decide) rfl (fun ls hl => ?_)
      exact L50 N _ _ _ _ _ _ hf _ _ _ hP hD hS (lv_sub hl [1, 2, 3, 0] rfl)
    · have hf := wk_itF hf c5
      refine lv_aload_n hx hb dX11_copies_20 rfl (lv_at hl 0 rfl) ?_
      refine va_get (D := D) (ci := 11) (v := .ref a_county) (C := RX11) (T := TX11) (N := 35) hx hb hts in_X11_copies_X11 hown hK hP 0 rfl rfl 1 (by decide) (hts (.fieldLink RX11 13 "HangingCardsModel" "county" "[I") (List.mem_of_getElem? (i := 2) rfl)) (fun _ h9 => h9) rfl dX11_copies_21 ?_
      refine lv_bipush (v := (40 : Int32)) hx hb dX11_copies_24 (by decide) ?_
      refine lv_iload_n hx hb dX11_copies_26 rfl (lv_at hl 2 rfl) ?_
      refine lv_imul hx hb dX11_copies_27 ?_
      refine lv_iload_n hx hb dX11_copies_28 rfl (lv_at hl 3 rfl) ?_
      refine lv_iadd hx hb dX11_copies_29 ?_
      refine lv_aload_n hx hb dX11_copies_30 rfl (lv_at hl 0 rfl) ?_
      refine va_get (D := D) (ci := 11) (v := .ref a_county) (C := RX11) (T := TX11) (N := 35) hx hb hts in_X11_copies_X11 hown hK hP 0 rfl rfl 1 (by decide) (hts (.fieldLink RX11 13 "HangingCardsModel" "county" "[I") (List.mem_of_getElem? (i := 2) rfl)) (fun _ h9 => h9) rfl dX11_copies_31 ?_
      refine lv_bipush (v := (40 : Int32)) hx hb dX11_copies_34 (by decide) ?_
      refine lv_iload_n hx hb dX11_copies_36 rfl (lv_at hl 1 rfl) ?_
      refine lv_imul hx hb dX11_copies_37 ?_
      refine lv_iload_n hx hb dX11_copies_38 rfl (lv_at hl 3 rfl) ?_
      refine lv_iadd hx hb dX11_copies_39 ?_
      obtain ⟨hi6, hf⟩ := wk_ckE hf
      refine va_iald hx hb hK hP 2 0 rfl rfl hi6 dX11_copies_40 ?_
      obtain ⟨hi7, hf⟩ := wk_ckE hf
      refine va_iast hx hb hK hP hD hS 2 0 rfl rfl hi7 dX11_copies_41 (fun H locs hP hD hS => ?_)
      have hP : va_P D vwCl (w_X11_copies cB cI cJ a_this a_cards a_county a_holes a_text a_letter a_where a_rank a_value a_hour a_readLetter a_readWhere a_readRank a_readValue a_readHour a_listName a_listDay a_voterName a_voterDay a_voterCounty a_heaps a_speed a_four a_byRules a_hours a_rest a_yet a_put v_kept v_length v_items v_readItems v_at v_lists v_voters v_needed v_cards (upd v_county (((40 : Int32) * x2) + x3).toNatClampNeg (v_county (((40 : Int32) * x1) + x3).toNatClampNeg)) v_holes) H := hP
      have hD : va_D A (w_X11_copies cB cI cJ a_this a_cards a_county a_holes a_text a_letter a_where a_rank a_value a_hour a_readLetter a_readWhere a_readRank a_readValue a_readHour a_listName a_listDay a_voterName a_voterDay a_voterCounty a_heaps a_speed a_four a_byRules a_hours a_rest a_yet a_put v_kept v_length v_items v_readItems v_at v_lists v_voters v_needed v_cards (upd v_county (((40 : Int32) * x2) + x3).toNatClampNeg (v_county (((40 : Int32) * x1) + x3).toNatClampNeg)) v_holes) := hD
      obtain ⟨y8, ey8⟩ : ∃ y : Int32, y = x3 + (1 : Int32) := ⟨_, rfl⟩
      have hf := wk_nmE hf ey8
      refine lv_iinc (v := y8) (lv' := [(3, .int y8), (0, .ref a_this), (1, .int x1), (2, .int x2)]) hx hb dX11_copies_42 hl (k := 3) rfl (by rw [ey8]; rfl) (by decide) rfl (fun ls hl => ?_)
      refine lv_goto (tgt := 14) hx hb dX11_copies_45 (by decide) ?_
      exact ih14 _ _ _ _ _ _ hf _ _ _ hP hD hS (lv_sub hl [1, 2, 3, 0] rfl))
  unfold f_X11_copies at hf
  refine lv_aload_n hx hb dX11_copies_0 rfl (lv_at hl 0 rfl) ?_
  refine va_get (D := D) (ci := 11) (v := .ref a_cards) (C := RX11) (T := TX11) (N := 35) hx hb hts in_X11_copies_X11 hown hK hP 0 rfl rfl 0 (by decide) (hts (.fieldLink RX11 7 "HangingCardsModel" "cards" "[I") (List.mem_of_getElem? (i := 1) rfl)) (fun _ h9 => h9) rfl dX11_copies_1 ?_
  refine lv_iload_n hx hb dX11_copies_4 rfl (lv_at hl 2 rfl) ?_
  refine lv_aload_n hx hb dX11_copies_5 rfl (lv_at hl 0 rfl) ?_
  refine va_get (D := D) (ci := 11) (v := .ref a_cards) (C := RX11) (T := TX11) (N := 35) hx hb hts in_X11_copies_X11 hown hK hP 0 rfl rfl 0 (by decide) (hts (.fieldLink RX11 7 "HangingCardsModel" "cards" "[I") (List.mem_of_getElem? (i := 1) rfl)) (fun _ h9 => h9) rfl dX11_copies_6 ?_
  refine lv_iload_n hx hb dX11_copies_9 rfl (lv_at hl 1 rfl) ?_
  obtain ⟨hi9, hf⟩ := wk_ckE hf
  refine va_iald hx hb hK hP 1 0 rfl rfl hi9 dX11_copies_10 ?_
  obtain ⟨hi10, hf⟩ := wk_ckE hf
  refine va_iast hx hb hK hP hD hS 1 0 rfl rfl hi10 dX11_copies_11 (fun H locs hP hD hS => ?_)
  have hP : va_P D vwCl (w_X11_copies cB cI cJ a_this a_cards a_county a_holes a_text a_letter a_where a_rank a_value a_hour a_readLetter a_readWhere a_readRank a_readValue a_readHour a_listName a_listDay a_voterName a_voterDay a_voterCounty a_heaps a_speed a_four a_byRules a_hours a_rest a_yet a_put v_kept v_length v_items v_readItems v_at v_lists v_voters v_needed (upd v_cards x2.toNatClampNeg (v_cards x1.toNatClampNeg)) v_county v_holes) H := hP
  have hD : va_D A (w_X11_copies cB cI cJ a_this a_cards a_county a_holes a_text a_letter a_where a_rank a_value a_hour a_readLetter a_readWhere a_readRank a_readValue a_readHour a_listName a_listDay a_voterName a_voterDay a_voterCounty a_heaps a_speed a_four a_byRules a_hours a_rest a_yet a_put v_kept v_length v_items v_readItems v_at v_lists v_voters v_needed (upd v_cards x2.toNatClampNeg (v_cards x1.toNatClampNeg)) v_county v_holes) := hD
  refine lv_iconst (v := (0 : Int32)) hx hb dX11_copies_12 (by decide) ?_
  refine lv_istore_n (lv' := [(3, .int (0 : Int32)), (0, .ref a_this), (1, .int x1), (2, .int x2)]) hx hb dX11_copies_13 rfl hl (by decide) rfl (fun ls hl => ?_)
  exact L14 N _ _ _ _ _ _ hf _ _ _ hP hD hS (lv_sub hl [1, 2, 3, 0] rfl)
abbrev w_X11_keep (cB cI cJ : ClassId) (a_this : Nat) (a_cards : Nat) (a_county : Nat) (a_holes : Nat) (a_text : Nat) (a_letter : Nat) (a_where : Nat) (a_rank : Nat) (a_value : Nat) (a_hour : Nat) (a_readLetter : Nat) (a_readWhere : Nat) (a_readRank : Nat) (a_readValue : Nat) (a_readHour : Nat) (a_listName : Nat) (a_listDay : Nat) (a_voterName : Nat) (a_voterDay : Nat) (a_voterCounty : Nat) (a_heaps : Nat) (a_speed : Nat) (a_four : Nat) (a_byRules : Nat) (a_hours : Nat) (a_rest : Nat) (a_yet : Nat) (a_put : Nat) (v_kept : Int32) (v_length : Int32) (v_items : Int32) (v_readItems : Int32) (v_at : Int32) (v_lists : Int32) (v_voters : Int32) (v_needed : Int32) (v_cards : Nat → Int32) (v_county : Nat → Int32) (v_holes : Nat → Int32) : va_W := [(a_this, .inr (11, [.ref a_cards, .ref a_county, .ref a_holes, .int v_kept, .int v_length, .ref a_text, .int v_items, .ref a_letter, .ref a_where, .ref a_rank, .ref a_value, .ref a_hour, .int v_readItems, .ref a_readLetter, .ref a_readWhere, .ref a_readRank, .ref a_readValue, .ref a_readHour, .int v_at, .int v_lists, .ref a_listName, .ref a_listDay, .int v_voters, .ref a_voterName, .ref a_voterDay, .ref a_voterCounty, .int v_needed, .ref a_heaps, .ref a_speed, .ref a_four, .ref a_byRules, .ref a_hours, .ref a_rest, .ref a_yet, .ref a_put])), (a_cards, .inl (cI, 3, .inl v_cards)), (a_county, .inl (cI, 120, .inl v_county)), (a_holes, .inl (cI, 1440, .inl v_holes))]
theorem hd_X11_keep : yX11_keep.cls = RX11 ∧ yX11_keep.cls ≠ "java/lang/invoke/MethodHandle" ∧ yX11_keep.cls ≠ "java/lang/invoke/VarHandle" ∧ (parseMethodDescriptor yX11_keep.desc).map (fun d => d.parameters.length) = some 0 := by decide +kernel
abbrev rm_X11_keep : Room := { frames := 1, cells := 0, slots := 0, locals := 23 }
theorem in_X11_keep_X11 : ∀ w ∈ wsX110, w ∈ wsX11_keep := fun w h => List.mem_cons_of_mem _ (List.mem_append_right _ h)
set_option maxHeartbeats 4000000 in
set_option maxRecDepth 100000 in
theorem c_X11_keep (l : Launch) (D : va_G) (cB cI cJ : ClassId) (N : Nat) (a_this : Nat) (a_cards : Nat) (a_county : Nat) (a_holes : Nat) (a_text : Nat) (a_letter : Nat) (a_where : Nat) (a_rank : Nat) (a_value : Nat) (a_hour : Nat) (a_readLetter : Nat) (a_readWhere : Nat) (a_readRank : Nat) (a_readValue : Nat) (a_readHour : Nat) (a_listName : Nat) (a_listDay : Nat) (a_voterName : Nat) (a_voterDay : Nat) (a_voterCounty : Nat) (a_heaps : Nat) (a_speed : Nat) (a_four : Nat) (a_byRules : Nat) (a_hours : Nat) (a_rest : Nat) (a_yet : Nat) (a_put : Nat) (v_kept : Int32) (v_length : Int32) (v_items : Int32) (v_readItems : Int32) (v_at : Int32) (v_lists : Int32) (v_voters : Int32) (v_needed : Int32) (v_cards : Nat → Int32) (v_county : Nat → Int32) (v_holes : Nat → Int32) {r : Int32} {o_kept : Int32} {o_cards : Nat → Int32} {o_county : Nat → Int32} {o_holes : Nat → Int32} (hf : f_X11_keep N v_kept v_cards v_county v_holes = some (r, o_kept, o_cards, o_county, o_holes)) : MTi l yX11_keep wsX11_keep rm_X11_keep D (wk_T cB cI cJ) [.ref a_this] (w_X11_keep cB cI cJ a_this a_cards a_county a_holes a_text a_letter a_where a_rank a_value a_hour a_readLetter a_readWhere a_readRank a_readValue a_readHour a_listName a_listDay a_voterName a_voterDay a_voterCounty a_heaps a_speed a_four a_byRules a_hours a_rest a_yet a_put v_kept v_length v_items v_readItems v_at v_lists v_voters v_needed v_cards v_county v_holes) (w_X11_keep cB cI cJ a_this a_cards a_county a_holes a_text a_letter a_where a_rank a_value a_hour a_readLetter a_readWhere a_readRank a_readValue a_readHour a_listName a_listDay a_voterName a_voterDay a_voterCounty a_heaps a_speed a_four a_byRules a_hours a_rest a_yet a_put o_kept v_length v_items v_readItems v_at v_lists v_voters v_needed o_cards o_county o_holes) r := by
  refine MTi.of (cc := cX11_keep) (nL := 1) (rt := .int) (own := RX11) pn_X11 rfl rfl (Nat.le_of_ble_eq_true rfl) rfl ?_
  intro p e s m args below meth c A ls Q C hP hD hS hl hret
  obtain ⟨hx, hb, hml, hts, hown, hK, hN, hA, hlk⟩ := id C
  have hl : lv_has ls 1 [(0, .ref a_this)] := hl
  unfold f_X11_keep at hf
  refine lv_aload_n hx hb dX11_keep_0 rfl (lv_at hl 0 rfl) ?_
  refine va_get (D := D) (ci := 11) (v := .int v_kept) (C := RX11) (T := TX11) (N := 35) hx hb hts in_X11_keep_X11 hown hK hP 0 rfl rfl 3 (by decide) (hts (.fieldLink RX11 291 "HangingCardsModel" "kept" "I") (List.mem_of_getElem? (i := 1) rfl)) (fun _ h9 => h9) rfl dX11_keep_1 ?_
  refine lv_iconst (v := (2 : Int32)) hx hb dX11_keep_4 (by decide) ?_
  refine lv_icmp_ne (tgt := 11) hx hb dX11_keep_5 (by decide) (fun c1 => ?_) (fun c1 => ?_)
  · have hf := wk_itF hf c1
    refine lv_aload_n hx hb dX11_keep_11 rfl (lv_at hl 0 rfl) ?_
    refine lv_iconst (v := (0 : Int32)) hx hb dX11_keep_12 (by decide) ?_
    refine lv_iconst (v := (1 : Int32)) hx hb dX11_keep_13 (by decide) ?_
    refine lv_aload_n hx hb dX11_keep_14 rfl (lv_at hl 0 rfl) ?_
    refine va_get (D := D) (ci := 11) (v := .int v_kept) (C := RX11) (T := TX11) (N := 35) hx hb hts in_X11_keep_X11 hown hK hP 0 rfl rfl 3 (by decide) (hts (.fieldLink RX11 291 "HangingCardsModel" "kept" "I") (List.mem_of_getElem? (i := 1) rfl)) (fun _ h9 => h9) rfl dX11_keep_15 ?_
    refine lv_iadd hx hb dX11_keep_18 ?_
    obtain ⟨o2_0, o2_1, o2_2, hc2, hf⟩ := wk_b3E hf
    refine wk_callVv2 C hP hD hS (c_X11_copies l D cB cI cJ N a_this a_cards a_county a_holes a_text a_letter a_where a_rank a_value a_hour a_readLetter a_readWhere a_readRank a_readValue a_readHour a_listName a_listDay a_voterName a_voterDay a_voterCounty a_heaps a_speed a_four a_byRules a_hours a_rest a_yet a_put v_kept v_length v_items v_readItems v_at v_lists v_voters v_needed v_cards v_county v_holes (0 : Int32) ((1 : Int32) + v_kept) hc2) (cwV 2 hts gX11_keep_X11_copies rfl rfl rfl hd_X11_copies ⟨Nat.le_of_ble_eq_true rfl, Nat.le_of_ble_eq_true rfl⟩) hl.1 ⟨Nat.zero_le _, Nat.zero_le _⟩ [0, 1, 2, 3] [] 4 (by decide +kernel) rfl (Wn := w_X11_keep cB cI cJ a_this a_cards a_county a_holes a_text a_letter a_where a_rank a_value a_hour a_readLetter a_readWhere a_readRank a_readValue a_readHour a_listName a_listDay a_voterName a_voterDay a_voterCounty a_heaps a_speed a_four a_byRules a_hours a_rest a_yet a_put v_kept v_length v_items v_readItems v_at v_lists v_voters v_needed o2_0 o2_1 o2_2) rfl rfl rfl rfl rfl rfl (ci := 11) rfl rfl (q0 := 0) rfl rfl rfl (Nat.le_of_ble_eq_true rfl) dX11_keep_19 (fun H locs hP hD hS => ?_)
    refine lv_aload_n hx hb dX11_keep_22 rfl (lv_at hl 0 rfl) ?_
    refine lv_dup hx hb dX11_keep_23 rfl ?_
    refine va_get (D := D) (ci := 11) (v := .int v_kept) (C := RX11) (T := TX11) (N := 35) hx hb hts in_X11_keep_X11 hown hK hP 0 rfl rfl 3 (by decide) (hts (.fieldLink RX11 291 "HangingCardsModel" "kept" "I") (List.mem_of_getElem? (i := 1) rfl)) (fun _ h9 => h9) rfl dX11_keep_24 ?_
    refine lv_iconst (v := (1 : Int32)) hx hb dX11_keep_27 (by decide) ?_
    refine lv_iadd hx hb dX11_keep_28 ?_
    refine va_put (D := D) (ci := 11) (v := .int (v_kept + (1 : Int32))) (ty := .int) (C := RX11) (T := TX11) (N := 35) hx hb hts in_X11_keep_X11 tyX11 tyX11_ok nmX11 hown hK hP hD hS 0 rfl rfl 3 (by decide) (hts (.fieldLink RX11 291 "HangingCardsModel" "kept" "I") (List.mem_of_getElem? (i := 1) rfl)) (fun _ h9 => h9) rfl (by decide +kernel) rfl rfl (Nat.le_of_ble_eq_true rfl) dX11_keep_29 (fun H locs hP hD hS => ?_)
    have hP : va_P D vwCl (w_X11_keep cB cI cJ a_this a_cards a_county a_holes a_text a_letter a_where a_rank a_value a_hour a_readLetter a_readWhere a_readRank a_readValue a_readHour a_listName a_listDay a_voterName a_voterDay a_voterCounty a_heaps a_speed a_four a_byRules a_hours a_rest a_yet a_put (v_kept + (1 : Int32)) v_length v_items v_readItems v_at v_lists v_voters v_needed o2_0 o2_1 o2_2) H := hP
    have hD : va_D A (w_X11_keep cB cI cJ a_this a_cards a_county a_holes a_text a_letter a_where a_rank a_value a_hour a_readLetter a_readWhere a_readRank a_readValue a_readHour a_listName a_listDay a_voterName a_voterDay a_voterCounty a_heaps a_speed a_four a_byRules a_hours a_rest a_yet a_put (v_kept + (1 : Int32)) v_length v_items v_readItems v_at v_lists v_voters v_needed o2_0 o2_1 o2_2) := hD
    refine lv_aload_n hx hb dX11_keep_32 rfl (lv_at hl 0 rfl) ?_
    refine va_get (D := D) (ci := 11) (v := .int (v_kept + (1 : Int32))) (C := RX11) (T := TX11) (N := 35) hx hb hts in_X11_keep_X11 hown hK hP 0 rfl rfl 3 (by decide) (hts (.fieldLink RX11 291 "HangingCardsModel" "kept" "I") (List.mem_of_getElem? (i := 1) rfl)) (fun _ h9 => h9) rfl dX11_keep_33 ?_
    exact hret _ _ _ _ _ _ dX11_keep_36 (wk_rt hf (fun z => z.1)) (wk_rt hf (fun z => w_X11_keep cB cI cJ a_this a_cards a_county a_holes a_text a_letter a_where a_rank a_value a_hour a_readLetter a_readWhere a_readRank a_readValue a_readHour a_listName a_listDay a_voterName a_voterDay a_voterCounty a_heaps a_speed a_four a_byRules a_hours a_rest a_yet a_put (z.2.1) v_length v_items v_readItems v_at v_lists v_voters v_needed (z.2.2.1) (z.2.2.2.1) (z.2.2.2.2))) hP hD hS
  · have hf := wk_itT hf c1
    refine lv_bipush (v := (-3 : Int32)) hx hb dX11_keep_8 (by decide) ?_
    exact hret _ _ _ _ _ _ dX11_keep_10 (wk_rt hf (fun z => z.1)) (wk_rt hf (fun z => w_X11_keep cB cI cJ a_this a_cards a_county a_holes a_text a_letter a_where a_rank a_value a_hour a_readLetter a_readWhere a_readRank a_readValue a_readHour a_listName a_listDay a_voterName a_voterDay a_voterCounty a_heaps a_speed a_four a_byRules a_hours a_rest a_yet a_put (z.2.1) v_length v_items v_readItems v_at v_lists v_voters v_needed (z.2.2.1) (z.2.2.2.1) (z.2.2.2.2))) hP hD hS
abbrev w_X11_back (cB cI cJ : ClassId) (a_this : Nat) (a_cards : Nat) (a_county : Nat) (a_holes : Nat) (a_text : Nat) (a_letter : Nat) (a_where : Nat) (a_rank : Nat) (a_value : Nat) (a_hour : Nat) (a_readLetter : Nat) (a_readWhere : Nat) (a_readRank : Nat) (a_readValue : Nat) (a_readHour : Nat) (a_listName : Nat) (a_listDay : Nat) (a_voterName : Nat) (a_voterDay : Nat) (a_voterCounty : Nat) (a_heaps : Nat) (a_speed : Nat) (a_four : Nat) (a_byRules : Nat) (a_hours : Nat) (a_rest : Nat) (a_yet : Nat) (a_put : Nat) (v_kept : Int32) (v_length : Int32) (v_items : Int32) (v_readItems : Int32) (v_at : Int32) (v_lists : Int32) (v_voters : Int32) (v_needed : Int32) (v_cards : Nat → Int32) (v_county : Nat → Int32) (v_holes : Nat → Int32) : va_W := [(a_this, .inr (11, [.ref a_cards, .ref a_county, .ref a_holes, .int v_kept, .int v_length, .ref a_text, .int v_items, .ref a_letter, .ref a_where, .ref a_rank, .ref a_value, .ref a_hour, .int v_readItems, .ref a_readLetter, .ref a_readWhere, .ref a_readRank, .ref a_readValue, .ref a_readHour, .int v_at, .int v_lists, .ref a_listName, .ref a_listDay, .int v_voters, .ref a_voterName, .ref a_voterDay, .ref a_voterCounty, .int v_needed, .ref a_heaps, .ref a_speed, .ref a_four, .ref a_byRules, .ref a_hours, .ref a_rest, .ref a_yet, .ref a_put])), (a_cards, .inl (cI, 3, .inl v_cards)), (a_county, .inl (cI, 120, .inl v_county)), (a_holes, .inl (cI, 1440, .inl v_holes))]
theorem hd_X11_back : yX11_back.cls = RX11 ∧ yX11_back.cls ≠ "java/lang/invoke/MethodHandle" ∧ yX11_back.cls ≠ "java/lang/invoke/VarHandle" ∧ (parseMethodDescriptor yX11_back.desc).map (fun d => d.parameters.length) = some 0 := by decide +kernel
abbrev rm_X11_back : Room := { frames := 1, cells := 0, slots := 0, locals := 23 }
theorem in_X11_back_X11 : ∀ w ∈ wsX110, w ∈ wsX11_back := fun w h => List.mem_cons_of_mem _ (List.mem_append_right _ h)
set_option maxHeartbeats 4000000 in
set_option maxRecDepth 100000 in
theorem c_X11_back (l : Launch) (D : va_G) (cB cI cJ : ClassId) (N : Nat) (a_this : Nat) (a_cards : Nat) (a_county : Nat) (a_holes : Nat) (a_text : Nat) (a_letter : Nat) (a_where : Nat) (a_rank : Nat) (a_value : Nat) (a_hour : Nat) (a_readLetter : Nat) (a_readWhere : Nat) (a_readRank : Nat) (a_readValue : Nat) (a_readHour : Nat) (a_listName : Nat) (a_listDay : Nat) (a_voterName : Nat) (a_voterDay : Nat) (a_voterCounty : Nat) (a_heaps : Nat) (a_speed : Nat) (a_four : Nat) (a_byRules : Nat) (a_hours : Nat) (a_rest : Nat) (a_yet : Nat) (a_put : Nat) (v_kept : Int32) (v_length : Int32) (v_items : Int32) (v_readItems : Int32) (v_at : Int32) (v_lists : Int32) (v_voters : Int32) (v_needed : Int32) (v_cards : Nat → Int32) (v_county : Nat → Int32) (v_holes : Nat → Int32) {r : Int32} {o_kept : Int32} {o_cards : Nat → Int32} {o_county : Nat → Int32} {o_holes : Nat → Int32} (hf : f_X11_back N v_kept v_cards v_county v_holes = some (r, o_kept, o_cards, o_county, o_holes)) : MTi l yX11_back wsX11_back rm_X11_back D (wk_T cB cI cJ) [.ref a_this] (w_X11_back cB cI cJ a_this a_cards a_county a_holes a_text a_letter a_where a_rank a_value a_hour a_readLetter a_readWhere a_readRank a_readValue a_readHour a_listName a_listDay a_voterName a_voterDay a_voterCounty a_heaps a_speed a_four a_byRules a_hours a_rest a_yet a_put v_kept v_length v_items v_readItems v_at v_lists v_voters v_needed v_cards v_county v_holes) (w_X11_back cB cI cJ a_this a_cards a_county a_holes a_text a_letter a_where a_rank a_value a_hour a_readLetter a_readWhere a_readRank a_readValue a_readHour a_listName a_listDay a_voterName a_voterDay a_voterCounty a_heaps a_speed a_four a_byRules a_hours a_rest a_yet a_put o_kept v_length v_items v_readItems v_at v_lists v_voters v_needed o_cards o_county o_holes) r := by
  refine MTi.of (cc := cX11_back) (nL := 1) (rt := .int) (own := RX11) pn_X11 rfl rfl (Nat.le_of_ble_eq_true rfl) rfl ?_
  intro p e s m args below meth c A ls Q C hP hD hS hl hret
  obtain ⟨hx, hb, hml, hts, hown, hK, hN, hA, hlk⟩ := id C
  have hl : lv_has ls 1 [(0, .ref a_this)] := hl
  unfold f_X11_back at hf
  refine lv_aload_n hx hb dX11_back_0 rfl (lv_at hl 0 rfl) ?_
  refine va_get (D := D) (ci := 11) (v := .int v_kept) (C := RX11) (T := TX11) (N := 35) hx hb hts in_X11_back_X11 hown hK hP 0 rfl rfl 3 (by decide) (hts (.fieldLink RX11 291 "HangingCardsModel" "kept" "I") (List.mem_of_getElem? (i := 1) rfl)) (fun _ h9 => h9) rfl dX11_back_1 ?_
  refine lv_if_ne (tgt := 10) hx hb dX11_back_4 (by decide) (fun c1 => ?_) (fun c1 => ?_)
  · have hf := wk_itF hf c1
    refine lv_aload_n hx hb dX11_back_10 rfl (lv_at hl 0 rfl) ?_
    refine lv_dup hx hb dX11_back_11 rfl ?_
    refine va_get (D := D) (ci := 11) (v := .int v_kept) (C := RX11) (T := TX11) (N := 35) hx hb hts in_X11_back_X11 hown hK hP 0 rfl rfl 3 (by decide) (hts (.fieldLink RX11 291 "HangingCardsModel" "kept" "I") (List.mem_of_getElem? (i := 1) rfl)) (fun _ h9 => h9) rfl dX11_back_12 ?_
    refine lv_iconst (v := (1 : Int32)) hx hb dX11_back_15 (by decide) ?_
    refine lv_isub hx hb dX11_back_16 ?_
    refine va_put (D := D) (ci := 11) (v := .int (v_kept - (1 : Int32))) (ty := .int) (C := RX11) (T := TX11) (N := 35) hx hb hts in_X11_back_X11 tyX11 tyX11_ok nmX11 hown hK hP hD hS 0 rfl rfl 3 (by decide) (hts (.fieldLink RX11 291 "HangingCardsModel" "kept" "I") (List.mem_of_getElem? (i := 1) rfl)) (fun _ h9 => h9) rfl (by decide +kernel) rfl rfl (Nat.le_of_ble_eq_true rfl) dX11_back_17 (fun H locs hP hD hS => ?_)
    have hP : va_P D vwCl (w_X11_back cB cI cJ a_this a_cards a_county a_holes a_text a_letter a_where a_rank a_value a_hour a_readLetter a_readWhere a_readRank a_readValue a_readHour a_listName a_listDay a_voterName a_voterDay a_voterCounty a_heaps a_speed a_four a_byRules a_hours a_rest a_yet a_put (v_kept - (1 : Int32)) v_length v_items v_readItems v_at v_lists v_voters v_needed v_cards v_county v_holes) H := hP
    have hD : va_D A (w_X11_back cB cI cJ a_this a_cards a_county a_holes a_text a_letter a_where a_rank a_value a_hour a_readLetter a_readWhere a_readRank a_readValue a_readHour a_listName a_listDay a_voterName a_voterDay a_voterCounty a_heaps a_speed a_four a_byRules a_hours a_rest a_yet a_put (v_kept - (1 : Int32)) v_length v_items v_readItems v_at v_lists v_voters v_needed v_cards v_county v_holes) := hD
    refine lv_aload_n hx hb dX11_back_20 rfl (lv_at hl 0 rfl) ?_
    refine lv_iconst (v := (1 : Int32)) hx hb dX11_back_21 (by decide) ?_
    refine lv_aload_n hx hb dX11_back_22 rfl (lv_at hl 0 rfl) ?_
    refine va_get (D := D) (ci := 11) (v := .int (v_kept - (1 : Int32))) (C := RX11) (T := TX11) (N := 35) hx hb hts in_X11_back_X11 hown hK hP 0 rfl rfl 3 (by decide) (hts (.fieldLink RX11 291 "HangingCardsModel" "kept" "I") (List.mem_of_getElem? (i := 1) rfl)) (fun _ h9 => h9) rfl dX11_back_23 ?_
    refine lv_iadd hx hb dX11_back_26 ?_
    refine lv_iconst (v := (0 : Int32)) hx hb dX11_back_27 (by decide) ?_
    obtain ⟨o2_0, o2_1, o2_2, hc2, hf⟩ := wk_b3E hf
    refine wk_callVv2 C hP hD hS (c_X11_copies l D cB cI cJ N a_this a_cards a_county a_holes a_text a_letter a_where a_rank a_value a_hour a_readLetter a_readWhere a_readRank a_readValue a_readHour a_listName a_listDay a_voterName a_voterDay a_voterCounty a_heaps a_speed a_four a_byRules a_hours a_rest a_yet a_put (v_kept - (1 : Int32)) v_length v_items v_readItems v_at v_lists v_voters v_needed v_cards v_county v_holes ((1 : Int32) + (v_kept - (1 : Int32))) (0 : Int32) hc2) (cwV 2 hts gX11_back_X11_copies rfl rfl rfl hd_X11_copies ⟨Nat.le_of_ble_eq_true rfl, Nat.le_of_ble_eq_true rfl⟩) hl.1 ⟨Nat.zero_le _, Nat.zero_le _⟩ [0, 1, 2, 3] [] 4 (by decide +kernel) rfl (Wn := w_X11_back cB cI cJ a_this a_cards a_county a_holes a_text a_letter a_where a_rank a_value a_hour a_readLetter a_readWhere a_readRank a_readValue a_readHour a_listName a_listDay a_voterName a_voterDay a_voterCounty a_heaps a_speed a_four a_byRules a_hours a_rest a_yet a_put (v_kept - (1 : Int32)) v_length v_items v_readItems v_at v_lists v_voters v_needed o2_0 o2_1 o2_2) rfl rfl rfl rfl rfl rfl (ci := 11) rfl rfl (q0 := 0) rfl rfl rfl (Nat.le_of_ble_eq_true rfl) dX11_back_28 (fun H locs hP hD hS => ?_)
    refine lv_aload_n hx hb dX11_back_31 rfl (lv_at hl 0 rfl) ?_
    refine va_get (D := D) (ci := 11) (v := .int (v_kept - (1 : Int32))) (C := RX11) (T := TX11) (N := 35) hx hb hts in_X11_back_X11 hown hK hP 0 rfl rfl 3 (by decide) (hts (.fieldLink RX11 291 "HangingCardsModel" "kept" "I") (List.mem_of_getElem? (i := 1) rfl)) (fun _ h9 => h9) rfl dX11_back_32 ?_
    exact hret _ _ _ _ _ _ dX11_back_35 (wk_rt hf (fun z => z.1)) (wk_rt hf (fun z => w_X11_back cB cI cJ a_this a_cards a_county a_holes a_text a_letter a_where a_rank a_value a_hour a_readLetter a_readWhere a_readRank a_readValue a_readHour a_listName a_listDay a_voterName a_voterDay a_voterCounty a_heaps a_speed a_four a_byRules a_hours a_rest a_yet a_put (z.2.1) v_length v_items v_readItems v_at v_lists v_voters v_needed (z.2.2.1) (z.2.2.2.1) (z.2.2.2.2))) hP hD hS
  · have hf := wk_itT hf c1
    refine lv_bipush (v := (-2 : Int32)) hx hb dX11_back_7 (by decide) ?_
    exact hret _ _ _ _ _ _ dX11_back_9 (wk_rt hf (fun z => z.1)) (wk_rt hf (fun z => w_X11_back cB cI cJ a_this a_cards a_county a_holes a_text a_letter a_where a_rank a_value a_hour a_readLetter a_readWhere a_readRank a_readValue a_readHour a_listName a_listDay a_voterName a_voterDay a_voterCounty a_heaps a_speed a_four a_byRules a_hours a_rest a_yet a_put (z.2.1) v_length v_items v_readItems v_at v_lists v_voters v_needed (z.2.2.1) (z.2.2.2.1) (z.2.2.2.2))) hP hD hS
abbrev w_X11_count (cB cI cJ : ClassId) (a_this : Nat) (a_cards : Nat) (a_county : Nat) (a_holes : Nat) (a_text : Nat) (a_letter : Nat) (a_where : Nat) (a_rank : Nat) (a_value : Nat) (a_hour : Nat) (a_readLetter : Nat) (a_readWhere : Nat) (a_readRank : Nat) (a_readValue : Nat) (a_readHour : Nat) (a_listName : Nat) (a_listDay : Nat) (a_voterName : Nat) (a_voterDay : Nat) (a_voterCounty : Nat) (a_heaps : Nat) (a_speed : Nat) (a_four : Nat) (a_byRules : Nat) (a_hours : Nat) (a_rest : Nat) (a_yet : Nat) (a_put : Nat) (v_kept : Int32) (v_length : Int32) (v_items : Int32) (v_readItems : Int32) (v_at : Int32) (v_lists : Int32) (v_voters : Int32) (v_needed : Int32) (v_cards : Nat → Int32) (v_holes : Nat → Int32) : va_W := [(a_this, .inr (11, [.ref a_cards, .ref a_county, .ref a_holes, .int v_kept, .int v_length, .ref a_text, .int v_items, .ref a_letter, .ref a_where, .ref a_rank, .ref a_value, .ref a_hour, .int v_readItems, .ref a_readLetter, .ref a_readWhere, .ref a_readRank, .ref a_readValue, .ref a_readHour, .int v_at, .int v_lists, .ref a_listName, .ref a_listDay, .int v_voters, .ref a_voterName, .ref a_voterDay, .ref a_voterCounty, .int v_needed, .ref a_heaps, .ref a_speed, .ref a_four, .ref a_byRules, .ref a_hours, .ref a_rest, .ref a_yet, .ref a_put])), (a_cards, .inl (cI, 3, .inl v_cards)), (a_holes, .inl (cI, 1440, .inl v_holes))]
theorem hd_X11_count : yX11_count.cls = RX11 ∧ yX11_count.cls ≠ "java/lang/invoke/MethodHandle" ∧ yX11_count.cls ≠ "java/lang/invoke/VarHandle" ∧ (parseMethodDescriptor yX11_count.desc).map (fun d => d.parameters.length) = some 1 := by decide +kernel
abbrev rm_X11_count : Room := { frames := 0, cells := 0, slots := 0, locals := 0 }
theorem in_X11_count_X11 : ∀ w ∈ wsX110, w ∈ wsX11_count := fun w h => List.mem_cons_of_mem _ (List.mem_append_right _ h)
set_option maxHeartbeats 4000000 in
set_option maxRecDepth 100000 in
theorem c_X11_count (l : Launch) (D : va_G) (cB cI cJ : ClassId) (N : Nat) (a_this : Nat) (a_cards : Nat) (a_county : Nat) (a_holes : Nat) (a_text : Nat) (a_letter : Nat) (a_where : Nat) (a_rank : Nat) (a_value : Nat) (a_hour : Nat) (a_readLetter : Nat) (a_readWhere : Nat) (a_readRank : Nat) (a_readValue : Nat) (a_readHour : Nat) (a_listName : Nat) (a_listDay : Nat) (a_voterName : Nat) (a_voterDay : Nat) (a_voterCounty : Nat) (a_heaps : Nat) (a_speed : Nat) (a_four : Nat) (a_byRules : Nat) (a_hours : Nat) (a_rest : Nat) (a_yet : Nat) (a_put : Nat) (v_kept : Int32) (v_length : Int32) (v_items : Int32) (v_readItems : Int32) (v_at : Int32) (v_lists : Int32) (v_voters : Int32) (v_needed : Int32) (v_cards : Nat → Int32) (v_holes : Nat → Int32) (x1 : Int32) {r : Int32} (hf : f_X11_count N v_kept v_length v_items v_lists v_voters v_cards v_holes x1 = some r) : MTi l yX11_count wsX11_count rm_X11_count D (wk_T cB cI cJ) [.ref a_this, .int x1] (w_X11_count cB cI cJ a_this a_cards a_county a_holes a_text a_letter a_where a_rank a_value a_hour a_readLetter a_readWhere a_readRank a_readValue a_readHour a_listName a_listDay a_voterName a_voterDay a_voterCounty a_heaps a_speed a_four a_byRules a_hours a_rest a_yet a_put v_kept v_length v_items v_readItems v_at v_lists v_voters v_needed v_cards v_holes) (w_X11_count cB cI cJ a_this a_cards a_county a_holes a_text a_letter a_where a_rank a_value a_hour a_readLetter a_readWhere a_readRank a_readValue a_readHour a_listName a_listDay a_voterName a_voterDay a_voterCounty a_heaps a_speed a_four a_byRules a_hours a_rest a_yet a_put v_kept v_length v_items v_readItems v_at v_lists v_voters v_needed v_cards v_holes) r := by
  refine MTi.of (cc := cX11_count) (nL := 4) (rt := .int) (own := RX11) pn_X11 rfl rfl (Nat.le_of_ble_eq_true rfl) rfl ?_
  intro p e s m args below meth c A ls Q C hP hD hS hl hret
  obtain ⟨hx, hb, hml, hts, hown, hK, hN, hA, hlk⟩ := id C
  have hl : lv_has ls 4 [(0, .ref a_this), (1, .int x1)] := hl
  have L4 := wk_loopI (F := (fun k4 : Int32 → Int32 → Int32 → Option Int32 => B_X11_count_4 N v_kept v_length v_items v_lists v_voters v_cards v_holes k4)) (bot := fun _ _ _ => none) (fun k4 : Int32 → Int32 → Int32 → Option Int32 => ∀ (x1 : Int32) (x2 : Int32) (x3 : Int32), k4 x1 x2 x3 = some r → ∀ (H : Heap) (locs : List Loc) (ls : Array Slot), va_P D vwCl (w_X11_count cB cI cJ a_this a_cards a_county a_holes a_text a_letter a_where a_rank a_value a_hour a_readLetter a_readWhere a_readRank a_readValue a_readHour a_listName a_listDay a_voterName a_voterDay a_voterCounty a_heaps a_speed a_four a_byRules a_hours a_rest a_yet a_put v_kept v_length v_items v_readItems v_at v_lists v_voters v_needed v_cards v_holes) H → va_D A (w_X11_count cB cI cJ a_this a_cards a_county a_holes a_text a_letter a_where a_rank a_value a_hour a_readLetter a_readWhere a_readRank a_readValue a_readHour a_listName a_listDay a_voterName a_voterDay a_voterCounty a_heaps a_speed a_four a_byRules a_hours a_rest a_yet a_put v_kept v_length v_items v_readItems v_at v_lists v_voters v_needed v_cards v_holes) → va_S A s.heap H locs → lv_has ls 4 [(0, .ref a_this), (1, .int x1), (2, .int x2), (3, .int x3)] → W p l e rm_X11_count s m args below meth c H locs 0 0 Q (F0 m 4 ls [])) (by intro x1 x2 x3 hf; exact wk_no hf) (by
    intro k4 ih4
    intro x1 x2 x3 hf H locs ls hP hD hS hl
    have hf : B_X11_count_4 N v_kept v_length v_items v_lists v_voters v_cards v_holes k4 x1 x2 x3 = some r := hf
    unfold B_X11_count_4 at hf
    refine lv_iload_n hx hb dX11_count_4 rfl (lv_at hl 3 rfl) ?_
    refine lv_bipush (v := (12 : Int32)) hx hb dX11_count_5 (by decide) ?_
    refine lv_aload_n hx hb dX11_count_7 rfl (lv_at hl 0 rfl) ?_
    refine va_get (D := D) (ci := 11) (v := .ref a_cards) (C := RX11) (T := TX11) (N := 35) hx hb hts in_X11_count_X11 hown hK hP 0 rfl rfl 0 (by decide) (hts (.fieldLink RX11 7 "HangingCardsModel" "cards" "[I") (List.mem_of_getElem? (i := 1) rfl)) (fun _ h9 => h9) rfl dX11_count_8 ?_
    refine lv_iconst (v := (0 : Int32)) hx hb dX11_count_11 (by decide) ?_
    obtain ⟨hi1, hf⟩ := wk_ckE hf
    refine va_iald hx hb hK hP 1 0 rfl rfl hi1 dX11_count_12 ?_
    refine lv_imul hx hb dX11_count_13 ?_
    refine lv_icmp_ge (tgt := 40) hx hb dX11_count_14 (by decide) (fun c2 => ?_) (fun c2 => ?_)
    · have hf := wk_itT hf c2
      refine lv_iload_n hx hb dX11_count_40 rfl (lv_at hl 1 rfl) ?_
      by_cases c3 : x1 = (0 : Int32)
      · have hf := wk_itT hf c3
        refine lv_tableIn (off := 43) (tgt := 84) hx hb dX11_count_41 (by rw [c3]; decide) (by rw [c3]; decide) (by rw [c3]; rfl) (by decide) ?_
        refine lv_aload_n hx hb dX11_count_84 rfl (lv_at hl 0 rfl) ?_
        refine va_get (D := D) (ci := 11) (v := .ref a_cards) (C := RX11) (T := TX11) (N := 35) hx hb hts in_X11_count_X11 hown hK hP 0 rfl rfl 0 (by decide) (hts (.fieldLink RX11 7 "HangingCardsModel" "cards" "[I") (List.mem_of_getElem? (i := 1) rfl)) (fun _ h9 => h9) rfl dX11_count_85 ?_
        refine lv_iconst (v := (0 : Int32)) hx hb dX11_count_88 (by decide) ?_
        obtain ⟨hi4, hf⟩ := wk_ckE hf
        refine va_iald hx hb hK hP 1 0 rfl rfl hi4 dX11_count_89 ?_
        exact hret _ _ _ _ _ _ dX11_count_90 (wk_rt hf (fun z => z)) rfl hP hD hS
      have hf := wk_itF hf c3
      by_cases c5 : x1 = (1 : Int32)
      · have hf := wk_itT hf c5
        refine lv_tableIn (off := 50) (tgt := 91) hx hb dX11_count_41 (by rw [c5]; decide) (by rw [c5]; decide) (by rw [c5]; rfl) (by decide) ?_
        refine lv_iload_n hx hb dX11_count_91 rfl (lv_at hl 2 rfl) ?_
        exact hret _ _ _ _ _ _ dX11_count_92 (wk_rt hf (fun z => z)) rfl hP hD hS
      have hf := wk_itF hf c5
      by_cases c6 : x1 = (2 : Int32)
      · have hf := wk_itT hf c6
        refine lv_tableIn (off := 52) (tgt := 93) hx hb dX11_count_41 (by rw [c6]; decide) (by rw [c6]; decide) (by rw [c6]; rfl) (by decide) ?_
        refine lv_aload_n hx hb dX11_count_93 rfl (lv_at hl 0 rfl) ?_
        refine va_get (D := D) (ci := 11) (v := .int v_length) (C := RX11) (T := TX11) (N := 35) hx hb hts in_X11_count_X11 hown hK hP 0 rfl rfl 4 (by decide) (hts (.fieldLink RX11 139 "HangingCardsModel" "length" "I") (List.mem_of_getElem? (i := 3) rfl)) (fun _ h9 => h9) rfl dX11_count_94 ?_
        exact hret _ _ _ _ _ _ dX11_count_97 (wk_rt hf (fun z => z)) rfl hP hD hS
      have hf := wk_itF hf c6
      by_cases c7 : x1 = (3 : Int32)
      · have hf := wk_itT hf c7
        refine lv_tableIn (off := 57) (tgt := 98) hx hb dX11_count_41 (by rw [c7]; decide) (by rw [c7]; decide) (by rw [c7]; rfl) (by decide) ?_
        refine lv_aload_n hx hb dX11_count_98 rfl (lv_at hl 0 rfl) ?_
        refine va_get (D := D) (ci := 11) (v := .int v_items) (C := RX11) (T := TX11) (N := 35) hx hb hts in_X11_count_X11 hown hK hP 0 rfl rfl 6 (by decide) (hts (.fieldLink RX11 171 "HangingCardsModel" "items" "I") (List.mem_of_getElem? (i := 4) rfl)) (fun _ h9 => h9) rfl dX11_count_99 ?_
        exact hret _ _ _ _ _ _ dX11_count_102 (wk_rt hf (fun z => z)) rfl hP hD hS
      have hf := wk_itF hf c7
      by_cases c8 : x1 = (4 : Int32)
      · have hf := wk_itT hf c8
        refine lv_tableIn (off := 62) (tgt := 103) hx hb dX11_count_41 (by rw [c8]; decide) (by rw [c8]; decide) (by rw [c8]; rfl) (by decide) ?_
        refine lv_aload_n hx hb dX11_count_103 rfl (lv_at hl 0 rfl) ?_
        refine va_get (D := D) (ci := 11) (v := .int v_lists) (C := RX11) (T := TX11) (N := 35) hx hb hts in_X11_count_X11 hown hK hP 0 rfl rfl 19 (by decide) (hts (.fieldLink RX11 230 "HangingCardsModel" "lists" "I") (List.mem_of_getElem? (i := 5) rfl)) (fun _ h9 => h9) rfl dX11_count_104 ?_
        exact hret _ _ _ _ _ _ dX11_count_107 (wk_rt hf (fun z => z)) rfl hP hD hS
      have hf := wk_itF hf c8
      by_cases c9 : x1 = (5 : Int32)
      · have hf := wk_itT hf c9
        refine lv_tableIn (off := 67) (tgt := 108) hx hb dX11_count_41 (by rw [c9]; decide) (by rw [c9]; decide) (by rw [c9]; rfl) (by decide) ?_
        refine lv_aload_n hx hb dX11_count_108 rfl (lv_at hl 0 rfl) ?_
        refine va_get (D := D) (ci := 11) (v := .int v_voters) (C := RX11) (T := TX11) (N := 35) hx hb hts in_X11_count_X11 hown hK hP 0 rfl rfl 22 (by decide) (hts (.fieldLink RX11 233 "HangingCardsModel" "voters" "I") (List.mem_of_getElem? (i := 6) rfl)) (fun _ h9 => h9) rfl dX11_count_109 ?_
        exact hret _ _ _ _ _ _ dX11_count_112 (wk_rt hf (fun z => z)) rfl hP hD hS
      have hf := wk_itF hf c9
      by_cases c10 : x1 = (6 : Int32)
      · have hf := wk_itT hf c10
        refine lv_tableIn (off := 72) (tgt := 113) hx hb dX11_count_41 (by rw [c10]; decide) (by rw [c10]; decide) (by rw [c10]; rfl) (by decide) ?_
        refine lv_aload_n hx hb dX11_count_113 rfl (lv_at hl 0 rfl) ?_
        refine va_get (D := D) (ci := 11) (v := .int v_kept) (C := RX11) (T := TX11) (N := 35) hx hb hts in_X11_count_X11 hown hK hP 0 rfl rfl 3 (by decide) (hts (.fieldLink RX11 291 "HangingCardsModel" "kept" "I") (List.mem_of_getElem? (i := 7) rfl)) (fun _ h9 => h9) rfl dX11_count_114 ?_
        exact hret _ _ _ _ _ _ dX11_count_117 (wk_rt hf (fun z => z)) rfl hP hD hS
      have hf := wk_itF hf c10
      have t3 := lv_neT (a := 0) c3 rfl
      have t5 := lv_neT (a := 1) c5 rfl
      have t6 := lv_neT (a := 2) c6 rfl
      have t7 := lv_neT (a := 3) c7 rfl
      have t8 := lv_neT (a := 4) c8 rfl
      have t9 := lv_neT (a := 5) c9 rfl
      have t10 := lv_neT (a := 6) c10 rfl
      refine lv_tableOut (tgt := 118) hx hb dX11_count_41 (by omega) (by decide) ?_
      refine lv_iconst (v := (-1 : Int32)) hx hb dX11_count_118 (by decide) ?_
      exact hret _ _ _ _ _ _ dX11_count_119 (wk_rt hf (fun z => z)) rfl hP hD hS
    · have hf := wk_itF hf c2
      refine lv_iload_n hx hb dX11_count_17 rfl (lv_at hl 2 rfl) ?_
      refine lv_aload_n hx hb dX11_count_18 rfl (lv_at hl 0 rfl) ?_
      refine va_get (D := D) (ci := 11) (v := .ref a_holes) (C := RX11) (T := TX11) (N := 35) hx hb hts in_X11_count_X11 hown hK hP 0 rfl rfl 2 (by decide) (hts (.fieldLink RX11 16 "HangingCardsModel" "holes" "[I") (List.mem_of_getElem? (i := 2) rfl)) (fun _ h9 => h9) rfl dX11_count_19 ?_
      refine lv_iload_n hx hb dX11_count_22 rfl (lv_at hl 3 rfl) ?_
      obtain ⟨hi11, hf⟩ := wk_ckE hf
      refine va_iald hx hb hK hP 2 0 rfl rfl hi11 dX11_count_23 ?_
      refine lv_if_le (tgt := 31) hx hb dX11_count_24 (by decide) (fun c12 => ?_) (fun c12 => ?_)
      · have hf := wk_itT hf c12
        refine lv_iconst (v := (0 : Int32)) hx hb dX11_count_31 (by decide) ?_
        refine lv_iadd hx hb dX11_count_32 ?_
        refine lv_topi (fun y13 ey13 => ?_)
        have hf := wk_nmE hf ey13
        refine lv_istore_n (lv' := [(2, .int y13), (0, .ref a_this), (1, .int x1), (3, .int x3)]) hx hb dX11_count_33 rfl hl (by decide) rfl (fun ls hl => ?_)
        obtain ⟨y14, ey14⟩ : ∃ y : Int32, y = x3 + (1 : Int32) := ⟨_, rfl⟩
        have hf := wk_nmE hf ey14
        refine lv_iinc (v := y14) (lv' := [(3, .int y14), (2, .int y13), (0, .ref a_this), (1, .int x1)]) hx hb dX11_count_34 hl (k := 3) rfl (by rw [ey14]; rfl) (by decide) rfl (fun ls hl => ?_)
        refine lv_goto (tgt := 4) hx hb dX11_count_37 (by decide) ?_
        exact ih4 _ _ _ hf _ _ _ hP hD hS (lv_sub hl [2, 3, 1, 0] rfl)
      · have hf := wk_itF hf c12
        refine lv_iconst (v := (1 : Int32)) hx hb dX11_count_27 (by decide) ?_
        refine lv_goto (tgt := 32) hx hb dX11_count_28 (by decide) ?_
        refine lv_iadd hx hb dX11_count_32 ?_
        refine lv_topi (fun y15 ey15 => ?_)
        have hf := wk_nmE hf ey15
        refine lv_istore_n (lv' := [(2, .int y15), (0, .ref a_this), (1, .int x1), (3, .int x3)]) hx hb dX11_count_33 rfl hl (by decide) rfl (fun ls hl => ?_)
        obtain ⟨y16, ey16⟩ : ∃ y : Int32, y = x3 + (1 : Int32) := ⟨_, rfl⟩
        have hf := wk_nmE hf ey16
        refine lv_iinc (v := y16) (lv' := [(3, .int y16), (2, .int y15), (0, .ref a_this), (1, .int x1)]) hx hb dX11_count_34 hl (k := 3) rfl (by rw [ey16]; rfl) (by decide) rfl (fun ls hl => ?_)
        refine lv_goto (tgt := 4) hx hb dX11_count_37 (by decide) ?_
        exact ih4 _ _ _ hf _ _ _ hP hD hS (lv_sub hl [2, 3, 1, 0] rfl))
  unfold f_X11_count at hf
  refine lv_iconst (v := (0 : Int32)) hx hb dX11_count_0 (by decide) ?_
  refine lv_istore_n (lv' := [(2, .int (0 : Int32)), (0, .ref a_this), (1, .int x1)]) hx hb dX11_count_1 rfl hl (by decide) rfl (fun ls hl => ?_)
  refine lv_iconst (v := (0 : Int32)) hx hb dX11_count_2 (by decide) ?_
  refine lv_istore_n (lv' := [(3, .int (0 : Int32)), (2, .int (0 : Int32)), (0, .ref a_this), (1, .int x1)]) hx hb dX11_count_3 rfl hl (by decide) rfl (fun ls hl => ?_)
  exact L4 N _ _ _ hf _ _ _ hP hD hS (lv_sub hl [2, 3, 1, 0] rfl)
