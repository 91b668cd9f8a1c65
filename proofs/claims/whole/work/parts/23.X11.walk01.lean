abbrev w_X11_votes (cB cI cJ : ClassId) (a_this : Nat) (a_cards : Nat) (a_county : Nat) (a_holes : Nat) (a_text : Nat) (a_letter : Nat) (a_where : Nat) (a_rank : Nat) (a_value : Nat) (a_hour : Nat) (a_readLetter : Nat) (a_readWhere : Nat) (a_readRank : Nat) (a_readValue : Nat) (a_readHour : Nat) (a_listName : Nat) (a_listDay : Nat) (a_voterName : Nat) (a_voterDay : Nat) (a_voterCounty : Nat) (a_heaps : Nat) (a_speed : Nat) (a_four : Nat) (a_byRules : Nat) (a_hours : Nat) (a_rest : Nat) (a_yet : Nat) (a_put : Nat) (v_kept : Int32) (v_length : Int32) (v_items : Int32) (v_readItems : Int32) (v_at : Int32) (v_lists : Int32) (v_voters : Int32) (v_needed : Int32) (v_holes : Nat → Int32) : va_W := [(a_this, .inr (11, [.ref a_cards, .ref a_county, .ref a_holes, .int v_kept, .int v_length, .ref a_text, .int v_items, .ref a_letter, .ref a_where, .ref a_rank, .ref a_value, .ref a_hour, .int v_readItems, .ref a_readLetter, .ref a_readWhere, .ref a_readRank, .ref a_readValue, .ref a_readHour, .int v_at, .int v_lists, .ref a_listName, .ref a_listDay, .int v_voters, .ref a_voterName, .ref a_voterDay, .ref a_voterCounty, .int v_needed, .ref a_heaps, .ref a_speed, .ref a_four, .ref a_byRules, .ref a_hours, .ref a_rest, .ref a_yet, .ref a_put])), (a_holes, .inl (cI, 1440, .inl v_holes))]
theorem hd_X11_votes : yX11_votes.cls = RX11 ∧ yX11_votes.cls ≠ "java/lang/invoke/MethodHandle" ∧ yX11_votes.cls ≠ "java/lang/invoke/VarHandle" ∧ (parseMethodDescriptor yX11_votes.desc).map (fun d => d.parameters.length) = some 4 := by decide +kernel
abbrev rm_X11_votes : Room := { frames := 0, cells := 0, slots := 0, locals := 0 }
theorem in_X11_votes_X11 : ∀ w ∈ wsX110, w ∈ wsX11_votes := fun w h => List.mem_cons_of_mem _ (List.mem_append_right _ h)
set_option maxHeartbeats 4000000 in
set_option maxRecDepth 100000 in
theorem c_X11_votes (l : Launch) (D : va_G) (cB cI cJ : ClassId) (N : Nat) (a_this : Nat) (a_cards : Nat) (a_county : Nat) (a_holes : Nat) (a_text : Nat) (a_letter : Nat) (a_where : Nat) (a_rank : Nat) (a_value : Nat) (a_hour : Nat) (a_readLetter : Nat) (a_readWhere : Nat) (a_readRank : Nat) (a_readValue : Nat) (a_readHour : Nat) (a_listName : Nat) (a_listDay : Nat) (a_voterName : Nat) (a_voterDay : Nat) (a_voterCounty : Nat) (a_heaps : Nat) (a_speed : Nat) (a_four : Nat) (a_byRules : Nat) (a_hours : Nat) (a_rest : Nat) (a_yet : Nat) (a_put : Nat) (v_kept : Int32) (v_length : Int32) (v_items : Int32) (v_readItems : Int32) (v_at : Int32) (v_lists : Int32) (v_voters : Int32) (v_needed : Int32) (v_holes : Nat → Int32) (x1 : Int32) (x2 : Int32) (x3 : Int32) (x4 : Int32) {r : Int32} (hf : f_X11_votes N v_holes x1 x2 x3 x4 = some r) : MTi l yX11_votes wsX11_votes rm_X11_votes D (wk_T cB cI cJ) [.ref a_this, .int x1, .int x2, .int x3, .int x4] (w_X11_votes cB cI cJ a_this a_cards a_county a_holes a_text a_letter a_where a_rank a_value a_hour a_readLetter a_readWhere a_readRank a_readValue a_readHour a_listName a_listDay a_voterName a_voterDay a_voterCounty a_heaps a_speed a_four a_byRules a_hours a_rest a_yet a_put v_kept v_length v_items v_readItems v_at v_lists v_voters v_needed v_holes) (w_X11_votes cB cI cJ a_this a_cards a_county a_holes a_text a_letter a_where a_rank a_value a_hour a_readLetter a_readWhere a_readRank a_readValue a_readHour a_listName a_listDay a_voterName a_voterDay a_voterCounty a_heaps a_speed a_four a_byRules a_hours a_rest a_yet a_put v_kept v_length v_items v_readItems v_at v_lists v_voters v_needed v_holes) r := by
  refine MTi.of (cc := cX11_votes) (nL := 9) (rt := .int) (own := RX11) pn_X11 rfl rfl (Nat.le_of_ble_eq_true rfl) rfl ?_
  intro p e s m args below meth c A ls Q C hP hD hS hl hret
  obtain ⟨hx, hb, hml, hts, hown, hK, hN, hA, hlk⟩ := id C
  have hl : lv_has ls 9 [(0, .ref a_this), (1, .int x1), (2, .int x2), (3, .int x3), (4, .int x4)] := hl
  have L10 := wk_loopI (F := (fun k10 : Int32 → Int32 → Int32 → Int32 → Int32 → Int32 → Int32 → Option Int32 => B_X11_votes_10 N v_holes k10)) (bot := fun _ _ _ _ _ _ _ => none) (fun k10 : Int32 → Int32 → Int32 → Int32 → Int32 → Int32 → Int32 → Option Int32 => ∀ (x1 : Int32) (x2 : Int32) (x3 : Int32) (x4 : Int32) (x5 : Int32) (x6 : Int32) (x7 : Int32), k10 x1 x2 x3 x4 x5 x6 x7 = some r → ∀ (H : Heap) (locs : List Loc) (ls : Array Slot), va_P D vwCl (w_X11_votes cB cI cJ a_this a_cards a_county a_holes a_text a_letter a_where a_rank a_value a_hour a_readLetter a_readWhere a_readRank a_readValue a_readHour a_listName a_listDay a_voterName a_voterDay a_voterCounty a_heaps a_speed a_four a_byRules a_hours a_rest a_yet a_put v_kept v_length v_items v_readItems v_at v_lists v_voters v_needed v_holes) H → va_D A (w_X11_votes cB cI cJ a_this a_cards a_county a_holes a_text a_letter a_where a_rank a_value a_hour a_readLetter a_readWhere a_readRank a_readValue a_readHour a_listName a_listDay a_voterName a_voterDay a_voterCounty a_heaps a_speed a_four a_byRules a_hours a_rest a_yet a_put v_kept v_length v_items v_readItems v_at v_lists v_voters v_needed v_holes) → va_S A s.heap H locs → lv_has ls 9 [(0, .ref a_this), (1, .int x1), (2, .int x2), (3, .int x3), (4, .int x4), (5, .int x5), (6, .int x6), (7, .int x7)] → W p l e rm_X11_votes s m args below meth c H locs 0 0 Q (F0 m 10 ls [])) (by intro x1 x2 x3 x4 x5 x6 x7 hf; exact wk_no hf) (by
    intro k10 ih10
    intro x1 x2 x3 x4 x5 x6 x7 hf H locs ls hP hD hS hl
    have hf : B_X11_votes_10 N v_holes k10 x1 x2 x3 x4 x5 x6 x7 = some r := hf
    unfold B_X11_votes_10 at hf
    refine lv_iload hx hb dX11_votes_10 (lv_at hl 7 rfl) ?_
    refine lv_iconst (v := (4 : Int32)) hx hb dX11_votes_12 (by decide) ?_
    refine lv_icmp_ge (tgt := 64) hx hb dX11_votes_13 (by decide) (fun c1 => ?_) (fun c1 => ?_)
    · have hf := wk_itT hf c1
      refine lv_iload hx hb dX11_votes_64 (lv_at hl 6 rfl) ?_
      refine lv_iconst (v := (1 : Int32)) hx hb dX11_votes_66 (by decide) ?_
      refine lv_icmp_ne (tgt := 75) hx hb dX11_votes_67 (by decide) (fun c2 => ?_) (fun c2 => ?_)
      · have hf := wk_itF hf c2
        refine lv_bipush (v := (-4 : Int32)) hx hb dX11_votes_75 (by decide) ?_
        exact hret _ _ _ _ _ _ dX11_votes_77 (wk_rt hf (fun z => z)) rfl hP hD hS
      · have hf := wk_itT hf c2
        refine lv_iload hx hb dX11_votes_70 (lv_at hl 5 rfl) ?_
        refine lv_goto (tgt := 77) hx hb dX11_votes_72 (by decide) ?_
        exact hret _ _ _ _ _ _ dX11_votes_77 (wk_rt hf (fun z => z)) rfl hP hD hS
    · have hf := wk_itF hf c1
      refine lv_aload_n hx hb dX11_votes_16 rfl (lv_at hl 0 rfl) ?_
      refine va_get (D := D) (ci := 11) (v := .ref a_holes) (C := RX11) (T := TX11) (N := 35) hx hb hts in_X11_votes_X11 hown hK hP 0 rfl rfl 2 (by decide) (hts (.fieldLink RX11 16 "HangingCardsModel" "holes" "[I") (List.mem_of_getElem? (i := 1) rfl)) (fun _ h9 => h9) rfl dX11_votes_17 ?_
      refine lv_bipush (v := (12 : Int32)) hx hb dX11_votes_20 (by decide) ?_
      refine lv_iload_n hx hb dX11_votes_22 rfl (lv_at hl 1 rfl) ?_
      refine lv_imul hx hb dX11_votes_23 ?_
      refine lv_iconst (v := (4 : Int32)) hx hb dX11_votes_24 (by decide) ?_
      refine lv_iload_n hx hb dX11_votes_25 rfl (lv_at hl 2 rfl) ?_
      refine lv_imul hx hb dX11_votes_26 ?_
      refine lv_iadd hx hb dX11_votes_27 ?_
      refine lv_iload hx hb dX11_votes_28 (lv_at hl 7 rfl) ?_
      refine lv_iadd hx hb dX11_votes_30 ?_
      obtain ⟨hi3, hf⟩ := wk_ckE hf
      refine va_iald hx hb hK hP 1 0 rfl rfl hi3 dX11_votes_31 ?_
      refine lv_topi (fun y4 ey4 => ?_)
      have hf := wk_nmE hf ey4
      refine lv_istore (lv' := [(8, .int y4), (0, .ref a_this), (1, .int x1), (2, .int x2), (3, .int x3), (4, .int x4), (5, .int x5), (6, .int x6), (7, .int x7)]) hx hb dX11_votes_32 hl (by decide) rfl (fun ls hl => ?_)
      refine lv_iload hx hb dX11_votes_34 (lv_at hl 0 rfl) ?_
      refine lv_iload_n hx hb dX11_votes_36 rfl (lv_at hl 4 rfl) ?_
      refine lv_icmp_ge (tgt := 51) hx hb dX11_votes_37 (by decide) (fun c5 => ?_) (fun c5 => ?_)
      · have hf := wk_itT hf c5
        refine lv_iload hx hb dX11_votes_51 (lv_at hl 8 rfl) ?_
        refine lv_istore (lv' := [(5, .int x7), (8, .int y4), (0, .ref a_this), (1, .int x1), (2, .int x2), (3, .int x3), (4, .int x4), (6, .int x6), (7, .int x7)]) hx hb dX11_votes_53 hl (by decide) rfl (fun ls hl => ?_)
        obtain ⟨y6, ey6⟩ : ∃ y : Int32, y = x6 + (1 : Int32) := ⟨_, rfl⟩
        have hf := wk_nmE hf ey6
        refine lv_iinc (v := y6) (lv' := [(6, .int y6), (5, .int x7), (8, .int y4), (0, .ref a_this), (1, .int x1), (2, .int x2), (3, .int x3), (4, .int x4), (7, .int x7)]) hx hb dX11_votes_55 hl (k := 7) rfl (by rw [ey6]; rfl) (by decide) rfl (fun ls hl => ?_)
        obtain ⟨y7, ey7⟩ : ∃ y : Int32, y = x7 + (1 : Int32) := ⟨_, rfl⟩
        have hf := wk_nmE hf ey7
        refine lv_iinc (v := y7) (lv' := [(7, .int y7), (6, .int y6), (5, .int x7), (8, .int y4), (0, .ref a_this), (1, .int x1), (2, .int x2), (3, .int x3), (4, .int x4)]) hx hb dX11_votes_58 hl (k := 8) rfl (by rw [ey7]; rfl) (by decide) rfl (fun ls hl => ?_)
        refine lv_goto (tgt := 10) hx hb dX11_votes_61 (by decide) ?_
        exact ih10 _ _ _ _ _ _ _ hf _ _ _ hP hD hS (lv_sub hl [4, 5, 6, 7, 8, 2, 1, 0] rfl)
      · have hf := wk_itF hf c5
        refine lv_iload hx hb dX11_votes_40 (lv_at hl 0 rfl) ?_
        refine lv_iconst (v := (1 : Int32)) hx hb dX11_votes_42 (by decide) ?_
        refine lv_icmp_ne (tgt := 58) hx hb dX11_votes_43 (by decide) (fun c8 => ?_) (fun c8 => ?_)
        · have hf := wk_itF hf c8
          obtain ⟨y9, ey9⟩ : ∃ y : Int32, y = x7 + (1 : Int32) := ⟨_, rfl⟩
          have hf := wk_nmE hf ey9
          refine lv_iinc (v := y9) (lv' := [(7, .int y9), (8, .int y4), (0, .ref a_this), (1, .int x1), (2, .int x2), (3, .int x3), (4, .int x4), (5, .int x5), (6, .int x6)]) hx hb dX11_votes_58 hl (k := 8) rfl (by rw [ey9]; rfl) (by decide) rfl (fun ls hl => ?_)
          refine lv_goto (tgt := 10) hx hb dX11_votes_61 (by decide) ?_
          exact ih10 _ _ _ _ _ _ _ hf _ _ _ hP hD hS (lv_sub hl [2, 3, 4, 5, 6, 7, 8, 0] rfl)
        · have hf := wk_itT hf c8
          refine lv_iload hx hb dX11_votes_46 (lv_at hl 5 rfl) ?_
          refine lv_if_eq (tgt := 58) hx hb dX11_votes_48 (by decide) (fun c10 => ?_) (fun c10 => ?_)
          · have hf := wk_itT hf c10
            obtain ⟨y11, ey11⟩ : ∃ y : Int32, y = x7 + (1 : Int32) := ⟨_, rfl⟩
            have hf := wk_nmE hf ey11
            refine lv_iinc (v := y11) (lv' := [(7, .int y11), (8, .int y4), (0, .ref a_this), (1, .int x1), (2, .int x2), (3, .int x3), (4, .int x4), (5, .int x5), (6, .int x6)]) hx hb dX11_votes_58 hl (k := 8) rfl (by rw [ey11]; rfl) (by decide) rfl (fun ls hl => ?_)
            refine lv_goto (tgt := 10) hx hb dX11_votes_61 (by decide) ?_
            exact ih10 _ _ _ _ _ _ _ hf _ _ _ hP hD hS (lv_sub hl [2, 3, 4, 5, 6, 7, 8, 0] rfl)
          · have hf := wk_itF hf c10
            refine lv_iload hx hb dX11_votes_51 (lv_at hl 8 rfl) ?_
            refine lv_istore (lv' := [(5, .int x7), (8, .int y4), (0, .ref a_this), (1, .int x1), (2, .int x2), (3, .int x3), (4, .int x4), (6, .int x6), (7, .int x7)]) hx hb dX11_votes_53 hl (by decide) rfl (fun ls hl => ?_)
            obtain ⟨y12, ey12⟩ : ∃ y : Int32, y = x6 + (1 : Int32) := ⟨_, rfl⟩
            have hf := wk_nmE hf ey12
            refine lv_iinc (v := y12) (lv' := [(6, .int y12), (5, .int x7), (8, .int y4), (0, .ref a_this), (1, .int x1), (2, .int x2), (3, .int x3), (4, .int x4), (7, .int x7)]) hx hb dX11_votes_55 hl (k := 7) rfl (by rw [ey12]; rfl) (by decide) rfl (fun ls hl => ?_)
            obtain ⟨y13, ey13⟩ : ∃ y : Int32, y = x7 + (1 : Int32) := ⟨_, rfl⟩
            have hf := wk_nmE hf ey13
            refine lv_iinc (v := y13) (lv' := [(7, .int y13), (6, .int y12), (5, .int x7), (8, .int y4), (0, .ref a_this), (1, .int x1), (2, .int x2), (3, .int x3), (4, .int x4)]) hx hb dX11_votes_58 hl (k := 8) rfl (by rw [ey13]; rfl) (by decide) rfl (fun ls hl => ?_)
            refine lv_goto (tgt := 10) hx hb dX11_votes_61 (by decide) ?_
            exact ih10 _ _ _ _ _ _ _ hf _ _ _ hP hD hS (lv_sub hl [4, 5, 6, 7, 8, 2, 1, 0] rfl))
  unfold f_X11_votes at hf
  refine lv_bipush (v := (-4 : Int32)) hx hb dX11_votes_0 (by decide) ?_
  refine lv_istore (lv' := [(5, .int (-4 : Int32)), (0, .ref a_this), (1, .int x1), (2, .int x2), (3, .int x3), (4, .int x4)]) hx hb dX11_votes_2 hl (by decide) rfl (fun ls hl => ?_)
  refine lv_iconst (v := (0 : Int32)) hx hb dX11_votes_4 (by decide) ?_
  refine lv_istore (lv' := [(6, .int (0 : Int32)), (5, .int (-4 : Int32)), (0, .ref a_this), (1, .int x1), (2, .int x2), (3, .int x3), (4, .int x4)]) hx hb dX11_votes_5 hl (by decide) rfl (fun ls hl => ?_)
  refine lv_iconst (v := (0 : Int32)) hx hb dX11_votes_7 (by decide) ?_
  refine lv_istore (lv' := [(7, .int (0 : Int32)), (6, .int (0 : Int32)), (5, .int (-4 : Int32)), (0, .ref a_this), (1, .int x1), (2, .int x2), (3, .int x3), (4, .int x4)]) hx hb dX11_votes_8 hl (by decide) rfl (fun ls hl => ?_)
  exact L10 N _ _ _ _ _ _ _ hf _ _ _ hP hD hS (lv_sub hl [3, 4, 5, 6, 7, 2, 1, 0] rfl)
abbrev w_X11_lineOf (cB cI cJ : ClassId) (a_this : Nat) (a_cards : Nat) (a_county : Nat) (a_holes : Nat) (a_text : Nat) (a_letter : Nat) (a_where : Nat) (a_rank : Nat) (a_value : Nat) (a_hour : Nat) (a_readLetter : Nat) (a_readWhere : Nat) (a_readRank : Nat) (a_readValue : Nat) (a_readHour : Nat) (a_listName : Nat) (a_listDay : Nat) (a_voterName : Nat) (a_voterDay : Nat) (a_voterCounty : Nat) (a_heaps : Nat) (a_speed : Nat) (a_four : Nat) (a_byRules : Nat) (a_hours : Nat) (a_rest : Nat) (a_yet : Nat) (a_put : Nat) (v_kept : Int32) (v_length : Int32) (v_items : Int32) (v_readItems : Int32) (v_at : Int32) (v_lists : Int32) (v_voters : Int32) (v_needed : Int32) (v_hour : Nat → Int32) (v_letter : Nat → Int32) (v_rank : Nat → Int32) (v_where : Nat → Int32) : va_W := [(a_this, .inr (11, [.ref a_cards, .ref a_county, .ref a_holes, .int v_kept, .int v_length, .ref a_text, .int v_items, .ref a_letter, .ref a_where, .ref a_rank, .ref a_value, .ref a_hour, .int v_readItems, .ref a_readLetter, .ref a_readWhere, .ref a_readRank, .ref a_readValue, .ref a_readHour, .int v_at, .int v_lists, .ref a_listName, .ref a_listDay, .int v_voters, .ref a_voterName, .ref a_voterDay, .ref a_voterCounty, .int v_needed, .ref a_heaps, .ref a_speed, .ref a_four, .ref a_byRules, .ref a_hours, .ref a_rest, .ref a_yet, .ref a_put])), (a_hour, .inl (cI, 40, .inl v_hour)), (a_letter, .inl (cI, 40, .inl v_letter)), (a_rank, .inl (cI, 40, .inl v_rank)), (a_where, .inl (cI, 40, .inl v_where))]
theorem hd_X11_lineOf : yX11_lineOf.cls = RX11 ∧ yX11_lineOf.cls ≠ "java/lang/invoke/MethodHandle" ∧ yX11_lineOf.cls ≠ "java/lang/invoke/VarHandle" ∧ (parseMethodDescriptor yX11_lineOf.desc).map (fun d => d.parameters.length) = some 3 := by decide +kernel
abbrev rm_X11_lineOf : Room := { frames := 0, cells := 0, slots := 0, locals := 0 }
theorem in_X11_lineOf_X11 : ∀ w ∈ wsX110, w ∈ wsX11_lineOf := fun w h => List.mem_cons_of_mem _ (List.mem_append_right _ h)
set_option maxHeartbeats 4000000 in
set_option maxRecDepth 100000 in
theorem c_X11_lineOf (l : Launch) (D : va_G) (cB cI cJ : ClassId) (N : Nat) (a_this : Nat) (a_cards : Nat) (a_county : Nat) (a_holes : Nat) (a_text : Nat) (a_letter : Nat) (a_where : Nat) (a_rank : Nat) (a_value : Nat) (a_hour : Nat) (a_readLetter : Nat) (a_readWhere : Nat) (a_readRank : Nat) (a_readValue : Nat) (a_readHour : Nat) (a_listName : Nat) (a_listDay : Nat) (a_voterName : Nat) (a_voterDay : Nat) (a_voterCounty : Nat) (a_heaps : Nat) (a_speed : Nat) (a_four : Nat) (a_byRules : Nat) (a_hours : Nat) (a_rest : Nat) (a_yet : Nat) (a_put : Nat) (v_kept : Int32) (v_length : Int32) (v_items : Int32) (v_readItems : Int32) (v_at : Int32) (v_lists : Int32) (v_voters : Int32) (v_needed : Int32) (v_hour : Nat → Int32) (v_letter : Nat → Int32) (v_rank : Nat → Int32) (v_where : Nat → Int32) (x1 : Int32) (x2 : Int32) (x3 : Int32) {r : Int32} (hf : f_X11_lineOf N v_items v_hour v_letter v_rank v_where x1 x2 x3 = some r) : MTi l yX11_lineOf wsX11_lineOf rm_X11_lineOf D (wk_T cB cI cJ) [.ref a_this, .int x1, .int x2, .int x3] (w_X11_lineOf cB cI cJ a_this a_cards a_county a_holes a_text a_letter a_where a_rank a_value a_hour a_readLetter a_readWhere a_readRank a_readValue a_readHour a_listName a_listDay a_voterName a_voterDay a_voterCounty a_heaps a_speed a_four a_byRules a_hours a_rest a_yet a_put v_kept v_length v_items v_readItems v_at v_lists v_voters v_needed v_hour v_letter v_rank v_where) (w_X11_lineOf cB cI cJ a_this a_cards a_county a_holes a_text a_letter a_where a_rank a_value a_hour a_readLetter a_readWhere a_readRank a_readValue a_readHour a_listName a_listDay a_voterName a_voterDay a_voterCounty a_heaps a_speed a_four a_byRules a_hours a_rest a_yet a_put v_kept v_length v_items v_readItems v_at v_lists v_voters v_needed v_hour v_letter v_rank v_where) r := by
  refine MTi.of (cc := cX11_lineOf) (nL := 7) (rt := .int) (own := RX11) pn_X11 rfl rfl (Nat.le_of_ble_eq_true rfl) rfl ?_
  intro p e s m args below meth c A ls Q C hP hD hS hl hret
  obtain ⟨hx, hb, hml, hts, hown, hK, hN, hA, hlk⟩ := id C
  have hl : lv_has ls 7 [(0, .ref a_this), (1, .int x1), (2, .int x2), (3, .int x3)] := hl
  have L7 := wk_loopI (F := (fun k7 : Int32 → Int32 → Int32 → Int32 → Int32 → Option Int32 => B_X11_lineOf_7 N v_items v_hour v_letter v_rank v_where k7)) (bot := fun _ _ _ _ _ => none) (fun k7 : Int32 → Int32 → Int32 → Int32 → Int32 → Option Int32 => ∀ (x1 : Int32) (x2 : Int32) (x3 : Int32) (x4 : Int32) (x5 : Int32), k7 x1 x2 x3 x4 x5 = some r → ∀ (H : Heap) (locs : List Loc) (ls : Array Slot), va_P D vwCl (w_X11_lineOf cB cI cJ a_this a_cards a_county a_holes a_text a_letter a_where a_rank a_value a_hour a_readLetter a_readWhere a_readRank a_readValue a_readHour a_listName a_listDay a_voterName a_voterDay a_voterCounty a_heaps a_speed a_four a_byRules a_hours a_rest a_yet a_put v_kept v_length v_items v_readItems v_at v_lists v_voters v_needed v_hour v_letter v_rank v_where) H → va_D A (w_X11_lineOf cB cI cJ a_this a_cards a_county a_holes a_text a_letter a_where a_rank a_value a_hour a_readLetter a_readWhere a_readRank a_readValue a_readHour a_listName a_listDay a_voterName a_voterDay a_voterCounty a_heaps a_speed a_four a_byRules a_hours a_rest a_yet a_put v_kept v_length v_items v_readItems v_at v_lists v_voters v_needed v_hour v_letter v_rank v_where) → va_S A s.heap H locs → lv_has ls 7 [(0, .ref a_this), (1, .int x1), (2, .int x2), (3, .int x3), (4, .int x4), (5, .int x5)] → W p l e rm_X11_lineOf s m args below meth c H locs 0 0 Q (F0 m 7 ls [])) (by intro x1 x2 x3 x4 x5 hf; exact wk_no hf) (by
    intro k7 ih7
    have J134 : ∀ (x1 : Int32) (x2 : Int32) (x3 : Int32) (x4 : Int32) (x5 : Int32) (s0 : Int32), B_X11_lineOf_134 N v_items v_hour v_letter v_rank v_where k7 x1 x2 x3 x4 x5 s0 = some r → ∀ (H : Heap) (locs : List Loc) (ls : Array Slot), va_P D vwCl (w_X11_lineOf cB cI cJ a_this a_cards a_county a_holes a_text a_letter a_where a_rank a_value a_hour a_readLetter a_readWhere a_readRank a_readValue a_readHour a_listName a_listDay a_voterName a_voterDay a_voterCounty a_heaps a_speed a_four a_byRules a_hours a_rest a_yet a_put v_kept v_length v_items v_readItems v_at v_lists v_voters v_needed v_hour v_letter v_rank v_where) H → va_D A (w_X11_lineOf cB cI cJ a_this a_cards a_county a_holes a_text a_letter a_where a_rank a_value a_hour a_readLetter a_readWhere a_readRank a_readValue a_readHour a_listName a_listDay a_voterName a_voterDay a_voterCounty a_heaps a_speed a_four a_byRules a_hours a_rest a_yet a_put v_kept v_length v_items v_readItems v_at v_lists v_voters v_needed v_hour v_letter v_rank v_where) → va_S A s.heap H locs → lv_has ls 7 [(0, .ref a_this), (1, .int x1), (2, .int x2), (3, .int x3), (4, .int x4), (5, .int x5)] → W p l e rm_X11_lineOf s m args below meth c H locs 0 0 Q (F0 m 134 ls [.int s0]) := by
      intro x1 x2 x3 x4 x5 s0 hf H locs ls hP hD hS hl
      unfold B_X11_lineOf_134 at hf
      refine lv_istore (lv' := [(6, .int s0), (0, .ref a_this), (1, .int x1), (2, .int x2), (3, .int x3), (4, .int x4), (5, .int x5)]) hx hb dX11_lineOf_134 hl (by decide) rfl (fun ls hl => ?_)
      refine lv_iload hx hb dX11_lineOf_136 (lv_at hl 0 rfl) ?_
      refine lv_if_eq (tgt := 146) hx hb dX11_lineOf_138 (by decide) (fun c1 => ?_) (fun c1 => ?_)
      · have hf := wk_itT hf c1
        refine lv_iload hx hb dX11_lineOf_146 (lv_at hl 6 rfl) ?_
        refine lv_istore (lv' := [(4, .int x5), (6, .int s0), (0, .ref a_this), (1, .int x1), (2, .int x2), (3, .int x3), (5, .int x5)]) hx hb dX11_lineOf_148 hl (by decide) rfl (fun ls hl => ?_)
        obtain ⟨y2, ey2⟩ : ∃ y : Int32, y = x5 + (1 : Int32) := ⟨_, rfl⟩
        have hf := wk_nmE hf ey2
        refine lv_iinc (v := y2) (lv' := [(5, .int y2), (4, .int x5), (6, .int s0), (0, .ref a_this), (1, .int x1), (2, .int x2), (3, .int x3)]) hx hb dX11_lineOf_150 hl (k := 6) rfl (by rw [ey2]; rfl) (by decide) rfl (fun ls hl => ?_)
        refine lv_goto (tgt := 7) hx hb dX11_lineOf_153 (by decide) ?_
        exact ih7 _ _ _ _ _ hf _ _ _ hP hD hS (lv_sub hl [3, 4, 5, 6, 1, 0] rfl)
      · have hf := wk_itF hf c1
        refine lv_iload hx hb dX11_lineOf_141 (lv_at hl 5 rfl) ?_
        refine lv_goto (tgt := 148) hx hb dX11_lineOf_143 (by decide) ?_
        refine lv_istore (lv' := [(4, .int x4), (6, .int s0), (0, .ref a_this), (1, .int x1), (2, .int x2), (3, .int x3), (5, .int x5)]) hx hb dX11_lineOf_148 hl (by decide) rfl (fun ls hl => ?_)
        obtain ⟨y3, ey3⟩ : ∃ y : Int32, y = x5 + (1 : Int32) := ⟨_, rfl⟩
        have hf := wk_nmE hf ey3
        refine lv_iinc (v := y3) (lv' := [(5, .int y3), (4, .int x4), (6, .int s0), (0, .ref a_this), (1, .int x1), (2, .int x2), (3, .int x3)]) hx hb dX11_lineOf_150 hl (k := 6) rfl (by rw [ey3]; rfl) (by decide) rfl (fun ls hl => ?_)
        refine lv_goto (tgt := 7) hx hb dX11_lineOf_153 (by decide) ?_
        exact ih7 _ _ _ _ _ hf _ _ _ hP hD hS (lv_sub hl [3, 4, 5, 6, 1, 0] rfl)
    have J68 : ∀ (x1 : Int32) (x2 : Int32) (x3 : Int32) (x4 : Int32) (x5 : Int32), B_X11_lineOf_68 N v_items v_hour v_letter v_rank v_where k7 x1 x2 x3 x4 x5 = some r → ∀ (H : Heap) (locs : List Loc) (ls : Array Slot), va_P D vwCl (w_X11_lineOf cB cI cJ a_this a_cards a_county a_holes a_text a_letter a_where a_rank a_value a_hour a_readLetter a_readWhere a_readRank a_readValue a_readHour a_listName a_listDay a_voterName a_voterDay a_voterCounty a_heaps a_speed a_four a_byRules a_hours a_rest a_yet a_put v_kept v_length v_items v_readItems v_at v_lists v_voters v_needed v_hour v_letter v_rank v_where) H → va_D A (w_X11_lineOf cB cI cJ a_this a_cards a_county a_holes a_text a_letter a_where a_rank a_value a_hour a_readLetter a_readWhere a_readRank a_readValue a_readHour a_listName a_listDay a_voterName a_voterDay a_voterCounty a_heaps a_speed a_four a_byRules a_hours a_rest a_yet a_put v_kept v_length v_items v_readItems v_at v_lists v_voters v_needed v_hour v_letter v_rank v_where) → va_S A s.heap H locs → lv_has ls 7 [(0, .ref a_this), (1, .int x1), (2, .int x2), (3, .int x3), (4, .int x4), (5, .int x5)] → W p l e rm_X11_lineOf s m args below meth c H locs 0 0 Q (F0 m 68 ls []) := by
      intro x1 x2 x3 x4 x5 hf H locs ls hP hD hS hl
      unfold B_X11_lineOf_68 at hf
      refine lv_iload_n hx hb dX11_lineOf_68 rfl (lv_at hl 1 rfl) ?_
      refine lv_iconst (v := (3 : Int32)) hx hb dX11_lineOf_69 (by decide) ?_
      refine lv_icmp_ne (tgt := 133) hx hb dX11_lineOf_70 (by decide) (fun c4 => ?_) (fun c4 => ?_)
      · have hf := wk_itF hf c4
        refine lv_iconst (v := (0 : Int32)) hx hb dX11_lineOf_133 (by decide) ?_
        exact J134 _ _ _ _ _ _ hf _ _ _ hP hD hS (lv_sub hl [0, 1, 2, 3, 4, 5] rfl)
      · have hf := wk_itT hf c4
        refine lv_iload hx hb dX11_lineOf_73 (lv_at hl 4 rfl) ?_
        refine lv_if_lt (tgt := 133) hx hb dX11_lineOf_75 (by decide) (fun c5 => ?_) (fun c5 => ?_)
        · have hf := wk_itT hf c5
          refine lv_iconst (v := (0 : Int32)) hx hb dX11_lineOf_133 (by decide) ?_
          exact J134 _ _ _ _ _ _ hf _ _ _ hP hD hS (lv_sub hl [0, 1, 2, 3, 4, 5] rfl)
        · have hf := wk_itF hf c5
          refine lv_aload_n hx hb dX11_lineOf_78 rfl (lv_at hl 0 rfl) ?_
          refine va_get (D := D) (ci := 11) (v := .ref a_rank) (C := RX11) (T := TX11) (N := 35) hx hb hts in_X11_lineOf_X11 hown hK hP 0 rfl rfl 9 (by decide) (hts (.fieldLink RX11 29 "HangingCardsModel" "rank" "[I") (List.mem_of_getElem? (i := 5) rfl)) (fun _ h9 => h9) rfl dX11_lineOf_79 ?_
          refine lv_iload hx hb dX11_lineOf_82 (lv_at hl 5 rfl) ?_
          obtain ⟨hi6, hf⟩ := wk_ckE hf
          refine va_iald hx hb hK hP 3 0 rfl rfl hi6 dX11_lineOf_84 ?_
          refine lv_aload_n hx hb dX11_lineOf_85 rfl (lv_at hl 0 rfl) ?_
          refine va_get (D := D) (ci := 11) (v := .ref a_rank) (C := RX11) (T := TX11) (N := 35) hx hb hts in_X11_lineOf_X11 hown hK hP 0 rfl rfl 9 (by decide) (hts (.fieldLink RX11 29 "HangingCardsModel" "rank" "[I") (List.mem_of_getElem? (i := 5) rfl)) (fun _ h9 => h9) rfl dX11_lineOf_86 ?_
          refine lv_iload hx hb dX11_lineOf_89 (lv_at hl 4 rfl) ?_
          obtain ⟨hi7, hf⟩ := wk_ckE hf
          refine va_iald hx hb hK hP 3 0 rfl rfl hi7 dX11_lineOf_91 ?_
          refine lv_icmp_lt (tgt := 129) hx hb dX11_lineOf_92 (by decide) (fun c8 => ?_) (fun c8 => ?_)
          · have hf := wk_itT hf c8
            refine lv_iconst (v := (1 : Int32)) hx hb dX11_lineOf_129 (by decide) ?_
            refine lv_goto (tgt := 134) hx hb dX11_lineOf_130 (by decide) ?_
            exact J134 _ _ _ _ _ _ hf _ _ _ hP hD hS (lv_sub hl [0, 1, 2, 3, 4, 5] rfl)
          · have hf := wk_itF hf c8
            refine lv_aload_n hx hb dX11_lineOf_95 rfl (lv_at hl 0 rfl) ?_
            refine va_get (D := D) (ci := 11) (v := .ref a_rank) (C := RX11) (T := TX11) (N := 35) hx hb hts in_X11_lineOf_X11 hown hK hP 0 rfl rfl 9 (by decide) (hts (.fieldLink RX11 29 "HangingCardsModel" "rank" "[I") (List.mem_of_getElem? (i := 5) rfl)) (fun _ h9 => h9) rfl dX11_lineOf_96 ?_
            refine lv_iload hx hb dX11_lineOf_99 (lv_at hl 5 rfl) ?_
            obtain ⟨hi9, hf⟩ := wk_ckE hf
            refine va_iald hx hb hK hP 3 0 rfl rfl hi9 dX11_lineOf_101 ?_
            refine lv_aload_n hx hb dX11_lineOf_102 rfl (lv_at hl 0 rfl) ?_
            refine va_get (D := D) (ci := 11) (v := .ref a_rank) (C := RX11) (T := TX11) (N := 35) hx hb hts in_X11_lineOf_X11 hown hK hP 0 rfl rfl 9 (by decide) (hts (.fieldLink RX11 29 "HangingCardsModel" "rank" "[I") (List.mem_of_getElem? (i := 5) rfl)) (fun _ h9 => h9) rfl dX11_lineOf_103 ?_
            refine lv_iload hx hb dX11_lineOf_106 (lv_at hl 4 rfl) ?_
            obtain ⟨hi10, hf⟩ := wk_ckE hf
            refine va_iald hx hb hK hP 3 0 rfl rfl hi10 dX11_lineOf_108 ?_
            refine lv_icmp_ne (tgt := 133) hx hb dX11_lineOf_109 (by decide) (fun c11 => ?_) (fun c11 => ?_)
            · have hf := wk_itF hf c11
              refine lv_iconst (v := (0 : Int32)) hx hb dX11_lineOf_133 (by decide) ?_
              exact J134 _ _ _ _ _ _ hf _ _ _ hP hD hS (lv_sub hl [0, 1, 2, 3, 4, 5] rfl)
            · have hf := wk_itT hf c11
              refine lv_aload_n hx hb dX11_lineOf_112 rfl (lv_at hl 0 rfl) ?_
              refine va_get (D := D) (ci := 11) (v := .ref a_hour) (C := RX11) (T := TX11) (N := 35) hx hb hts in_X11_lineOf_X11 hown hK hP 0 rfl rfl 11 (by decide) (hts (.fieldLink RX11 35 "HangingCardsModel" "hour" "[I") (List.mem_of_getElem? (i := 3) rfl)) (fun _ h9 => h9) rfl dX11_lineOf_113 ?_
              refine lv_iload hx hb dX11_lineOf_116 (lv_at hl 5 rfl) ?_
              obtain ⟨hi12, hf⟩ := wk_ckE hf
              refine va_iald hx hb hK hP 1 0 rfl rfl hi12 dX11_lineOf_118 ?_
              refine lv_aload_n hx hb dX11_lineOf_119 rfl (lv_at hl 0 rfl) ?_
              refine va_get (D := D) (ci := 11) (v := .ref a_hour) (C := RX11) (T := TX11) (N := 35) hx hb hts in_X11_lineOf_X11 hown hK hP 0 rfl rfl 11 (by decide) (hts (.fieldLink RX11 35 "HangingCardsModel" "hour" "[I") (List.mem_of_getElem? (i := 3) rfl)) (fun _ h9 => h9) rfl dX11_lineOf_120 ?_
              refine lv_iload hx hb dX11_lineOf_123 (lv_at hl 4 rfl) ?_
              obtain ⟨hi13, hf⟩ := wk_ckE hf
              refine va_iald hx hb hK hP 1 0 rfl rfl hi13 dX11_lineOf_125 ?_
              refine lv_icmp_ge (tgt := 133) hx hb dX11_lineOf_126 (by decide) (fun c14 => ?_) (fun c14 => ?_)
              · have hf := wk_itT hf c14
                refine lv_iconst (v := (0 : Int32)) hx hb dX11_lineOf_133 (by decide) ?_
                exact J134 _ _ _ _ _ _ hf _ _ _ hP hD hS (lv_sub hl [0, 1, 2, 3, 4, 5] rfl)
              · have hf := wk_itF hf c14
                refine lv_iconst (v := (1 : Int32)) hx hb dX11_lineOf_129 (by decide) ?_
                refine lv_goto (tgt := 134) hx hb dX11_lineOf_130 (by decide) ?_
                exact J134 _ _ _ _ _ _ hf _ _ _ hP hD hS (lv_sub hl [0, 1, 2, 3, 4, 5] rfl)
    intro x1 x2 x3 x4 x5 hf H locs ls hP hD hS hl
    have hf : B_X11_lineOf_7 N v_items v_hour v_letter v_rank v_where k7 x1 x2 x3 x4 x5 = some r := hf
    unfold B_X11_lineOf_7 at hf
    refine lv_iload hx hb dX11_lineOf_7 (lv_at hl 5 rfl) ?_
    refine lv_aload_n hx hb dX11_lineOf_9 rfl (lv_at hl 0 rfl) ?_
    refine va_get (D := D) (ci := 11) (v := .int v_items) (C := RX11) (T := TX11) (N := 35) hx hb hts in_X11_lineOf_X11 hown hK hP 0 rfl rfl 6 (by decide) (hts (.fieldLink RX11 171 "HangingCardsModel" "items" "I") (List.mem_of_getElem? (i := 1) rfl)) (fun _ h9 => h9) rfl dX11_lineOf_10 ?_
    refine lv_icmp_ge (tgt := 156) hx hb dX11_lineOf_13 (by decide) (fun c15 => ?_) (fun c15 => ?_)
    · have hf := wk_itT hf c15
      refine lv_iload hx hb dX11_lineOf_156 (lv_at hl 4 rfl) ?_
      exact hret _ _ _ _ _ _ dX11_lineOf_158 (wk_rt hf (fun z => z)) rfl hP hD hS
    · have hf := wk_itF hf c15
      refine lv_aload_n hx hb dX11_lineOf_16 rfl (lv_at hl 0 rfl) ?_
      refine va_get (D := D) (ci := 11) (v := .ref a_letter) (C := RX11) (T := TX11) (N := 35) hx hb hts in_X11_lineOf_X11 hown hK hP 0 rfl rfl 7 (by decide) (hts (.fieldLink RX11 23 "HangingCardsModel" "letter" "[I") (List.mem_of_getElem? (i := 2) rfl)) (fun _ h9 => h9) rfl dX11_lineOf_17 ?_
      refine lv_iload hx hb dX11_lineOf_20 (lv_at hl 5 rfl) ?_
      obtain ⟨hi16, hf⟩ := wk_ckE hf
      refine va_iald hx hb hK hP 2 0 rfl rfl hi16 dX11_lineOf_22 ?_
      refine lv_iload_n hx hb dX11_lineOf_23 rfl (lv_at hl 1 rfl) ?_
      refine lv_icmp_ne (tgt := 150) hx hb dX11_lineOf_24 (by decide) (fun c17 => ?_) (fun c17 => ?_)
      · have hf := wk_itF hf c17
        obtain ⟨y18, ey18⟩ : ∃ y : Int32, y = x5 + (1 : Int32) := ⟨_, rfl⟩
        have hf := wk_nmE hf ey18
        refine lv_iinc (v := y18) (lv' := [(5, .int y18), (0, .ref a_this), (1, .int x1), (2, .int x2), (3, .int x3), (4, .int x4)]) hx hb dX11_lineOf_150 hl (k := 5) rfl (by rw [ey18]; rfl) (by decide) rfl (fun ls hl => ?_)
        refine lv_goto (tgt := 7) hx hb dX11_lineOf_153 (by decide) ?_
        exact ih7 _ _ _ _ _ hf _ _ _ hP hD hS (lv_sub hl [1, 2, 3, 4, 5, 0] rfl)
      · have hf := wk_itT hf c17
        refine lv_aload_n hx hb dX11_lineOf_27 rfl (lv_at hl 0 rfl) ?_
        refine va_get (D := D) (ci := 11) (v := .ref a_hour) (C := RX11) (T := TX11) (N := 35) hx hb hts in_X11_lineOf_X11 hown hK hP 0 rfl rfl 11 (by decide) (hts (.fieldLink RX11 35 "HangingCardsModel" "hour" "[I") (List.mem_of_getElem? (i := 3) rfl)) (fun _ h9 => h9) rfl dX11_lineOf_28 ?_
        refine lv_iload hx hb dX11_lineOf_31 (lv_at hl 5 rfl) ?_
        obtain ⟨hi19, hf⟩ := wk_ckE hf
        refine va_iald hx hb hK hP 1 0 rfl rfl hi19 dX11_lineOf_33 ?_
        refine lv_iload_n hx hb dX11_lineOf_34 rfl (lv_at hl 3 rfl) ?_
        refine lv_icmp_gt (tgt := 150) hx hb dX11_lineOf_35 (by decide) (fun c20 => ?_) (fun c20 => ?_)
        · have hf := wk_itT hf c20
          obtain ⟨y21, ey21⟩ : ∃ y : Int32, y = x5 + (1 : Int32) := ⟨_, rfl⟩
          have hf := wk_nmE hf ey21
          refine lv_iinc (v := y21) (lv' := [(5, .int y21), (0, .ref a_this), (1, .int x1), (2, .int x2), (3, .int x3), (4, .int x4)]) hx hb dX11_lineOf_150 hl (k := 5) rfl (by rw [ey21]; rfl) (by decide) rfl (fun ls hl => ?_)
          refine lv_goto (tgt := 7) hx hb dX11_lineOf_153 (by decide) ?_
          exact ih7 _ _ _ _ _ hf _ _ _ hP hD hS (lv_sub hl [1, 2, 3, 4, 5, 0] rfl)
        · have hf := wk_itF hf c20
          refine lv_iload_n hx hb dX11_lineOf_38 rfl (lv_at hl 1 rfl) ?_
          refine lv_iconst (v := (2 : Int32)) hx hb dX11_lineOf_39 (by decide) ?_
          refine lv_icmp_eq (tgt := 68) hx hb dX11_lineOf_40 (by decide) (fun c22 => ?_) (fun c22 => ?_)
          · have hf := wk_itT hf c22
            exact J68 _ _ _ _ _ hf _ _ _ hP hD hS (lv_sub hl [0, 1, 2, 3, 4, 5] rfl)
          · have hf := wk_itF hf c22
            refine lv_aload_n hx hb dX11_lineOf_43 rfl (lv_at hl 0 rfl) ?_
            refine va_get (D := D) (ci := 11) (v := .ref a_where) (C := RX11) (T := TX11) (N := 35) hx hb hts in_X11_lineOf_X11 hown hK hP 0 rfl rfl 8 (by decide) (hts (.fieldLink RX11 26 "HangingCardsModel" "where" "[I") (List.mem_of_getElem? (i := 4) rfl)) (fun _ h9 => h9) rfl dX11_lineOf_44 ?_
            refine lv_iload hx hb dX11_lineOf_47 (lv_at hl 5 rfl) ?_
            obtain ⟨hi23, hf⟩ := wk_ckE hf
            refine va_iald hx hb hK hP 4 0 rfl rfl hi23 dX11_lineOf_49 ?_
            refine lv_iconst (v := (5 : Int32)) hx hb dX11_lineOf_50 (by decide) ?_
            refine lv_icmp_eq (tgt := 68) hx hb dX11_lineOf_51 (by decide) (fun c24 => ?_) (fun c24 => ?_)
            · have hf := wk_itT hf c24
              exact J68 _ _ _ _ _ hf _ _ _ hP hD hS (lv_sub hl [0, 1, 2, 3, 4, 5] rfl)
            · have hf := wk_itF hf c24
              refine lv_aload_n hx hb dX11_lineOf_54 rfl (lv_at hl 0 rfl) ?_
              refine va_get (D := D) (ci := 11) (v := .ref a_where) (C := RX11) (T := TX11) (N := 35) hx hb hts in_X11_lineOf_X11 hown hK hP 0 rfl rfl 8 (by decide) (hts (.fieldLink RX11 26 "HangingCardsModel" "where" "[I") (List.mem_of_getElem? (i := 4) rfl)) (fun _ h9 => h9) rfl dX11_lineOf_55 ?_
              refine lv_iload hx hb dX11_lineOf_58 (lv_at hl 5 rfl) ?_
              obtain ⟨hi25, hf⟩ := wk_ckE hf
              refine va_iald hx hb hK hP 4 0 rfl rfl hi25 dX11_lineOf_60 ?_
              refine lv_iload_n hx hb dX11_lineOf_61 rfl (lv_at hl 2 rfl) ?_
              refine lv_icmp_eq (tgt := 68) hx hb dX11_lineOf_62 (by decide) (fun c26 => ?_) (fun c26 => ?_)
              · have hf := wk_itT hf c26
                exact J68 _ _ _ _ _ hf _ _ _ hP hD hS (lv_sub hl [0, 1, 2, 3, 4, 5] rfl)
              · have hf := wk_itF hf c26
                refine lv_goto (tgt := 150) hx hb dX11_lineOf_65 (by decide) ?_
                obtain ⟨y27, ey27⟩ : ∃ y : Int32, y = x5 + (1 : Int32) := ⟨_, rfl⟩
                have hf := wk_nmE hf ey27
                refine lv_iinc (v := y27) (lv' := [(5, .int y27), (0, .ref a_this), (1, .int x1), (2, .int x2), (3, .int x3), (4, .int x4)]) hx hb dX11_lineOf_150 hl (k := 5) rfl (by rw [ey27]; rfl) (by decide) rfl (fun ls hl => ?_)
                refine lv_goto (tgt := 7) hx hb dX11_lineOf_153 (by decide) ?_
                exact ih7 _ _ _ _ _ hf _ _ _ hP hD hS (lv_sub hl [1, 2, 3, 4, 5, 0] rfl))
  unfold f_X11_lineOf at hf
  refine lv_bipush (v := (-4 : Int32)) hx hb dX11_lineOf_0 (by decide) ?_
  refine lv_istore (lv' := [(4, .int (-4 : Int32)), (0, .ref a_this), (1, .int x1), (2, .int x2), (3, .int x3)]) hx hb dX11_lineOf_2 hl (by decide) rfl (fun ls hl => ?_)
  refine lv_iconst (v := (0 : Int32)) hx hb dX11_lineOf_4 (by decide) ?_
  refine lv_istore (lv' := [(5, .int (0 : Int32)), (4, .int (-4 : Int32)), (0, .ref a_this), (1, .int x1), (2, .int x2), (3, .int x3)]) hx hb dX11_lineOf_5 hl (by decide) rfl (fun ls hl => ?_)
  exact L7 N _ _ _ _ _ hf _ _ _ hP hD hS (lv_sub hl [2, 3, 4, 5, 1, 0] rfl)
abbrev w_X11_ruleOf (cB cI cJ : ClassId) (a_this : Nat) (a_cards : Nat) (a_county : Nat) (a_holes : Nat) (a_text : Nat) (a_letter : Nat) (a_where : Nat) (a_rank : Nat) (a_value : Nat) (a_hour : Nat) (a_readLetter : Nat) (a_readWhere : Nat) (a_readRank : Nat) (a_readValue : Nat) (a_readHour : Nat) (a_listName : Nat) (a_listDay : Nat) (a_voterName : Nat) (a_voterDay : Nat) (a_voterCounty : Nat) (a_heaps : Nat) (a_speed : Nat) (a_four : Nat) (a_byRules : Nat) (a_hours : Nat) (a_rest : Nat) (a_yet : Nat) (a_put : Nat) (v_kept : Int32) (v_length : Int32) (v_items : Int32) (v_readItems : Int32) (v_at : Int32) (v_lists : Int32) (v_voters : Int32) (v_needed : Int32) (v_hour : Nat → Int32) (v_letter : Nat → Int32) (v_rank : Nat → Int32) (v_value : Nat → Int32) (v_where : Nat → Int32) : va_W := [(a_this, .inr (11, [.ref a_cards, .ref a_county, .ref a_holes, .int v_kept, .int v_length, .ref a_text, .int v_items, .ref a_letter, .ref a_where, .ref a_rank, .ref a_value, .ref a_hour, .int v_readItems, .ref a_readLetter, .ref a_readWhere, .ref a_readRank, .ref a_readValue, .ref a_readHour, .int v_at, .int v_lists, .ref a_listName, .ref a_listDay, .int v_voters, .ref a_voterName, .ref a_voterDay, .ref a_voterCounty, .int v_needed, .ref a_heaps, .ref a_speed, .ref a_four, .ref a_byRules, .ref a_hours, .ref a_rest, .ref a_yet, .ref a_put])), (a_hour, .inl (cI, 40, .inl v_hour)), (a_letter, .inl (cI, 40, .inl v_letter)), (a_rank, .inl (cI, 40, .inl v_rank)), (a_value, .inl (cI, 40, .inl v_value)), (a_where, .inl (cI, 40, .inl v_where))]
theorem hd_X11_ruleOf : yX11_ruleOf.cls = RX11 ∧ yX11_ruleOf.cls ≠ "java/lang/invoke/MethodHandle" ∧ yX11_ruleOf.cls ≠ "java/lang/invoke/VarHandle" ∧ (parseMethodDescriptor yX11_ruleOf.desc).map (fun d => d.parameters.length) = some 3 := by decide +kernel
abbrev rm_X11_ruleOf : Room := { frames := 1, cells := 0, slots := 0, locals := 26 }
theorem in_X11_ruleOf_X11 : ∀ w ∈ wsX110, w ∈ wsX11_ruleOf := fun w h => List.mem_cons_of_mem _ (List.mem_append_right _ h)
set_option maxHeartbeats 4000000 in
set_option maxRecDepth 100000 in
theorem c_X11_ruleOf (l : Launch) (D : va_G) (cB cI cJ : ClassId) (N : Nat) (a_this : Nat) (a_cards : Nat) (a_county : Nat) (a_holes : Nat) (a_text : Nat) (a_letter : Nat) (a_where : Nat) (a_rank : Nat) (a_value : Nat) (a_hour : Nat) (a_readLetter : Nat) (a_readWhere : Nat) (a_readRank : Nat) (a_readValue : Nat) (a_readHour : Nat) (a_listName : Nat) (a_listDay : Nat) (a_voterName : Nat) (a_voterDay : Nat) (a_voterCounty : Nat) (a_heaps : Nat) (a_speed : Nat) (a_four : Nat) (a_byRules : Nat) (a_hours : Nat) (a_rest : Nat) (a_yet : Nat) (a_put : Nat) (v_kept : Int32) (v_length : Int32) (v_items : Int32) (v_readItems : Int32) (v_at : Int32) (v_lists : Int32) (v_voters : Int32) (v_needed : Int32) (v_hour : Nat → Int32) (v_letter : Nat → Int32) (v_rank : Nat → Int32) (v_value : Nat → Int32) (v_where : Nat → Int32) (x1 : Int32) (x2 : Int32) (x3 : Int32) {r : Int32} (hf : f_X11_ruleOf N v_items v_hour v_letter v_rank v_value v_where x1 x2 x3 = some r) : MTi l yX11_ruleOf wsX11_ruleOf rm_X11_ruleOf D (wk_T cB cI cJ) [.ref a_this, .int x1, .int x2, .int x3] (w_X11_ruleOf cB cI cJ a_this a_cards a_county a_holes a_text a_letter a_where a_rank a_value a_hour a_readLetter a_readWhere a_readRank a_readValue a_readHour a_listName a_listDay a_voterName a_voterDay a_voterCounty a_heaps a_speed a_four a_byRules a_hours a_rest a_yet a_put v_kept v_length v_items v_readItems v_at v_lists v_voters v_needed v_hour v_letter v_rank v_value v_where) (w_X11_ruleOf cB cI cJ a_this a_cards a_county a_holes a_text a_letter a_where a_rank a_value a_hour a_readLetter a_readWhere a_readRank a_readValue a_readHour a_listName a_listDay a_voterName a_voterDay a_voterCounty a_heaps a_speed a_four a_byRules a_hours a_rest a_yet a_put v_kept v_length v_items v_readItems v_at v_lists v_voters v_needed v_hour v_letter v_rank v_value v_where) r := by
  refine MTi.of (cc := cX11_ruleOf) (nL := 5) (rt := .int) (own := RX11) pn_X11 rfl rfl (Nat.le_of_ble_eq_true rfl) rfl ?_
  intro p e s m args below meth c A ls Q C hP hD hS hl hret
  obtain ⟨hx, hb, hml, hts, hown, hK, hN, hA, hlk⟩ := id C
  have hl : lv_has ls 5 [(0, .ref a_this), (1, .int x1), (2, .int x2), (3, .int x3)] := hl
  unfold f_X11_ruleOf at hf
  refine lv_aload_n hx hb dX11_ruleOf_0 rfl (lv_at hl 0 rfl) ?_
  refine lv_iload_n hx hb dX11_ruleOf_1 rfl (lv_at hl 1 rfl) ?_
  refine lv_iload_n hx hb dX11_ruleOf_2 rfl (lv_at hl 2 rfl) ?_
  refine lv_iload_n hx hb dX11_ruleOf_3 rfl (lv_at hl 3 rfl) ?_
  obtain ⟨r1, hc1, hf⟩ := wk_b1E hf
  refine wk_callVi2 C hP hD hS (c_X11_lineOf l D cB cI cJ N a_this a_cards a_county a_holes a_text a_letter a_where a_rank a_value a_hour a_readLetter a_readWhere a_readRank a_readValue a_readHour a_listName a_listDay a_voterName a_voterDay a_voterCounty a_heaps a_speed a_four a_byRules a_hours a_rest a_yet a_put v_kept v_length v_items v_readItems v_at v_lists v_voters v_needed v_hour v_letter v_rank v_where x1 x2 x3 hc1) (cwV 3 hts gX11_ruleOf_X11_lineOf rfl rfl rfl hd_X11_lineOf ⟨Nat.le_of_ble_eq_true rfl, Nat.le_of_ble_eq_true rfl⟩) hl.1 ⟨Nat.zero_le _, Nat.zero_le _⟩ [0, 1, 2, 3, 5] [4] 6 (by decide +kernel) rfl (Wn := w_X11_ruleOf cB cI cJ a_this a_cards a_county a_holes a_text a_letter a_where a_rank a_value a_hour a_readLetter a_readWhere a_readRank a_readValue a_readHour a_listName a_listDay a_voterName a_voterDay a_voterCounty a_heaps a_speed a_four a_byRules a_hours a_rest a_yet a_put v_kept v_length v_items v_readItems v_at v_lists v_voters v_needed v_hour v_letter v_rank v_value v_where) rfl rfl rfl rfl rfl rfl (ci := 11) rfl rfl (q0 := 0) rfl rfl rfl (Nat.le_of_ble_eq_true rfl) dX11_ruleOf_4 (fun H locs hP hD hS => ?_)
  refine lv_istore (lv' := [(4, .int r1), (0, .ref a_this), (1, .int x1), (2, .int x2), (3, .int x3)]) hx hb dX11_ruleOf_7 hl (by decide) rfl (fun ls hl => ?_)
  refine lv_iload hx hb dX11_ruleOf_9 (lv_at hl 0 rfl) ?_
  refine lv_if_lt (tgt := 24) hx hb dX11_ruleOf_11 (by decide) (fun c2 => ?_) (fun c2 => ?_)
  · have hf := wk_itT hf c2
    refine lv_iload_n hx hb dX11_ruleOf_24 rfl (lv_at hl 2 rfl) ?_
    refine lv_if_ne (tgt := 32) hx hb dX11_ruleOf_25 (by decide) (fun c3 => ?_) (fun c3 => ?_)
    · have hf := wk_itF hf c3
      refine lv_iload_n hx hb dX11_ruleOf_32 rfl (lv_at hl 2 rfl) ?_
      refine lv_iconst (v := (1 : Int32)) hx hb dX11_ruleOf_33 (by decide) ?_
      refine lv_icmp_ne (tgt := 41) hx hb dX11_ruleOf_34 (by decide) (fun c4 => ?_) (fun c4 => ?_)
      · have hf := wk_itF hf c4
        refine lv_iload_n hx hb dX11_ruleOf_41 rfl (lv_at hl 2 rfl) ?_
        refine lv_iconst (v := (2 : Int32)) hx hb dX11_ruleOf_42 (by decide) ?_
        refine lv_icmp_ne (tgt := 50) hx hb dX11_ruleOf_43 (by decide) (fun c5 => ?_) (fun c5 => ?_)
        · have hf := wk_itF hf c5
          refine lv_iconst (v := (1 : Int32)) hx hb dX11_ruleOf_50 (by decide) ?_
          exact hret _ _ _ _ _ _ dX11_ruleOf_51 (wk_rt hf (fun z => z)) rfl hP hD hS
        · have hf := wk_itT hf c5
          refine lv_iconst (v := (4 : Int32)) hx hb dX11_ruleOf_46 (by decide) ?_
          refine lv_goto (tgt := 51) hx hb dX11_ruleOf_47 (by decide) ?_
          exact hret _ _ _ _ _ _ dX11_ruleOf_51 (wk_rt hf (fun z => z)) rfl hP hD hS
      · have hf := wk_itT hf c4
        refine lv_iconst (v := (0 : Int32)) hx hb dX11_ruleOf_37 (by decide) ?_
        refine lv_goto (tgt := 51) hx hb dX11_ruleOf_38 (by decide) ?_
        exact hret _ _ _ _ _ _ dX11_ruleOf_51 (wk_rt hf (fun z => z)) rfl hP hD hS
    · have hf := wk_itT hf c3
      refine lv_iconst (v := (5 : Int32)) hx hb dX11_ruleOf_28 (by decide) ?_
      refine lv_goto (tgt := 51) hx hb dX11_ruleOf_29 (by decide) ?_
      exact hret _ _ _ _ _ _ dX11_ruleOf_51 (wk_rt hf (fun z => z)) rfl hP hD hS
  · have hf := wk_itF hf c2
    refine lv_aload_n hx hb dX11_ruleOf_14 rfl (lv_at hl 1 rfl) ?_
    refine va_get (D := D) (ci := 11) (v := .ref a_value) (C := RX11) (T := TX11) (N := 35) hx hb hts in_X11_ruleOf_X11 hown hK hP 0 rfl rfl 10 (by decide) (hts (.fieldLink RX11 32 "HangingCardsModel" "value" "[I") (List.mem_of_getElem? (i := 1) rfl)) (fun _ h9 => h9) rfl dX11_ruleOf_15 ?_
    refine lv_iload hx hb dX11_ruleOf_18 (lv_at hl 0 rfl) ?_
    obtain ⟨hi6, hf⟩ := wk_ckE hf
    refine va_iald hx hb hK hP 4 0 rfl rfl hi6 dX11_ruleOf_20 ?_
    refine lv_goto (tgt := 51) hx hb dX11_ruleOf_21 (by decide) ?_
    exact hret _ _ _ _ _ _ dX11_ruleOf_51 (wk_rt hf (fun z => z)) rfl hP hD hS
abbrev w_X11_voteOf (cB cI cJ : ClassId) (a_this : Nat) (a_cards : Nat) (a_county : Nat) (a_holes : Nat) (a_text : Nat) (a_letter : Nat) (a_where : Nat) (a_rank : Nat) (a_value : Nat) (a_hour : Nat) (a_readLetter : Nat) (a_readWhere : Nat) (a_readRank : Nat) (a_readValue : Nat) (a_readHour : Nat) (a_listName : Nat) (a_listDay : Nat) (a_voterName : Nat) (a_voterDay : Nat) (a_voterCounty : Nat) (a_heaps : Nat) (a_speed : Nat) (a_four : Nat) (a_byRules : Nat) (a_hours : Nat) (a_rest : Nat) (a_yet : Nat) (a_put : Nat) (v_kept : Int32) (v_length : Int32) (v_items : Int32) (v_readItems : Int32) (v_at : Int32) (v_lists : Int32) (v_voters : Int32) (v_needed : Int32) (v_county : Nat → Int32) (v_holes : Nat → Int32) (v_hour : Nat → Int32) (v_letter : Nat → Int32) (v_rank : Nat → Int32) (v_value : Nat → Int32) (v_where : Nat → Int32) : va_W := [(a_this, .inr (11, [.ref a_cards, .ref a_county, .ref a_holes, .int v_kept, .int v_length, .ref a_text, .int v_items, .ref a_letter, .ref a_where, .ref a_rank, .ref a_value, .ref a_hour, .int v_readItems, .ref a_readLetter, .ref a_readWhere, .ref a_readRank, .ref a_readValue, .ref a_readHour, .int v_at, .int v_lists, .ref a_listName, .ref a_listDay, .int v_voters, .ref a_voterName, .ref a_voterDay, .ref a_voterCounty, .int v_needed, .ref a_heaps, .ref a_speed, .ref a_four, .ref a_byRules, .ref a_hours, .ref a_rest, .ref a_yet, .ref a_put])), (a_county, .inl (cI, 120, .inl v_county)), (a_holes, .inl (cI, 1440, .inl v_holes)), (a_hour, .inl (cI, 40, .inl v_hour)), (a_letter, .inl (cI, 40, .inl v_letter)), (a_rank, .inl (cI, 40, .inl v_rank)), (a_value, .inl (cI, 40, .inl v_value)), (a_where, .inl (cI, 40, .inl v_where))]
theorem hd_X11_voteOf : yX11_voteOf.cls = RX11 ∧ yX11_voteOf.cls ≠ "java/lang/invoke/MethodHandle" ∧ yX11_voteOf.cls ≠ "java/lang/invoke/VarHandle" ∧ (parseMethodDescriptor yX11_voteOf.desc).map (fun d => d.parameters.length) = some 4 := by decide +kernel
abbrev rm_X11_voteOf : Room := { frames := 2, cells := 0, slots := 0, locals := 50 }
theorem in_X11_voteOf_X11 : ∀ w ∈ wsX110, w ∈ wsX11_voteOf := fun w h => List.mem_cons_of_mem _ (List.mem_append_right _ h)
set_option maxHeartbeats 4000000 in
set_option maxRecDepth 100000 in
theorem c_X11_voteOf (l : Launch) (D : va_G) (cB cI cJ : ClassId) (N : Nat) (a_this : Nat) (a_cards : Nat) (a_county : Nat) (a_holes : Nat) (a_text : Nat) (a_letter : Nat) (a_where : Nat) (a_rank : Nat) (a_value : Nat) (a_hour : Nat) (a_readLetter : Nat) (a_readWhere : Nat) (a_readRank : Nat) (a_readValue : Nat) (a_readHour : Nat) (a_listName : Nat) (a_listDay : Nat) (a_voterName : Nat) (a_voterDay : Nat) (a_voterCounty : Nat) (a_heaps : Nat) (a_speed : Nat) (a_four : Nat) (a_byRules : Nat) (a_hours : Nat) (a_rest : Nat) (a_yet : Nat) (a_put : Nat) (v_kept : Int32) (v_length : Int32) (v_items : Int32) (v_readItems : Int32) (v_at : Int32) (v_lists : Int32) (v_voters : Int32) (v_needed : Int32) (v_county : Nat → Int32) (v_holes : Nat → Int32) (v_hour : Nat → Int32) (v_letter : Nat → Int32) (v_rank : Nat → Int32) (v_value : Nat → Int32) (v_where : Nat → Int32) (x1 : Int32) (x2 : Int32) (x3 : Int32) (x4 : Int32) {r : Int32} (hf : f_X11_voteOf N v_items v_county v_holes v_hour v_letter v_rank v_value v_where x1 x2 x3 x4 = some r) : MTi l yX11_voteOf wsX11_voteOf rm_X11_voteOf D (wk_T cB cI cJ) [.ref a_this, .int x1, .int x2, .int x3, .int x4] (w_X11_voteOf cB cI cJ a_this a_cards a_county a_holes a_text a_letter a_where a_rank a_value a_hour a_readLetter a_readWhere a_readRank a_readValue a_readHour a_listName a_listDay a_voterName a_voterDay a_voterCounty a_heaps a_speed a_four a_byRules a_hours a_rest a_yet a_put v_kept v_length v_items v_readItems v_at v_lists v_voters v_needed v_county v_holes v_hour v_letter v_rank v_value v_where) (w_X11_voteOf cB cI cJ a_this a_cards a_county a_holes a_text a_letter a_where a_rank a_value a_hour a_readLetter a_readWhere a_readRank a_readValue a_readHour a_listName a_listDay a_voterName a_voterDay a_voterCounty a_heaps a_speed a_four a_byRules a_hours a_rest a_yet a_put v_kept v_length v_items v_readItems v_at v_lists v_voters v_needed v_county v_holes v_hour v_letter v_rank v_value v_where) r := by
  refine MTi.of (cc := cX11_voteOf) (nL := 7) (rt := .int) (own := RX11) pn_X11 rfl rfl (Nat.le_of_ble_eq_true rfl) rfl ?_
  intro p e s m args below meth c A ls Q C hP hD hS hl hret
  obtain ⟨hx, hb, hml, hts, hown, hK, hN, hA, hlk⟩ := id C
  have hl : lv_has ls 7 [(0, .ref a_this), (1, .int x1), (2, .int x2), (3, .int x3), (4, .int x4)] := hl
  have J114 : ∀ (s1 : Int32) (s2 : Int32) (s3 : Int32) (s4 : Int32), B_X11_voteOf_114 N v_items v_county v_holes v_hour v_letter v_rank v_value v_where s1 s2 s3 s4 = some r → ∀ (H : Heap) (locs : List Loc) (ls : Array Slot), va_P D vwCl (w_X11_voteOf cB cI cJ a_this a_cards a_county a_holes a_text a_letter a_where a_rank a_value a_hour a_readLetter a_readWhere a_readRank a_readValue a_readHour a_listName a_listDay a_voterName a_voterDay a_voterCounty a_heaps a_speed a_four a_byRules a_hours a_rest a_yet a_put v_kept v_length v_items v_readItems v_at v_lists v_voters v_needed v_county v_holes v_hour v_letter v_rank v_value v_where) H → va_D A (w_X11_voteOf cB cI cJ a_this a_cards a_county a_holes a_text a_letter a_where a_rank a_value a_hour a_readLetter a_readWhere a_readRank a_readValue a_readHour a_listName a_listDay a_voterName a_voterDay a_voterCounty a_heaps a_speed a_four a_byRules a_hours a_rest a_yet a_put v_kept v_length v_items v_readItems v_at v_lists v_voters v_needed v_county v_holes v_hour v_letter v_rank v_value v_where) → va_S A s.heap H locs → lv_has ls 7 [] → W p l e rm_X11_voteOf s m args below meth c H locs 0 0 Q (F0 m 114 ls [.int s4, .int s3, .int s2, .int s1, .ref a_this]) := by
    intro s1 s2 s3 s4 hf H locs ls hP hD hS hl
    unfold B_X11_voteOf_114 at hf
    obtain ⟨r1, hc1, hf⟩ := wk_b1E hf
    refine wk_callVi2 C hP hD hS (c_X11_votes l D cB cI cJ N a_this a_cards a_county a_holes a_text a_letter a_where a_rank a_value a_hour a_readLetter a_readWhere a_readRank a_readValue a_readHour a_listName a_listDay a_voterName a_voterDay a_voterCounty a_heaps a_speed a_four a_byRules a_hours a_rest a_yet a_put v_kept v_length v_items v_readItems v_at v_lists v_voters v_needed v_holes s1 s2 s3 s4 hc1) (cwV 4 hts gX11_voteOf_X11_votes rfl rfl rfl hd_X11_votes ⟨Nat.le_of_ble_eq_true rfl, Nat.le_of_ble_eq_true rfl⟩) hl.1 ⟨Nat.zero_le _, Nat.zero_le _⟩ [0, 2] [1, 3, 4, 5, 6, 7] 8 (by decide +kernel) rfl (Wn := w_X11_voteOf cB cI cJ a_this a_cards a_county a_holes a_text a_letter a_where a_rank a_value a_hour a_readLetter a_readWhere a_readRank a_readValue a_readHour a_listName a_listDay a_voterName a_voterDay a_voterCounty a_heaps a_speed a_four a_byRules a_hours a_rest a_yet a_put v_kept v_length v_items v_readItems v_at v_lists v_voters v_needed v_county v_holes v_hour v_letter v_rank v_value v_where) rfl rfl rfl rfl rfl rfl (ci := 11) rfl rfl (q0 := 0) rfl rfl rfl (Nat.le_of_ble_eq_true rfl) dX11_voteOf_114 (fun H locs hP hD hS => ?_)
    exact hret _ _ _ _ _ _ dX11_voteOf_117 (wk_rt hf (fun z => z)) rfl hP hD hS
  have L29 := wk_loopI (F := (fun k29 : Int32 → Int32 → Int32 → Int32 → Int32 → Option Int32 => B_X11_voteOf_29 N v_items v_county v_holes v_hour v_letter v_rank v_value v_where k29)) (bot := fun _ _ _ _ _ => none) (fun k29 : Int32 → Int32 → Int32 → Int32 → Int32 → Option Int32 => ∀ (x1 : Int32) (x2 : Int32) (x3 : Int32) (x5 : Int32) (x6 : Int32), k29 x1 x2 x3 x5 x6 = some r → ∀ (H : Heap) (locs : List Loc) (ls : Array Slot), va_P D vwCl (w_X11_voteOf cB cI cJ a_this a_cards a_county a_holes a_text a_letter a_where a_rank a_value a_hour a_readLetter a_readWhere a_readRank a_readValue a_readHour a_listName a_listDay a_voterName a_voterDay a_voterCounty a_heaps a_speed a_four a_byRules a_hours a_rest a_yet a_put v_kept v_length v_items v_readItems v_at v_lists v_voters v_needed v_county v_holes v_hour v_letter v_rank v_value v_where) H → va_D A (w_X11_voteOf cB cI cJ a_this a_cards a_county a_holes a_text a_letter a_where a_rank a_value a_hour a_readLetter a_readWhere a_readRank a_readValue a_readHour a_listName a_listDay a_voterName a_voterDay a_voterCounty a_heaps a_speed a_four a_byRules a_hours a_rest a_yet a_put v_kept v_length v_items v_readItems v_at v_lists v_voters v_needed v_county v_holes v_hour v_letter v_rank v_value v_where) → va_S A s.heap H locs → lv_has ls 7 [(0, .ref a_this), (1, .int x1), (2, .int x2), (3, .int x3), (5, .int x5), (6, .int x6)] → W p l e rm_X11_voteOf s m args below meth c H locs 0 0 Q (F0 m 29 ls [])) (by intro x1 x2 x3 x5 x6 hf; exact wk_no hf) (by
    intro k29 ih29
    intro x1 x2 x3 x5 x6 hf H locs ls hP hD hS hl
    have hf : B_X11_voteOf_29 N v_items v_county v_holes v_hour v_letter v_rank v_value v_where k29 x1 x2 x3 x5 x6 = some r := hf
    unfold B_X11_voteOf_29 at hf
    refine lv_iload hx hb dX11_voteOf_29 (lv_at hl 5 rfl) ?_
    refine lv_bipush (v := (12 : Int32)) hx hb dX11_voteOf_31 (by decide) ?_
    refine lv_iload_n hx hb dX11_voteOf_33 rfl (lv_at hl 1 rfl) ?_
    refine lv_imul hx hb dX11_voteOf_34 ?_
    refine lv_bipush (v := (12 : Int32)) hx hb dX11_voteOf_35 (by decide) ?_
    refine lv_iadd hx hb dX11_voteOf_37 ?_
    refine lv_icmp_ge (tgt := 68) hx hb dX11_voteOf_38 (by decide) (fun c2 => ?_) (fun c2 => ?_)
    · have hf := wk_itT hf c2
      refine lv_aload_n hx hb dX11_voteOf_68 rfl (lv_at hl 0 rfl) ?_
      refine lv_iconst (v := (1 : Int32)) hx hb dX11_voteOf_69 (by decide) ?_
      refine lv_aload_n hx hb dX11_voteOf_70 rfl (lv_at hl 0 rfl) ?_
      refine va_get (D := D) (ci := 11) (v := .ref a_county) (C := RX11) (T := TX11) (N := 35) hx hb hts in_X11_voteOf_X11 hown hK hP 0 rfl rfl 1 (by decide) (hts (.fieldLink RX11 13 "HangingCardsModel" "county" "[I") (List.mem_of_getElem? (i := 2) rfl)) (fun _ h9 => h9) rfl dX11_voteOf_71 ?_
      refine lv_iload_n hx hb dX11_voteOf_74 rfl (lv_at hl 1 rfl) ?_
      obtain ⟨hi3, hf⟩ := wk_ckE hf
      refine va_iald hx hb hK hP 1 0 rfl rfl hi3 dX11_voteOf_75 ?_
      refine lv_iload_n hx hb dX11_voteOf_76 rfl (lv_at hl 3 rfl) ?_
      obtain ⟨r4, hc4, hf⟩ := wk_b1E hf
      refine wk_callVi2 C hP hD hS (c_X11_ruleOf l D cB cI cJ N a_this a_cards a_county a_holes a_text a_letter a_where a_rank a_value a_hour a_readLetter a_readWhere a_readRank a_readValue a_readHour a_listName a_listDay a_voterName a_voterDay a_voterCounty a_heaps a_speed a_four a_byRules a_hours a_rest a_yet a_put v_kept v_length v_items v_readItems v_at v_lists v_voters v_needed v_hour v_letter v_rank v_value v_where (1 : Int32) (v_county x1.toNatClampNeg) x3 hc4) (cwV 3 hts gX11_voteOf_X11_ruleOf rfl rfl rfl hd_X11_ruleOf ⟨Nat.le_of_ble_eq_true rfl, Nat.le_of_ble_eq_true rfl⟩) hl.1 ⟨Nat.zero_le _, Nat.zero_le _⟩ [0, 3, 4, 5, 6, 7] [1, 2] 8 (by decide +kernel) rfl (Wn := w_X11_voteOf cB cI cJ a_this a_cards a_county a_holes a_text a_letter a_where a_rank a_value a_hour a_readLetter a_readWhere a_readRank a_readValue a_readHour a_listName a_listDay a_voterName a_voterDay a_voterCounty a_heaps a_speed a_four a_byRules a_hours a_rest a_yet a_put v_kept v_length v_items v_readItems v_at v_lists v_voters v_needed v_county v_holes v_hour v_letter v_rank v_value v_where) rfl rfl rfl rfl rfl rfl (ci := 11) rfl rfl (q0 := 0) rfl rfl rfl (Nat.le_of_ble_eq_true rfl) dX11_voteOf_77 (fun H locs hP hD hS => ?_)
      refine lv_istore (lv' := [(6, .int r4), (0, .ref a_this), (1, .int x1), (2, .int x2), (3, .int x3), (5, .int x5)]) hx hb dX11_voteOf_80 hl (by decide) rfl (fun ls hl => ?_)
      refine lv_aload_n hx hb dX11_voteOf_82 rfl (lv_at hl 1 rfl) ?_
      refine lv_iload_n hx hb dX11_voteOf_83 rfl (lv_at hl 2 rfl) ?_
      refine lv_iload_n hx hb dX11_voteOf_84 rfl (lv_at hl 3 rfl) ?_
      refine lv_aload_n hx hb dX11_voteOf_85 rfl (lv_at hl 1 rfl) ?_
      refine lv_iconst (v := (0 : Int32)) hx hb dX11_voteOf_86 (by decide) ?_
      refine lv_aload_n hx hb dX11_voteOf_87 rfl (lv_at hl 1 rfl) ?_
      refine va_get (D := D) (ci := 11) (v := .ref a_county) (C := RX11) (T := TX11) (N := 35) hx hb hts in_X11_voteOf_X11 hown hK hP 0 rfl rfl 1 (by decide) (hts (.fieldLink RX11 13 "HangingCardsModel" "county" "[I") (List.mem_of_getElem? (i := 2) rfl)) (fun _ h9 => h9) rfl dX11_voteOf_88 ?_
      refine lv_iload_n hx hb dX11_voteOf_91 rfl (lv_at hl 2 rfl) ?_
      obtain ⟨hi5, hf⟩ := wk_ckE hf
      refine va_iald hx hb hK hP 1 0 rfl rfl hi5 dX11_voteOf_92 ?_
      refine lv_iload_n hx hb dX11_voteOf_93 rfl (lv_at hl 4 rfl) ?_
      obtain ⟨r6, hc6, hf⟩ := wk_b1E hf
      refine wk_callVi2 C hP hD hS (c_X11_ruleOf l D cB cI cJ N a_this a_cards a_county a_holes a_text a_letter a_where a_rank a_value a_hour a_readLetter a_readWhere a_readRank a_readValue a_readHour a_listName a_listDay a_voterName a_voterDay a_voterCounty a_heaps a_speed a_four a_byRules a_hours a_rest a_yet a_put v_kept v_length v_items v_readItems v_at v_lists v_voters v_needed v_hour v_letter v_rank v_value v_where (0 : Int32) (v_county x1.toNatClampNeg) x3 hc6) (cwV 3 hts gX11_voteOf_X11_ruleOf rfl rfl rfl hd_X11_ruleOf ⟨Nat.le_of_ble_eq_true rfl, Nat.le_of_ble_eq_true rfl⟩) hl.1 ⟨Nat.zero_le _, Nat.zero_le _⟩ [0, 3, 4, 5, 6, 7] [1, 2] 8 (by decide +kernel) rfl (Wn := w_X11_voteOf cB cI cJ a_this a_cards a_county a_holes a_text a_letter a_where a_rank a_value a_hour a_readLetter a_readWhere a_readRank a_readValue a_readHour a_listName a_listDay a_voterName a_voterDay a_voterCounty a_heaps a_speed a_four a_byRules a_hours a_rest a_yet a_put v_kept v_length v_items v_readItems v_at v_lists v_voters v_needed v_county v_holes v_hour v_letter v_rank v_value v_where) rfl rfl rfl rfl rfl rfl (ci := 11) rfl rfl (q0 := 0) rfl rfl rfl (Nat.le_of_ble_eq_true rfl) dX11_voteOf_94 (fun H locs hP hD hS => ?_)
      refine lv_iload hx hb dX11_voteOf_97 (lv_at hl 0 rfl) ?_
      refine lv_if_le (tgt := 113) hx hb dX11_voteOf_99 (by decide) (fun c7 => ?_) (fun c7 => ?_)
      · have hf := wk_itT hf c7
        refine lv_iconst (v := (0 : Int32)) hx hb dX11_voteOf_113 (by decide) ?_
        exact J114 _ _ _ _ hf _ _ _ hP hD hS (lv_sub hl [] rfl)
      · have hf := wk_itF hf c7
        refine lv_iload hx hb dX11_voteOf_102 (lv_at hl 5 rfl) ?_
        refine lv_iload hx hb dX11_voteOf_104 (lv_at hl 0 rfl) ?_
        refine lv_icmp_lt (tgt := 113) hx hb dX11_voteOf_106 (by decide) (fun c8 => ?_) (fun c8 => ?_)
        · have hf := wk_itT hf c8
          refine lv_iconst (v := (0 : Int32)) hx hb dX11_voteOf_113 (by decide) ?_
          exact J114 _ _ _ _ hf _ _ _ hP hD hS (lv_sub hl [] rfl)
        · have hf := wk_itF hf c8
          refine lv_iconst (v := (1 : Int32)) hx hb dX11_voteOf_109 (by decide) ?_
          refine lv_goto (tgt := 114) hx hb dX11_voteOf_110 (by decide) ?_
          exact J114 _ _ _ _ hf _ _ _ hP hD hS (lv_sub hl [] rfl)
    · have hf := wk_itF hf c2
      refine lv_iload hx hb dX11_voteOf_41 (lv_at hl 4 rfl) ?_
      refine lv_aload_n hx hb dX11_voteOf_43 rfl (lv_at hl 0 rfl) ?_
      refine va_get (D := D) (ci := 11) (v := .ref a_holes) (C := RX11) (T := TX11) (N := 35) hx hb hts in_X11_voteOf_X11 hown hK hP 0 rfl rfl 2 (by decide) (hts (.fieldLink RX11 16 "HangingCardsModel" "holes" "[I") (List.mem_of_getElem? (i := 1) rfl)) (fun _ h9 => h9) rfl dX11_voteOf_44 ?_
      refine lv_iload hx hb dX11_voteOf_47 (lv_at hl 5 rfl) ?_
      obtain ⟨hi9, hf⟩ := wk_ckE hf
      refine va_iald hx hb hK hP 2 0 rfl rfl hi9 dX11_voteOf_49 ?_
      refine lv_iconst (v := (1 : Int32)) hx hb dX11_voteOf_50 (by decide) ?_
      refine lv_icmp_ne (tgt := 58) hx hb dX11_voteOf_51 (by decide) (fun c10 => ?_) (fun c10 => ?_)
      · have hf := wk_itF hf c10
        refine lv_iconst (v := (0 : Int32)) hx hb dX11_voteOf_58 (by decide) ?_
        refine lv_iadd hx hb dX11_voteOf_59 ?_
        refine lv_topi (fun y11 ey11 => ?_)
        have hf := wk_nmE hf ey11
        refine lv_istore (lv' := [(5, .int y11), (0, .ref a_this), (1, .int x1), (2, .int x2), (3, .int x3), (6, .int x6)]) hx hb dX11_voteOf_60 hl (by decide) rfl (fun ls hl => ?_)
        obtain ⟨y12, ey12⟩ : ∃ y : Int32, y = x6 + (1 : Int32) := ⟨_, rfl⟩
        have hf := wk_nmE hf ey12
        refine lv_iinc (v := y12) (lv' := [(6, .int y12), (5, .int y11), (0, .ref a_this), (1, .int x1), (2, .int x2), (3, .int x3)]) hx hb dX11_voteOf_62 hl (k := 5) rfl (by rw [ey12]; rfl) (by decide) rfl (fun ls hl => ?_)
        refine lv_goto (tgt := 29) hx hb dX11_voteOf_65 (by decide) ?_
        exact ih29 _ _ _ _ _ hf _ _ _ hP hD hS (lv_sub hl [2, 3, 4, 5, 1, 0] rfl)
      · have hf := wk_itT hf c10
        refine lv_iconst (v := (1 : Int32)) hx hb dX11_voteOf_54 (by decide) ?_
        refine lv_goto (tgt := 59) hx hb dX11_voteOf_55 (by decide) ?_
        refine lv_iadd hx hb dX11_voteOf_59 ?_
        refine lv_topi (fun y13 ey13 => ?_)
        have hf := wk_nmE hf ey13
        refine lv_istore (lv' := [(5, .int y13), (0, .ref a_this), (1, .int x1), (2, .int x2), (3, .int x3), (6, .int x6)]) hx hb dX11_voteOf_60 hl (by decide) rfl (fun ls hl => ?_)
        obtain ⟨y14, ey14⟩ : ∃ y : Int32, y = x6 + (1 : Int32) := ⟨_, rfl⟩
        have hf := wk_nmE hf ey14
        refine lv_iinc (v := y14) (lv' := [(6, .int y14), (5, .int y13), (0, .ref a_this), (1, .int x1), (2, .int x2), (3, .int x3)]) hx hb dX11_voteOf_62 hl (k := 5) rfl (by rw [ey14]; rfl) (by decide) rfl (fun ls hl => ?_)
        refine lv_goto (tgt := 29) hx hb dX11_voteOf_65 (by decide) ?_
        exact ih29 _ _ _ _ _ hf _ _ _ hP hD hS (lv_sub hl [2, 3, 4, 5, 1, 0] rfl))
  unfold f_X11_voteOf at hf
  refine lv_iload hx hb dX11_voteOf_0 (lv_at hl 4 rfl) ?_
  refine lv_if_eq (tgt := 20) hx hb dX11_voteOf_2 (by decide) (fun c15 => ?_) (fun c15 => ?_)
  · have hf := wk_itT hf c15
    refine lv_iconst (v := (0 : Int32)) hx hb dX11_voteOf_20 (by decide) ?_
    refine lv_istore (lv' := [(5, .int (0 : Int32)), (0, .ref a_this), (1, .int x1), (2, .int x2), (3, .int x3), (4, .int x4)]) hx hb dX11_voteOf_21 hl (by decide) rfl (fun ls hl => ?_)
    refine lv_bipush (v := (12 : Int32)) hx hb dX11_voteOf_23 (by decide) ?_
    refine lv_iload_n hx hb dX11_voteOf_25 rfl (lv_at hl 2 rfl) ?_
    refine lv_imul hx hb dX11_voteOf_26 ?_
    refine lv_topi (fun y16 ey16 => ?_)
    have hf := wk_nmE hf ey16
    refine lv_istore (lv' := [(6, .int y16), (5, .int (0 : Int32)), (0, .ref a_this), (1, .int x1), (2, .int x2), (3, .int x3), (4, .int x4)]) hx hb dX11_voteOf_27 hl (by decide) rfl (fun ls hl => ?_)
    exact L29 N _ _ _ _ _ hf _ _ _ hP hD hS (lv_sub hl [2, 3, 4, 5, 1, 0] rfl)
  · have hf := wk_itF hf c15
    refine lv_aload_n hx hb dX11_voteOf_5 rfl (lv_at hl 0 rfl) ?_
    refine lv_iload_n hx hb dX11_voteOf_6 rfl (lv_at hl 1 rfl) ?_
    refine lv_iload_n hx hb dX11_voteOf_7 rfl (lv_at hl 2 rfl) ?_
    refine lv_aload_n hx hb dX11_voteOf_8 rfl (lv_at hl 0 rfl) ?_
    refine lv_iconst (v := (2 : Int32)) hx hb dX11_voteOf_9 (by decide) ?_
    refine lv_iconst (v := (0 : Int32)) hx hb dX11_voteOf_10 (by decide) ?_
    refine lv_iload_n hx hb dX11_voteOf_11 rfl (lv_at hl 3 rfl) ?_
    obtain ⟨r17, hc17, hf⟩ := wk_b1E hf
    refine wk_callVi2 C hP hD hS (c_X11_ruleOf l D cB cI cJ N a_this a_cards a_county a_holes a_text a_letter a_where a_rank a_value a_hour a_readLetter a_readWhere a_readRank a_readValue a_readHour a_listName a_listDay a_voterName a_voterDay a_voterCounty a_heaps a_speed a_four a_byRules a_hours a_rest a_yet a_put v_kept v_length v_items v_readItems v_at v_lists v_voters v_needed v_hour v_letter v_rank v_value v_where (2 : Int32) (0 : Int32) x3 hc17) (cwV 3 hts gX11_voteOf_X11_ruleOf rfl rfl rfl hd_X11_ruleOf ⟨Nat.le_of_ble_eq_true rfl, Nat.le_of_ble_eq_true rfl⟩) hl.1 ⟨Nat.zero_le _, Nat.zero_le _⟩ [0, 3, 4, 5, 6, 7] [1, 2] 8 (by decide +kernel) rfl (Wn := w_X11_voteOf cB cI cJ a_this a_cards a_county a_holes a_text a_letter a_where a_rank a_value a_hour a_readLetter a_readWhere a_readRank a_readValue a_readHour a_listName a_listDay a_voterName a_voterDay a_voterCounty a_heaps a_speed a_four a_byRules a_hours a_rest a_yet a_put v_kept v_length v_items v_readItems v_at v_lists v_voters v_needed v_county v_holes v_hour v_letter v_rank v_value v_where) rfl rfl rfl rfl rfl rfl (ci := 11) rfl rfl (q0 := 0) rfl rfl rfl (Nat.le_of_ble_eq_true rfl) dX11_voteOf_12 (fun H locs hP hD hS => ?_)
    refine lv_iconst (v := (0 : Int32)) hx hb dX11_voteOf_15 (by decide) ?_
    obtain ⟨r18, hc18, hf⟩ := wk_b1E hf
    refine wk_callVi2 C hP hD hS (c_X11_votes l D cB cI cJ N a_this a_cards a_county a_holes a_text a_letter a_where a_rank a_value a_hour a_readLetter a_readWhere a_readRank a_readValue a_readHour a_listName a_listDay a_voterName a_voterDay a_voterCounty a_heaps a_speed a_four a_byRules a_hours a_rest a_yet a_put v_kept v_length v_items v_readItems v_at v_lists v_voters v_needed v_holes x1 x2 r17 (0 : Int32) hc18) (cwV 4 hts gX11_voteOf_X11_votes rfl rfl rfl hd_X11_votes ⟨Nat.le_of_ble_eq_true rfl, Nat.le_of_ble_eq_true rfl⟩) hl.1 ⟨Nat.zero_le _, Nat.zero_le _⟩ [0, 2] [1, 3, 4, 5, 6, 7] 8 (by decide +kernel) rfl (Wn := w_X11_voteOf cB cI cJ a_this a_cards a_county a_holes a_text a_letter a_where a_rank a_value a_hour a_readLetter a_readWhere a_readRank a_readValue a_readHour a_listName a_listDay a_voterName a_voterDay a_voterCounty a_heaps a_speed a_four a_byRules a_hours a_rest a_yet a_put v_kept v_length v_items v_readItems v_at v_lists v_voters v_needed v_county v_holes v_hour v_letter v_rank v_value v_where) rfl rfl rfl rfl rfl rfl (ci := 11) rfl rfl (q0 := 0) rfl rfl rfl (Nat.le_of_ble_eq_true rfl) dX11_voteOf_16 (fun H locs hP hD hS => ?_)
    exact hret _ _ _ _ _ _ dX11_voteOf_19 (wk_rt hf (fun z => z)) rfl hP hD hS
abbrev w_X11_isHour (cB cI cJ : ClassId) : va_W := []
theorem hd_X11_isHour : yX11_isHour.cls = RX11 ∧ yX11_isHour.cls ≠ "java/lang/invoke/MethodHandle" ∧ yX11_isHour.cls ≠ "java/lang/invoke/VarHandle" ∧ (parseMethodDescriptor yX11_isHour.desc).map (fun d => d.parameters.length) = some 1 := by decide +kernel
abbrev rm_X11_isHour : Room := { frames := 1, cells := 0, slots := 0, locals := 25 }
set_option maxHeartbeats 4000000 in
set_option maxRecDepth 100000 in
theorem c_X11_isHour (l : Launch) (D : va_G) (cB cI cJ : ClassId) (N : Nat) (x0 : Int32) {r : Bool} (hf : f_X11_isHour N x0 = some r) : MTi l yX11_isHour wsX11_isHour rm_X11_isHour D (wk_T cB cI cJ) [.int x0] (w_X11_isHour cB cI cJ) (w_X11_isHour cB cI cJ) (wk_bI r) := by
  refine MTi.of (cc := cX11_isHour) (nL := 1) (rt := .boolean) (own := RX11) pn_X11 rfl rfl (Nat.le_of_ble_eq_true rfl) (wk_nz r) ?_
  intro p e s m args below meth c A ls Q C hP hD hS hl hret
  obtain ⟨hx, hb, hml, hts, hown, hK, hN, hA, hlk⟩ := id C
  have hl : lv_has ls 1 [(0, .int x0)] := hl
  unfold f_X11_isHour at hf
  refine lv_iload_n hx hb dX11_isHour_0 rfl (lv_at hl 0 rfl) ?_
  refine lv_i2l (v := (x0.toInt64)) hx hb dX11_isHour_1 rfl ?_
  refine lv_lconst (v := (0 : Int64)) hx hb dX11_isHour_2 (by decide) ?_
  refine lv_ldc2 (v := (999 : Int64)) hx hb hown (hts (.constantLong RX11 174 (999)) (List.mem_of_getElem? (i := 1) rfl)) dX11_isHour_3 ?_
  obtain ⟨r1, hc1, hf⟩ := wk_b1E hf
  refine wk_callSi2 C hP hD hS (c_X11_in l D cB cI cJ N (x0.toInt64) (0 : Int64) (999 : Int64) hc1) (va_cwS 3 hts gX11_isHour_X11_in rfl rfl rfl hd_X11_in.2 ⟨Nat.le_of_ble_eq_true rfl, Nat.le_of_ble_eq_true rfl⟩) hl.1 ⟨Nat.zero_le _, Nat.zero_le _⟩ [] [] 0 (by decide +kernel) rfl (Wn := w_X11_isHour cB cI cJ) rfl rfl rfl rfl rfl rfl rfl rfl (Nat.le_of_ble_eq_true rfl) dX11_isHour_6 (fun H locs hP hD hS => ?_)
  exact hret _ _ _ _ _ _ dX11_isHour_9 (wk_rt hf (fun z => wk_bI z)) rfl hP hD hS
abbrev w_X11_run (cB cI cJ : ClassId) (a_this : Nat) (a_cards : Nat) (a_county : Nat) (a_holes : Nat) (a_text : Nat) (a_letter : Nat) (a_where : Nat) (a_rank : Nat) (a_value : Nat) (a_hour : Nat) (a_readLetter : Nat) (a_readWhere : Nat) (a_readRank : Nat) (a_readValue : Nat) (a_readHour : Nat) (a_listName : Nat) (a_listDay : Nat) (a_voterName : Nat) (a_voterDay : Nat) (a_voterCounty : Nat) (a_heaps : Nat) (a_speed : Nat) (a_four : Nat) (a_byRules : Nat) (a_hours : Nat) (a_rest : Nat) (a_yet : Nat) (a_put : Nat) (v_kept : Int32) (v_length : Int32) (v_items : Int32) (v_readItems : Int32) (v_at : Int32) (v_lists : Int32) (v_voters : Int32) (v_needed : Int32) (v_cards : Nat → Int32) (v_county : Nat → Int32) (v_holes : Nat → Int32) (v_hour : Nat → Int32) (v_letter : Nat → Int32) (v_rank : Nat → Int32) (v_value : Nat → Int32) (v_where : Nat → Int32) : va_W := [(a_this, .inr (11, [.ref a_cards, .ref a_county, .ref a_holes, .int v_kept, .int v_length, .ref a_text, .int v_items, .ref a_letter, .ref a_where, .ref a_rank, .ref a_value, .ref a_hour, .int v_readItems, .ref a_readLetter, .ref a_readWhere, .ref a_readRank, .ref a_readValue, .ref a_readHour, .int v_at, .int v_lists, .ref a_listName, .ref a_listDay, .int v_voters, .ref a_voterName, .ref a_voterDay, .ref a_voterCounty, .int v_needed, .ref a_heaps, .ref a_speed, .ref a_four, .ref a_byRules, .ref a_hours, .ref a_rest, .ref a_yet, .ref a_put])), (a_cards, .inl (cI, 3, .inl v_cards)), (a_county, .inl (cI, 120, .inl v_county)), (a_holes, .inl (cI, 1440, .inl v_holes)), (a_hour, .inl (cI, 40, .inl v_hour)), (a_letter, .inl (cI, 40, .inl v_letter)), (a_rank, .inl (cI, 40, .inl v_rank)), (a_value, .inl (cI, 40, .inl v_value)), (a_where, .inl (cI, 40, .inl v_where))]
theorem hd_X11_run : yX11_run.cls = RX11 ∧ yX11_run.cls ≠ "java/lang/invoke/MethodHandle" ∧ yX11_run.cls ≠ "java/lang/invoke/VarHandle" ∧ (parseMethodDescriptor yX11_run.desc).map (fun d => d.parameters.length) = some 3 := by decide +kernel
abbrev rm_X11_run : Room := { frames := 3, cells := 0, slots := 0, locals := 76 }
theorem in_X11_run_X11 : ∀ w ∈ wsX110, w ∈ wsX11_run := fun w h => List.mem_cons_of_mem _ (List.mem_append_right _ h)
set_option maxHeartbeats 4000000 in
set_option maxRecDepth 100000 in
theorem c_X11_run (l : Launch) (D : va_G) (cB cI cJ : ClassId) (N : Nat) (a_this : Nat) (a_cards : Nat) (a_county : Nat) (a_holes : Nat) (a_text : Nat) (a_letter : Nat) (a_where : Nat) (a_rank : Nat) (a_value : Nat) (a_hour : Nat) (a_readLetter : Nat) (a_readWhere : Nat) (a_readRank : Nat) (a_readValue : Nat) (a_readHour : Nat) (a_listName : Nat) (a_listDay : Nat) (a_voterName : Nat) (a_voterDay : Nat) (a_voterCounty : Nat) (a_heaps : Nat) (a_speed : Nat) (a_four : Nat) (a_byRules : Nat) (a_hours : Nat) (a_rest : Nat) (a_yet : Nat) (a_put : Nat) (v_kept : Int32) (v_length : Int32) (v_items : Int32) (v_readItems : Int32) (v_at : Int32) (v_lists : Int32) (v_voters : Int32) (v_needed : Int32) (v_cards : Nat → Int32) (v_county : Nat → Int32) (v_holes : Nat → Int32) (v_hour : Nat → Int32) (v_letter : Nat → Int32) (v_rank : Nat → Int32) (v_value : Nat → Int32) (v_where : Nat → Int32) (x1 : Int32) (x2 : Int32) (x3 : Int32) {r : Int32} {o_holes : Nat → Int32} (hf : f_X11_run N v_items v_cards v_county v_hour v_letter v_rank v_value v_where v_holes x1 x2 x3 = some (r, o_holes)) : MTi l yX11_run wsX11_run rm_X11_run D (wk_T cB cI cJ) [.ref a_this, .int x1, .int x2, .int x3] (w_X11_run cB cI cJ a_this a_cards a_county a_holes a_text a_letter a_where a_rank a_value a_hour a_readLetter a_readWhere a_readRank a_readValue a_readHour a_listName a_listDay a_voterName a_voterDay a_voterCounty a_heaps a_speed a_four a_byRules a_hours a_rest a_yet a_put v_kept v_length v_items v_readItems v_at v_lists v_voters v_needed v_cards v_county v_holes v_hour v_letter v_rank v_value v_where) (w_X11_run cB cI cJ a_this a_cards a_county a_holes a_text a_letter a_where a_rank a_value a_hour a_readLetter a_readWhere a_readRank a_readValue a_readHour a_listName a_listDay a_voterName a_voterDay a_voterCounty a_heaps a_speed a_four a_byRules a_hours a_rest a_yet a_put v_kept v_length v_items v_readItems v_at v_lists v_voters v_needed v_cards v_county o_holes v_hour v_letter v_rank v_value v_where) r := by
  refine MTi.of (cc := cX11_run) (nL := 6) (rt := .int) (own := RX11) pn_X11 rfl rfl (Nat.le_of_ble_eq_true rfl) rfl ?_
  intro p e s m args below meth c A ls Q C hP hD hS hl hret
  obtain ⟨hx, hb, hml, hts, hown, hK, hN, hA, hlk⟩ := id C
  have hl : lv_has ls 6 [(0, .ref a_this), (1, .int x1), (2, .int x2), (3, .int x3)] := hl
  have L92 := wk_loopI (F := (fun k92 : (Nat → Int32) → Int32 → Int32 → Int32 → Option (Int32 × (Nat → Int32)) => B_X11_run_92 N v_items v_cards v_county v_hour v_letter v_rank v_value v_where k92)) (bot := fun _ _ _ _ => none) (fun k92 : (Nat → Int32) → Int32 → Int32 → Int32 → Option (Int32 × (Nat → Int32)) => ∀ (v_holes : Nat → Int32) (x1 : Int32) (x4 : Int32) (x5 : Int32), k92 v_holes x1 x4 x5 = some (r, o_holes) → ∀ (H : Heap) (locs : List Loc) (ls : Array Slot), va_P D vwCl (w_X11_run cB cI cJ a_this a_cards a_county a_holes a_text a_letter a_where a_rank a_value a_hour a_readLetter a_readWhere a_readRank a_readValue a_readHour a_listName a_listDay a_voterName a_voterDay a_voterCounty a_heaps a_speed a_four a_byRules a_hours a_rest a_yet a_put v_kept v_length v_items v_readItems v_at v_lists v_voters v_needed v_cards v_county v_holes v_hour v_letter v_rank v_value v_where) H → va_D A (w_X11_run cB cI cJ a_this a_cards a_county a_holes a_text a_letter a_where a_rank a_value a_hour a_readLetter a_readWhere a_readRank a_readValue a_readHour a_listName a_listDay a_voterName a_voterDay a_voterCounty a_heaps a_speed a_four a_byRules a_hours a_rest a_yet a_put v_kept v_length v_items v_readItems v_at v_lists v_voters v_needed v_cards v_county v_holes v_hour v_letter v_rank v_value v_where) → va_S A s.heap H locs → lv_has ls 6 [(0, .ref a_this), (1, .int x1), (4, .int x4), (5, .int x5)] → W p l e rm_X11_run s m args below meth c H locs 0 0 Q (F0 m 92 ls [])) (by intro v_holes x1 x4 x5 hf; exact wk_no hf) (by
    intro k92 ih92
    intro v_holes x1 x4 x5 hf H locs ls hP hD hS hl
    have hf : B_X11_run_92 N v_items v_cards v_county v_hour v_letter v_rank v_value v_where k92 v_holes x1 x4 x5 = some (r, o_holes) := hf
    unfold B_X11_run_92 at hf
    refine lv_iload hx hb dX11_run_92 (lv_at hl 3 rfl) ?_
    refine lv_aload_n hx hb dX11_run_94 rfl (lv_at hl 0 rfl) ?_
    refine va_get (D := D) (ci := 11) (v := .ref a_cards) (C := RX11) (T := TX11) (N := 35) hx hb hts in_X11_run_X11 hown hK hP 0 rfl rfl 0 (by decide) (hts (.fieldLink RX11 7 "HangingCardsModel" "cards" "[I") (List.mem_of_getElem? (i := 3) rfl)) (fun _ h9 => h9) rfl dX11_run_95 ?_
    refine lv_iconst (v := (0 : Int32)) hx hb dX11_run_98 (by decide) ?_
    obtain ⟨hi1, hf⟩ := wk_ckE hf
    refine va_iald hx hb hK hP 1 0 rfl rfl hi1 dX11_run_99 ?_
    refine lv_icmp_ge (tgt := 128) hx hb dX11_run_100 (by decide) (fun c2 => ?_) (fun c2 => ?_)
    · have hf := wk_itT hf c2
      refine lv_iload hx hb dX11_run_128 (lv_at hl 2 rfl) ?_
      exact hret _ _ _ _ _ _ dX11_run_130 (wk_rt hf (fun z => z.1)) (wk_rt hf (fun z => w_X11_run cB cI cJ a_this a_cards a_county a_holes a_text a_letter a_where a_rank a_value a_hour a_readLetter a_readWhere a_readRank a_readValue a_readHour a_listName a_listDay a_voterName a_voterDay a_voterCounty a_heaps a_speed a_four a_byRules a_hours a_rest a_yet a_put v_kept v_length v_items v_readItems v_at v_lists v_voters v_needed v_cards v_county (z.2) v_hour v_letter v_rank v_value v_where)) hP hD hS
    · have hf := wk_itF hf c2
      refine lv_aload_n hx hb dX11_run_103 rfl (lv_at hl 0 rfl) ?_
      refine va_get (D := D) (ci := 11) (v := .ref a_county) (C := RX11) (T := TX11) (N := 35) hx hb hts in_X11_run_X11 hown hK hP 0 rfl rfl 1 (by decide) (hts (.fieldLink RX11 13 "HangingCardsModel" "county" "[I") (List.mem_of_getElem? (i := 4) rfl)) (fun _ h9 => h9) rfl dX11_run_104 ?_
      refine lv_iload hx hb dX11_run_107 (lv_at hl 3 rfl) ?_
      obtain ⟨hi3, hf⟩ := wk_ckE hf
      refine va_iald hx hb hK hP 2 0 rfl rfl hi3 dX11_run_109 ?_
      refine lv_iload_n hx hb dX11_run_110 rfl (lv_at hl 1 rfl) ?_
      refine lv_icmp_ne (tgt := 122) hx hb dX11_run_111 (by decide) (fun c4 => ?_) (fun c4 => ?_)
      · have hf := wk_itF hf c4
        obtain ⟨y5, ey5⟩ : ∃ y : Int32, y = x5 + (1 : Int32) := ⟨_, rfl⟩
        have hf := wk_nmE hf ey5
        refine lv_iinc (v := y5) (lv' := [(5, .int y5), (0, .ref a_this), (1, .int x1), (4, .int x4)]) hx hb dX11_run_122 hl (k := 3) rfl (by rw [ey5]; rfl) (by decide) rfl (fun ls hl => ?_)
        refine lv_goto (tgt := 92) hx hb dX11_run_125 (by decide) ?_
        exact ih92 _ _ _ _ hf _ _ _ hP hD hS (lv_sub hl [1, 2, 3, 0] rfl)
      · have hf := wk_itT hf c4
        refine lv_aload_n hx hb dX11_run_114 rfl (lv_at hl 0 rfl) ?_
        refine lv_iload hx hb dX11_run_115 (lv_at hl 3 rfl) ?_
        refine lv_iconst (v := (1 : Int32)) hx hb dX11_run_117 (by decide) ?_
        obtain ⟨r6, o6_0, hc6, hf⟩ := wk_b2E hf
        refine wk_callVi2 C hP hD hS (c_X11_handles l D cB cI cJ N a_this a_cards a_county a_holes a_text a_letter a_where a_rank a_value a_hour a_readLetter a_readWhere a_readRank a_readValue a_readHour a_listName a_listDay a_voterName a_voterDay a_voterCounty a_heaps a_speed a_four a_byRules a_hours a_rest a_yet a_put v_kept v_length v_items v_readItems v_at v_lists v_voters v_needed v_holes x5 (1 : Int32) hc6) (cwV 2 hts gX11_run_X11_handles rfl rfl rfl hd_X11_handles ⟨Nat.le_of_ble_eq_true rfl, Nat.le_of_ble_eq_true rfl⟩) hl.1 ⟨Nat.zero_le _, Nat.zero_le _⟩ [0, 3] [1, 2, 4, 5, 6, 7, 8] 9 (by decide +kernel) rfl (Wn := w_X11_run cB cI cJ a_this a_cards a_county a_holes a_text a_letter a_where a_rank a_value a_hour a_readLetter a_readWhere a_readRank a_readValue a_readHour a_listName a_listDay a_voterName a_voterDay a_voterCounty a_heaps a_speed a_four a_byRules a_hours a_rest a_yet a_put v_kept v_length v_items v_readItems v_at v_lists v_voters v_needed v_cards v_county o6_0 v_hour v_letter v_rank v_value v_where) rfl rfl rfl rfl rfl rfl (ci := 11) rfl rfl (q0 := 0) rfl rfl rfl (Nat.le_of_ble_eq_true rfl) dX11_run_118 (fun H locs hP hD hS => ?_)
        refine lv_pop hx hb dX11_run_121 rfl ?_
        obtain ⟨y7, ey7⟩ : ∃ y : Int32, y = x5 + (1 : Int32) := ⟨_, rfl⟩
        have hf := wk_nmE hf ey7
        refine lv_iinc (v := y7) (lv' := [(5, .int y7), (0, .ref a_this), (1, .int x1), (4, .int x4)]) hx hb dX11_run_122 hl (k := 3) rfl (by rw [ey7]; rfl) (by decide) rfl (fun ls hl => ?_)
        refine lv_goto (tgt := 92) hx hb dX11_run_125 (by decide) ?_
        exact ih92 _ _ _ _ hf _ _ _ hP hD hS (lv_sub hl [1, 2, 3, 0] rfl))
  have L39 := wk_loopI (F := (fun k39 : (Nat → Int32) → Int32 → Int32 → Int32 → Int32 → Int32 → Option (Int32 × (Nat → Int32)) => B_X11_run_39 N v_items v_cards v_county v_hour v_letter v_rank v_value v_where k39)) (bot := fun _ _ _ _ _ _ => none) (fun k39 : (Nat → Int32) → Int32 → Int32 → Int32 → Int32 → Int32 → Option (Int32 × (Nat → Int32)) => ∀ (v_holes : Nat → Int32) (x1 : Int32) (x2 : Int32) (x3 : Int32) (x4 : Int32) (x5 : Int32), k39 v_holes x1 x2 x3 x4 x5 = some (r, o_holes) → ∀ (H : Heap) (locs : List Loc) (ls : Array Slot), va_P D vwCl (w_X11_run cB cI cJ a_this a_cards a_county a_holes a_text a_letter a_where a_rank a_value a_hour a_readLetter a_readWhere a_readRank a_readValue a_readHour a_listName a_listDay a_voterName a_voterDay a_voterCounty a_heaps a_speed a_four a_byRules a_hours a_rest a_yet a_put v_kept v_length v_items v_readItems v_at v_lists v_voters v_needed v_cards v_county v_holes v_hour v_letter v_rank v_value v_where) H → va_D A (w_X11_run cB cI cJ a_this a_cards a_county a_holes a_text a_letter a_where a_rank a_value a_hour a_readLetter a_readWhere a_readRank a_readValue a_readHour a_listName a_listDay a_voterName a_voterDay a_voterCounty a_heaps a_speed a_four a_byRules a_hours a_rest a_yet a_put v_kept v_length v_items v_readItems v_at v_lists v_voters v_needed v_cards v_county v_holes v_hour v_letter v_rank v_value v_where) → va_S A s.heap H locs → lv_has ls 6 [(0, .ref a_this), (1, .int x1), (2, .int x2), (3, .int x3), (4, .int x4), (5, .int x5)] → W p l e rm_X11_run s m args below meth c H locs 0 0 Q (F0 m 39 ls [])) (by intro v_holes x1 x2 x3 x4 x5 hf; exact wk_no hf) (by
    intro k39 ih39
    intro v_holes x1 x2 x3 x4 x5 hf H locs ls hP hD hS hl
    have hf : B_X11_run_39 N v_items v_cards v_county v_hour v_letter v_rank v_value v_where k39 v_holes x1 x2 x3 x4 x5 = some (r, o_holes) := hf
    unfold B_X11_run_39 at hf
    refine lv_iload hx hb dX11_run_39 (lv_at hl 5 rfl) ?_
    refine lv_aload_n hx hb dX11_run_41 rfl (lv_at hl 0 rfl) ?_
    refine va_get (D := D) (ci := 11) (v := .ref a_cards) (C := RX11) (T := TX11) (N := 35) hx hb hts in_X11_run_X11 hown hK hP 0 rfl rfl 0 (by decide) (hts (.fieldLink RX11 7 "HangingCardsModel" "cards" "[I") (List.mem_of_getElem? (i := 3) rfl)) (fun _ h9 => h9) rfl dX11_run_42 ?_
    refine lv_iconst (v := (0 : Int32)) hx hb dX11_run_45 (by decide) ?_
    obtain ⟨hi8, hf⟩ := wk_ckE hf
    refine va_iald hx hb hK hP 1 0 rfl rfl hi8 dX11_run_46 ?_
    refine lv_icmp_ge (tgt := 89) hx hb dX11_run_47 (by decide) (fun c9 => ?_) (fun c9 => ?_)
    · have hf := wk_itT hf c9
      refine lv_iconst (v := (0 : Int32)) hx hb dX11_run_89 (by decide) ?_
      refine lv_istore (lv' := [(5, .int (0 : Int32)), (0, .ref a_this), (1, .int x1), (2, .int x2), (3, .int x3), (4, .int x4)]) hx hb dX11_run_90 hl (by decide) rfl (fun ls hl => ?_)
      exact L92 N _ _ _ _ hf _ _ _ hP hD hS (lv_sub hl [1, 2, 5, 0] rfl)
    · have hf := wk_itF hf c9
      refine lv_iload hx hb dX11_run_50 (lv_at hl 4 rfl) ?_
      refine lv_aload_n hx hb dX11_run_52 rfl (lv_at hl 0 rfl) ?_
      refine va_get (D := D) (ci := 11) (v := .ref a_county) (C := RX11) (T := TX11) (N := 35) hx hb hts in_X11_run_X11 hown hK hP 0 rfl rfl 1 (by decide) (hts (.fieldLink RX11 13 "HangingCardsModel" "county" "[I") (List.mem_of_getElem? (i := 4) rfl)) (fun _ h9 => h9) rfl dX11_run_53 ?_
      refine lv_iload hx hb dX11_run_56 (lv_at hl 5 rfl) ?_
      obtain ⟨hi10, hf⟩ := wk_ckE hf
      refine va_iald hx hb hK hP 2 0 rfl rfl hi10 dX11_run_58 ?_
      refine lv_iload_n hx hb dX11_run_59 rfl (lv_at hl 1 rfl) ?_
      refine lv_icmp_ne (tgt := 79) hx hb dX11_run_60 (by decide) (fun c11 => ?_) (fun c11 => ?_)
      · have hf := wk_itF hf c11
        refine lv_iconst (v := (0 : Int32)) hx hb dX11_run_79 (by decide) ?_
        refine lv_iadd hx hb dX11_run_80 ?_
        refine lv_topi (fun y12 ey12 => ?_)
        have hf := wk_nmE hf ey12
        refine lv_istore (lv' := [(4, .int y12), (0, .ref a_this), (1, .int x1), (2, .int x2), (3, .int x3), (5, .int x5)]) hx hb dX11_run_81 hl (by decide) rfl (fun ls hl => ?_)
        obtain ⟨y13, ey13⟩ : ∃ y : Int32, y = x5 + (1 : Int32) := ⟨_, rfl⟩
        have hf := wk_nmE hf ey13
        refine lv_iinc (v := y13) (lv' := [(5, .int y13), (4, .int y12), (0, .ref a_this), (1, .int x1), (2, .int x2), (3, .int x3)]) hx hb dX11_run_83 hl (k := 5) rfl (by rw [ey13]; rfl) (by decide) rfl (fun ls hl => ?_)
        refine lv_goto (tgt := 39) hx hb dX11_run_86 (by decide) ?_
        exact ih39 _ _ _ _ _ _ hf _ _ _ hP hD hS (lv_sub hl [2, 3, 4, 5, 1, 0] rfl)
      · have hf := wk_itT hf c11
        refine lv_aload_n hx hb dX11_run_63 rfl (lv_at hl 0 rfl) ?_
        refine lv_iload hx hb dX11_run_64 (lv_at hl 5 rfl) ?_
        refine lv_iload_n hx hb dX11_run_66 rfl (lv_at hl 2 rfl) ?_
        refine lv_iload_n hx hb dX11_run_67 rfl (lv_at hl 3 rfl) ?_
        refine lv_iconst (v := (1 : Int32)) hx hb dX11_run_68 (by decide) ?_
        obtain ⟨r14, hc14, hf⟩ := wk_b1E hf
        refine wk_callVi2 C hP hD hS (c_X11_voteOf l D cB cI cJ N a_this a_cards a_county a_holes a_text a_letter a_where a_rank a_value a_hour a_readLetter a_readWhere a_readRank a_readValue a_readHour a_listName a_listDay a_voterName a_voterDay a_voterCounty a_heaps a_speed a_four a_byRules a_hours a_rest a_yet a_put v_kept v_length v_items v_readItems v_at v_lists v_voters v_needed v_county v_holes v_hour v_letter v_rank v_value v_where x5 x2 x3 (1 : Int32) hc14) (cwV 4 hts gX11_run_X11_voteOf rfl rfl rfl hd_X11_voteOf ⟨Nat.le_of_ble_eq_true rfl, Nat.le_of_ble_eq_true rfl⟩) hl.1 ⟨Nat.zero_le _, Nat.zero_le _⟩ [0, 2, 3, 4, 5, 6, 7, 8] [1] 9 (by decide +kernel) rfl (Wn := w_X11_run cB cI cJ a_this a_cards a_county a_holes a_text a_letter a_where a_rank a_value a_hour a_readLetter a_readWhere a_readRank a_readValue a_readHour a_listName a_listDay a_voterName a_voterDay a_voterCounty a_heaps a_speed a_four a_byRules a_hours a_rest a_yet a_put v_kept v_length v_items v_readItems v_at v_lists v_voters v_needed v_cards v_county v_holes v_hour v_letter v_rank v_value v_where) rfl rfl rfl rfl rfl rfl (ci := 11) rfl rfl (q0 := 0) rfl rfl rfl (Nat.le_of_ble_eq_true rfl) dX11_run_69 (fun H locs hP hD hS => ?_)
        refine lv_if_lt (tgt := 79) hx hb dX11_run_72 (by decide) (fun c15 => ?_) (fun c15 => ?_)
        · have hf := wk_itT hf c15
          refine lv_iconst (v := (0 : Int32)) hx hb dX11_run_79 (by decide) ?_
          refine lv_iadd hx hb dX11_run_80 ?_
          refine lv_topi (fun y16 ey16 => ?_)
          have hf := wk_nmE hf ey16
          refine lv_istore (lv' := [(4, .int y16), (0, .ref a_this), (1, .int x1), (2, .int x2), (3, .int x3), (5, .int x5)]) hx hb dX11_run_81 hl (by decide) rfl (fun ls hl => ?_)
          obtain ⟨y17, ey17⟩ : ∃ y : Int32, y = x5 + (1 : Int32) := ⟨_, rfl⟩
          have hf := wk_nmE hf ey17
          refine lv_iinc (v := y17) (lv' := [(5, .int y17), (4, .int y16), (0, .ref a_this), (1, .int x1), (2, .int x2), (3, .int x3)]) hx hb dX11_run_83 hl (k := 5) rfl (by rw [ey17]; rfl) (by decide) rfl (fun ls hl => ?_)
          refine lv_goto (tgt := 39) hx hb dX11_run_86 (by decide) ?_
          exact ih39 _ _ _ _ _ _ hf _ _ _ hP hD hS (lv_sub hl [2, 3, 4, 5, 1, 0] rfl)
        · have hf := wk_itF hf c15
          refine lv_iconst (v := (1 : Int32)) hx hb dX11_run_75 (by decide) ?_
          refine lv_goto (tgt := 80) hx hb dX11_run_76 (by decide) ?_
          refine lv_iadd hx hb dX11_run_80 ?_
          refine lv_topi (fun y18 ey18 => ?_)
          have hf := wk_nmE hf ey18
          refine lv_istore (lv' := [(4, .int y18), (0, .ref a_this), (1, .int x1), (2, .int x2), (3, .int x3), (5, .int x5)]) hx hb dX11_run_81 hl (by decide) rfl (fun ls hl => ?_)
          obtain ⟨y19, ey19⟩ : ∃ y : Int32, y = x5 + (1 : Int32) := ⟨_, rfl⟩
          have hf := wk_nmE hf ey19
          refine lv_iinc (v := y19) (lv' := [(5, .int y19), (4, .int y18), (0, .ref a_this), (1, .int x1), (2, .int x2), (3, .int x3)]) hx hb dX11_run_83 hl (k := 5) rfl (by rw [ey19]; rfl) (by decide) rfl (fun ls hl => ?_)
          refine lv_goto (tgt := 39) hx hb dX11_run_86 (by decide) ?_
          exact ih39 _ _ _ _ _ _ hf _ _ _ hP hD hS (lv_sub hl [2, 3, 4, 5, 1, 0] rfl))
  unfold f_X11_run at hf
  refine lv_iload_n hx hb dX11_run_0 rfl (lv_at hl 1 rfl) ?_
  refine lv_i2l (v := (x1.toInt64)) hx hb dX11_run_1 rfl ?_
  refine lv_lconst (v := (0 : Int64)) hx hb dX11_run_2 (by decide) ?_
  refine lv_ldc2 (v := (4 : Int64)) hx hb hown (hts (.constantLong RX11 101 (4)) (List.mem_of_getElem? (i := 1) rfl)) dX11_run_3 ?_
  obtain ⟨r20, hc20, hf⟩ := wk_b1E hf
  refine wk_callSi2 C hP hD hS (c_X11_in l D cB cI cJ N (x1.toInt64) (0 : Int64) (4 : Int64) hc20) (va_cwS 3 hts gX11_run_X11_in rfl rfl rfl hd_X11_in.2 ⟨Nat.le_of_ble_eq_true rfl, Nat.le_of_ble_eq_true rfl⟩) hl.1 ⟨Nat.zero_le _, Nat.zero_le _⟩ [] [0, 1, 2, 3, 4, 5, 6, 7, 8] 9 (by decide +kernel) rfl (Wn := w_X11_run cB cI cJ a_this a_cards a_county a_holes a_text a_letter a_where a_rank a_value a_hour a_readLetter a_readWhere a_readRank a_readValue a_readHour a_listName a_listDay a_voterName a_voterDay a_voterCounty a_heaps a_speed a_four a_byRules a_hours a_rest a_yet a_put v_kept v_length v_items v_readItems v_at v_lists v_voters v_needed v_cards v_county v_holes v_hour v_letter v_rank v_value v_where) rfl rfl rfl rfl rfl rfl rfl rfl (Nat.le_of_ble_eq_true rfl) dX11_run_6 (fun H locs hP hD hS => ?_)
  refine lv_if_eq (tgt := 31) hx hb dX11_run_9 (by decide) (fun c21 => ?_) (fun c21 => ?_)
  · have hf := wk_itT hf c21
    refine lv_iconst (v := (-1 : Int32)) hx hb dX11_run_31 (by decide) ?_
    exact hret _ _ _ _ _ _ dX11_run_32 (wk_rt hf (fun z => z.1)) (wk_rt hf (fun z => w_X11_run cB cI cJ a_this a_cards a_county a_holes a_text a_letter a_where a_rank a_value a_hour a_readLetter a_readWhere a_readRank a_readValue a_readHour a_listName a_listDay a_voterName a_voterDay a_voterCounty a_heaps a_speed a_four a_byRules a_hours a_rest a_yet a_put v_kept v_length v_items v_readItems v_at v_lists v_voters v_needed v_cards v_county (z.2) v_hour v_letter v_rank v_value v_where)) hP hD hS
  · have hf := wk_itF hf c21
    refine lv_iload_n hx hb dX11_run_12 rfl (lv_at hl 2 rfl) ?_
    refine lv_i2l (v := (x2.toInt64)) hx hb dX11_run_13 rfl ?_
    refine lv_lconst (v := (0 : Int64)) hx hb dX11_run_14 (by decide) ?_
    refine lv_ldc2 (v := (2 : Int64)) hx hb hown (hts (.constantLong RX11 115 (2)) (List.mem_of_getElem? (i := 2) rfl)) dX11_run_15 ?_
    obtain ⟨r22, hc22, hf⟩ := wk_b1E hf
    refine wk_callSi2 C hP hD hS (c_X11_in l D cB cI cJ N (x2.toInt64) (0 : Int64) (2 : Int64) hc22) (va_cwS 3 hts gX11_run_X11_in rfl rfl rfl hd_X11_in.2 ⟨Nat.le_of_ble_eq_true rfl, Nat.le_of_ble_eq_true rfl⟩) hl.1 ⟨Nat.zero_le _, Nat.zero_le _⟩ [] [0, 1, 2, 3, 4, 5, 6, 7, 8] 9 (by decide +kernel) rfl (Wn := w_X11_run cB cI cJ a_this a_cards a_county a_holes a_text a_letter a_where a_rank a_value a_hour a_readLetter a_readWhere a_readRank a_readValue a_readHour a_listName a_listDay a_voterName a_voterDay a_voterCounty a_heaps a_speed a_four a_byRules a_hours a_rest a_yet a_put v_kept v_length v_items v_readItems v_at v_lists v_voters v_needed v_cards v_county v_holes v_hour v_letter v_rank v_value v_where) rfl rfl rfl rfl rfl rfl rfl rfl (Nat.le_of_ble_eq_true rfl) dX11_run_18 (fun H locs hP hD hS => ?_)
    refine lv_if_eq (tgt := 31) hx hb dX11_run_21 (by decide) (fun c23 => ?_) (fun c23 => ?_)
    · have hf := wk_itT hf c23
      refine lv_iconst (v := (-1 : Int32)) hx hb dX11_run_31 (by decide) ?_
      exact hret _ _ _ _ _ _ dX11_run_32 (wk_rt hf (fun z => z.1)) (wk_rt hf (fun z => w_X11_run cB cI cJ a_this a_cards a_county a_holes a_text a_letter a_where a_rank a_value a_hour a_readLetter a_readWhere a_readRank a_readValue a_readHour a_listName a_listDay a_voterName a_voterDay a_voterCounty a_heaps a_speed a_four a_byRules a_hours a_rest a_yet a_put v_kept v_length v_items v_readItems v_at v_lists v_voters v_needed v_cards v_county (z.2) v_hour v_letter v_rank v_value v_where)) hP hD hS
    · have hf := wk_itF hf c23
      refine lv_iload_n hx hb dX11_run_24 rfl (lv_at hl 3 rfl) ?_
      obtain ⟨r24, hc24, hf⟩ := wk_b1E hf
      refine wk_callSi2 C hP hD hS (c_X11_isHour l D cB cI cJ N x3 hc24) (va_cwS 1 hts gX11_run_X11_isHour rfl rfl rfl hd_X11_isHour.2 ⟨Nat.le_of_ble_eq_true rfl, Nat.le_of_ble_eq_true rfl⟩) hl.1 ⟨Nat.zero_le _, Nat.zero_le _⟩ [] [0, 1, 2, 3, 4, 5, 6, 7, 8] 9 (by decide +kernel) rfl (Wn := w_X11_run cB cI cJ a_this a_cards a_county a_holes a_text a_letter a_where a_rank a_value a_hour a_readLetter a_readWhere a_readRank a_readValue a_readHour a_listName a_listDay a_voterName a_voterDay a_voterCounty a_heaps a_speed a_four a_byRules a_hours a_rest a_yet a_put v_kept v_length v_items v_readItems v_at v_lists v_voters v_needed v_cards v_county v_holes v_hour v_letter v_rank v_value v_where) rfl rfl rfl rfl rfl rfl rfl rfl (Nat.le_of_ble_eq_true rfl) dX11_run_25 (fun H locs hP hD hS => ?_)
      refine lv_if_ne (tgt := 33) hx hb dX11_run_28 (by decide) (fun c25 => ?_) (fun c25 => ?_)
      · have hf := wk_itF hf c25
        refine lv_iconst (v := (0 : Int32)) hx hb dX11_run_33 (by decide) ?_
        refine lv_istore (lv' := [(4, .int (0 : Int32)), (0, .ref a_this), (1, .int x1), (2, .int x2), (3, .int x3)]) hx hb dX11_run_34 hl (by decide) rfl (fun ls hl => ?_)
        refine lv_iconst (v := (0 : Int32)) hx hb dX11_run_36 (by decide) ?_
        refine lv_istore (lv' := [(5, .int (0 : Int32)), (4, .int (0 : Int32)), (0, .ref a_this), (1, .int x1), (2, .int x2), (3, .int x3)]) hx hb dX11_run_37 hl (by decide) rfl (fun ls hl => ?_)
        exact L39 N _ _ _ _ _ _ hf _ _ _ hP hD hS (lv_sub hl [2, 3, 4, 5, 1, 0] rfl)
      · have hf := wk_itT hf c25
        refine lv_iconst (v := (-1 : Int32)) hx hb dX11_run_31 (by decide) ?_
        exact hret _ _ _ _ _ _ dX11_run_32 (wk_rt hf (fun z => z.1)) (wk_rt hf (fun z => w_X11_run cB cI cJ a_this a_cards a_county a_holes a_text a_letter a_where a_rank a_value a_hour a_readLetter a_readWhere a_readRank a_readValue a_readHour a_listName a_listDay a_voterName a_voterDay a_voterCounty a_heaps a_speed a_four a_byRules a_hours a_rest a_yet a_put v_kept v_length v_items v_readItems v_at v_lists v_voters v_needed v_cards v_county (z.2) v_hour v_letter v_rank v_value v_where)) hP hD hS
abbrev w_X11_write (cB cI cJ : ClassId) (a_this : Nat) (a_cards : Nat) (a_county : Nat) (a_holes : Nat) (a_text : Nat) (a_letter : Nat) (a_where : Nat) (a_rank : Nat) (a_value : Nat) (a_hour : Nat) (a_readLetter : Nat) (a_readWhere : Nat) (a_readRank : Nat) (a_readValue : Nat) (a_readHour : Nat) (a_listName : Nat) (a_listDay : Nat) (a_voterName : Nat) (a_voterDay : Nat) (a_voterCounty : Nat) (a_heaps : Nat) (a_speed : Nat) (a_four : Nat) (a_byRules : Nat) (a_hours : Nat) (a_rest : Nat) (a_yet : Nat) (a_put : Nat) (v_kept : Int32) (v_length : Int32) (v_items : Int32) (v_readItems : Int32) (v_at : Int32) (v_lists : Int32) (v_voters : Int32) (v_needed : Int32) (v_text : Nat → Int32) : va_W := [(a_this, .inr (11, [.ref a_cards, .ref a_county, .ref a_holes, .int v_kept, .int v_length, .ref a_text, .int v_items, .ref a_letter, .ref a_where, .ref a_rank, .ref a_value, .ref a_hour, .int v_readItems, .ref a_readLetter, .ref a_readWhere, .ref a_readRank, .ref a_readValue, .ref a_readHour, .int v_at, .int v_lists, .ref a_listName, .ref a_listDay, .int v_voters, .ref a_voterName, .ref a_voterDay, .ref a_voterCounty, .int v_needed, .ref a_heaps, .ref a_speed, .ref a_four, .ref a_byRules, .ref a_hours, .ref a_rest, .ref a_yet, .ref a_put])), (a_text, .inl (cB, 200, .inl v_text))]
theorem hd_X11_write : yX11_write.cls = RX11 ∧ yX11_write.cls ≠ "java/lang/invoke/MethodHandle" ∧ yX11_write.cls ≠ "java/lang/invoke/VarHandle" ∧ (parseMethodDescriptor yX11_write.desc).map (fun d => d.parameters.length) = some 2 := by decide +kernel
abbrev rm_X11_write : Room := { frames := 1, cells := 0, slots := 0, locals := 25 }
theorem in_X11_write_X11 : ∀ w ∈ wsX110, w ∈ wsX11_write := fun w h => List.mem_cons_of_mem _ (List.mem_append_right _ h)
set_option maxHeartbeats 4000000 in
set_option maxRecDepth 100000 in
theorem c_X11_write (l : Launch) (D : va_G) (cB cI cJ : ClassId) (N : Nat) (a_this : Nat) (a_cards : Nat) (a_county : Nat) (a_holes : Nat) (a_text : Nat) (a_letter : Nat) (a_where : Nat) (a_rank : Nat) (a_value : Nat) (a_hour : Nat) (a_readLetter : Nat) (a_readWhere : Nat) (a_readRank : Nat) (a_readValue : Nat) (a_readHour : Nat) (a_listName : Nat) (a_listDay : Nat) (a_voterName : Nat) (a_voterDay : Nat) (a_voterCounty : Nat) (a_heaps : Nat) (a_speed : Nat) (a_four : Nat) (a_byRules : Nat) (a_hours : Nat) (a_rest : Nat) (a_yet : Nat) (a_put : Nat) (v_kept : Int32) (v_length : Int32) (v_items : Int32) (v_readItems : Int32) (v_at : Int32) (v_lists : Int32) (v_voters : Int32) (v_needed : Int32) (v_text : Nat → Int32) (x1 : Int32) (x2 : Int64) {r : Int32} {o_length : Int32} {o_text : Nat → Int32} (hf : f_X11_write N v_length v_text x1 x2 = some (r, o_length, o_text)) : MTi l yX11_write wsX11_write rm_X11_write D (wk_T cB cI cJ) [.ref a_this, .int x1, .long x2] (w_X11_write cB cI cJ a_this a_cards a_county a_holes a_text a_letter a_where a_rank a_value a_hour a_readLetter a_readWhere a_readRank a_readValue a_readHour a_listName a_listDay a_voterName a_voterDay a_voterCounty a_heaps a_speed a_four a_byRules a_hours a_rest a_yet a_put v_kept v_length v_items v_readItems v_at v_lists v_voters v_needed v_text) (w_X11_write cB cI cJ a_this a_cards a_county a_holes a_text a_letter a_where a_rank a_value a_hour a_readLetter a_readWhere a_readRank a_readValue a_readHour a_listName a_listDay a_voterName a_voterDay a_voterCounty a_heaps a_speed a_four a_byRules a_hours a_rest a_yet a_put v_kept o_length v_items v_readItems v_at v_lists v_voters v_needed o_text) r := by
  refine MTi.of (cc := cX11_write) (nL := 5) (rt := .int) (own := RX11) pn_X11 rfl rfl (Nat.le_of_ble_eq_true rfl) rfl ?_
  intro p e s m args below meth c A ls Q C hP hD hS hl hret
  obtain ⟨hx, hb, hml, hts, hown, hK, hN, hA, hlk⟩ := id C
  have hl : lv_has ls 5 [(0, .ref a_this), (1, .int x1), (2, .long x2)] := hl
  have L34 := wk_loopI (F := (fun k34 : Int32 → (Nat → Int32) → Int64 → Int32 → Option (Int32 × Int32 × (Nat → Int32)) => B_X11_write_34 N k34)) (bot := fun _ _ _ _ => none) (fun k34 : Int32 → (Nat → Int32) → Int64 → Int32 → Option (Int32 × Int32 × (Nat → Int32)) => ∀ (v_length : Int32) (v_text : Nat → Int32) (x2 : Int64) (x4 : Int32), k34 v_length v_text x2 x4 = some (r, o_length, o_text) → ∀ (H : Heap) (locs : List Loc) (ls : Array Slot), va_P D vwCl (w_X11_write cB cI cJ a_this a_cards a_county a_holes a_text a_letter a_where a_rank a_value a_hour a_readLetter a_readWhere a_readRank a_readValue a_readHour a_listName a_listDay a_voterName a_voterDay a_voterCounty a_heaps a_speed a_four a_byRules a_hours a_rest a_yet a_put v_kept v_length v_items v_readItems v_at v_lists v_voters v_needed v_text) H → va_D A (w_X11_write cB cI cJ a_this a_cards a_county a_holes a_text a_letter a_where a_rank a_value a_hour a_readLetter a_readWhere a_readRank a_readValue a_readHour a_listName a_listDay a_voterName a_voterDay a_voterCounty a_heaps a_speed a_four a_byRules a_hours a_rest a_yet a_put v_kept v_length v_items v_readItems v_at v_lists v_voters v_needed v_text) → va_S A s.heap H locs → lv_has ls 5 [(0, .ref a_this), (2, .long x2), (4, .int x4)] → W p l e rm_X11_write s m args below meth c H locs 0 0 Q (F0 m 34 ls [])) (by intro v_length v_text x2 x4 hf; exact wk_no hf) (by
    intro k34 ih34
    intro v_length v_text x2 x4 hf H locs ls hP hD hS hl
    have hf : B_X11_write_34 N k34 v_length v_text x2 x4 = some (r, o_length, o_text) := hf
    unfold B_X11_write_34 at hf
    refine lv_iload hx hb dX11_write_34 (lv_at hl 2 rfl) ?_
    refine lv_if_lt (tgt := 73) hx hb dX11_write_36 (by decide) (fun c1 => ?_) (fun c1 => ?_)
    · have hf := wk_itT hf c1
      refine lv_aload_n hx hb dX11_write_73 rfl (lv_at hl 0 rfl) ?_
      refine va_get (D := D) (ci := 11) (v := .int v_length) (C := RX11) (T := TX11) (N := 35) hx hb hts in_X11_write_X11 hown hK hP 0 rfl rfl 4 (by decide) (hts (.fieldLink RX11 139 "HangingCardsModel" "length" "I") (List.mem_of_getElem? (i := 2) rfl)) (fun _ h9 => h9) rfl dX11_write_74 ?_
      exact hret _ _ _ _ _ _ dX11_write_77 (wk_rt hf (fun z => z.1)) (wk_rt hf (fun z => w_X11_write cB cI cJ a_this a_cards a_county a_holes a_text a_letter a_where a_rank a_value a_hour a_readLetter a_readWhere a_readRank a_readValue a_readHour a_listName a_listDay a_voterName a_voterDay a_voterCounty a_heaps a_speed a_four a_byRules a_hours a_rest a_yet a_put v_kept (z.2.1) v_items v_readItems v_at v_lists v_voters v_needed (z.2.2))) hP hD hS
    · have hf := wk_itF hf c1
      refine lv_aload_n hx hb dX11_write_39 rfl (lv_at hl 0 rfl) ?_
      refine va_get (D := D) (ci := 11) (v := .ref a_text) (C := RX11) (T := TX11) (N := 35) hx hb hts in_X11_write_X11 hown hK hP 0 rfl rfl 5 (by decide) (hts (.fieldLink RX11 19 "HangingCardsModel" "text" "[B") (List.mem_of_getElem? (i := 3) rfl)) (fun _ h9 => h9) rfl dX11_write_40 ?_
      refine lv_aload_n hx hb dX11_write_43 rfl (lv_at hl 0 rfl) ?_
      refine va_get (D := D) (ci := 11) (v := .int v_length) (C := RX11) (T := TX11) (N := 35) hx hb hts in_X11_write_X11 hown hK hP 0 rfl rfl 4 (by decide) (hts (.fieldLink RX11 139 "HangingCardsModel" "length" "I") (List.mem_of_getElem? (i := 2) rfl)) (fun _ h9 => h9) rfl dX11_write_44 ?_
      refine lv_lload_n hx hb dX11_write_47 rfl (lv_at hl 1 rfl) ?_
      refine lv_bipush (v := (8 : Int32)) hx hb dX11_write_48 (by decide) ?_
      refine lv_iload hx hb dX11_write_50 (lv_at hl 2 rfl) ?_
      refine lv_imul hx hb dX11_write_52 ?_
      refine lv_lshr (v := (x2 >>> (((8 : Int32) * x4).toInt64 &&& 63))) hx hb dX11_write_53 rfl ?_
      refine lv_l2i (v := ((x2 >>> (((8 : Int32) * x4).toInt64 &&& 63)).toInt32)) hx hb dX11_write_54 rfl ?_
      refine lv_i2b (v := (((x2 >>> (((8 : Int32) * x4).toInt64 &&& 63)).toInt32).toInt8.toInt32)) hx hb dX11_write_55 rfl ?_
      obtain ⟨hi2, hf⟩ := wk_ckE hf
      refine va_bast hx hb hK hP hD hS 1 1 rfl rfl hi2 dX11_write_56 (fun H locs hP hD hS => ?_)
      have hP : va_P D vwCl (w_X11_write cB cI cJ a_this a_cards a_county a_holes a_text a_letter a_where a_rank a_value a_hour a_readLetter a_readWhere a_readRank a_readValue a_readHour a_listName a_listDay a_voterName a_voterDay a_voterCounty a_heaps a_speed a_four a_byRules a_hours a_rest a_yet a_put v_kept v_length v_items v_readItems v_at v_lists v_voters v_needed (upd v_text v_length.toNatClampNeg (vp_nar .byte (((x2 >>> (((8 : Int32) * x4).toInt64 &&& 63)).toInt32).toInt8.toInt32)))) H := hP
      have hD : va_D A (w_X11_write cB cI cJ a_this a_cards a_county a_holes a_text a_letter a_where a_rank a_value a_hour a_readLetter a_readWhere a_readRank a_readValue a_readHour a_listName a_listDay a_voterName a_voterDay a_voterCounty a_heaps a_speed a_four a_byRules a_hours a_rest a_yet a_put v_kept v_length v_items v_readItems v_at v_lists v_voters v_needed (upd v_text v_length.toNatClampNeg (vp_nar .byte (((x2 >>> (((8 : Int32) * x4).toInt64 &&& 63)).toInt32).toInt8.toInt32)))) := hD
      refine lv_aload_n hx hb dX11_write_57 rfl (lv_at hl 0 rfl) ?_
      refine lv_dup hx hb dX11_write_58 rfl ?_
      refine va_get (D := D) (ci := 11) (v := .int v_length) (C := RX11) (T := TX11) (N := 35) hx hb hts in_X11_write_X11 hown hK hP 0 rfl rfl 4 (by decide) (hts (.fieldLink RX11 139 "HangingCardsModel" "length" "I") (List.mem_of_getElem? (i := 2) rfl)) (fun _ h9 => h9) rfl dX11_write_59 ?_
      refine lv_iconst (v := (1 : Int32)) hx hb dX11_write_62 (by decide) ?_
      refine lv_iadd hx hb dX11_write_63 ?_
      refine va_put (D := D) (ci := 11) (v := .int (v_length + (1 : Int32))) (ty := .int) (C := RX11) (T := TX11) (N := 35) hx hb hts in_X11_write_X11 tyX11 tyX11_ok nmX11 hown hK hP hD hS 0 rfl rfl 4 (by decide) (hts (.fieldLink RX11 139 "HangingCardsModel" "length" "I") (List.mem_of_getElem? (i := 2) rfl)) (fun _ h9 => h9) rfl (by decide +kernel) rfl rfl (Nat.le_of_ble_eq_true rfl) dX11_write_64 (fun H locs hP hD hS => ?_)
      have hP : va_P D vwCl (w_X11_write cB cI cJ a_this a_cards a_county a_holes a_text a_letter a_where a_rank a_value a_hour a_readLetter a_readWhere a_readRank a_readValue a_readHour a_listName a_listDay a_voterName a_voterDay a_voterCounty a_heaps a_speed a_four a_byRules a_hours a_rest a_yet a_put v_kept (v_length + (1 : Int32)) v_items v_readItems v_at v_lists v_voters v_needed (upd v_text v_length.toNatClampNeg (vp_nar .byte (((x2 >>> (((8 : Int32) * x4).toInt64 &&& 63)).toInt32).toInt8.toInt32)))) H := hP
      have hD : va_D A (w_X11_write cB cI cJ a_this a_cards a_county a_holes a_text a_letter a_where a_rank a_value a_hour a_readLetter a_readWhere a_readRank a_readValue a_readHour a_listName a_listDay a_voterName a_voterDay a_voterCounty a_heaps a_speed a_four a_byRules a_hours a_rest a_yet a_put v_kept (v_length + (1 : Int32)) v_items v_readItems v_at v_lists v_voters v_needed (upd v_text v_length.toNatClampNeg (vp_nar .byte (((x2 >>> (((8 : Int32) * x4).toInt64 &&& 63)).toInt32).toInt8.toInt32)))) := hD
      obtain ⟨y3, ey3⟩ : ∃ y : Int32, y = x4 + (-1 : Int32) := ⟨_, rfl⟩
      have hf := wk_nmE hf ey3
      refine lv_iinc (v := y3) (lv' := [(4, .int y3), (0, .ref a_this), (2, .long x2)]) hx hb dX11_write_67 hl (k := 2) rfl (by rw [ey3]; rfl) (by decide) rfl (fun ls hl => ?_)
      refine lv_goto (tgt := 34) hx hb dX11_write_70 (by decide) ?_
      exact ih34 _ _ _ _ hf _ _ _ hP hD hS (lv_sub hl [1, 2, 0] rfl))
  unfold f_X11_write at hf
  refine lv_iload_n hx hb dX11_write_0 rfl (lv_at hl 1 rfl) ?_
  refine lv_i2l (v := (x1.toInt64)) hx hb dX11_write_1 rfl ?_
  refine lv_lconst (v := (1 : Int64)) hx hb dX11_write_2 (by decide) ?_
  refine lv_ldc2 (v := (8 : Int64)) hx hb hown (hts (.constantLong RX11 137 (8)) (List.mem_of_getElem? (i := 1) rfl)) dX11_write_3 ?_
  obtain ⟨r4, hc4, hf⟩ := wk_b1E hf
  refine wk_callSi2 C hP hD hS (c_X11_in l D cB cI cJ N (x1.toInt64) (1 : Int64) (8 : Int64) hc4) (va_cwS 3 hts gX11_write_X11_in rfl rfl rfl hd_X11_in.2 ⟨Nat.le_of_ble_eq_true rfl, Nat.le_of_ble_eq_true rfl⟩) hl.1 ⟨Nat.zero_le _, Nat.zero_le _⟩ [] [0, 1] 2 (by decide +kernel) rfl (Wn := w_X11_write cB cI cJ a_this a_cards a_county a_holes a_text a_letter a_where a_rank a_value a_hour a_readLetter a_readWhere a_readRank a_readValue a_readHour a_listName a_listDay a_voterName a_voterDay a_voterCounty a_heaps a_speed a_four a_byRules a_hours a_rest a_yet a_put v_kept v_length v_items v_readItems v_at v_lists v_voters v_needed v_text) rfl rfl rfl rfl rfl rfl rfl rfl (Nat.le_of_ble_eq_true rfl) dX11_write_6 (fun H locs hP hD hS => ?_)
  refine lv_if_ne (tgt := 14) hx hb dX11_write_9 (by decide) (fun c5 => ?_) (fun c5 => ?_)
  · have hf := wk_itF hf c5
    refine lv_aload_n hx hb dX11_write_14 rfl (lv_at hl 0 rfl) ?_
    refine va_get (D := D) (ci := 11) (v := .int v_length) (C := RX11) (T := TX11) (N := 35) hx hb hts in_X11_write_X11 hown hK hP 0 rfl rfl 4 (by decide) (hts (.fieldLink RX11 139 "HangingCardsModel" "length" "I") (List.mem_of_getElem? (i := 2) rfl)) (fun _ h9 => h9) rfl dX11_write_15 ?_
    refine lv_iload_n hx hb dX11_write_18 rfl (lv_at hl 1 rfl) ?_
    refine lv_iadd hx hb dX11_write_19 ?_
    refine lv_sipush (v := (200 : Int32)) hx hb dX11_write_20 (by decide) ?_
    refine lv_icmp_le (tgt := 29) hx hb dX11_write_23 (by decide) (fun c6 => ?_) (fun c6 => ?_)
    · have hf := wk_itT hf c6
      refine lv_iload_n hx hb dX11_write_29 rfl (lv_at hl 1 rfl) ?_
      refine lv_iconst (v := (1 : Int32)) hx hb dX11_write_30 (by decide) ?_
      refine lv_isub hx hb dX11_write_31 ?_
      refine lv_topi (fun y7 ey7 => ?_)
      have hf := wk_nmE hf ey7
      refine lv_istore (lv' := [(4, .int y7), (0, .ref a_this), (1, .int x1), (2, .long x2)]) hx hb dX11_write_32 hl (by decide) rfl (fun ls hl => ?_)
      exact L34 N _ _ _ _ hf _ _ _ hP hD hS (lv_sub hl [1, 3, 0] rfl)
    · have hf := wk_itF hf c6
      refine lv_bipush (v := (-3 : Int32)) hx hb dX11_write_26 (by decide) ?_
      exact hret _ _ _ _ _ _ dX11_write_28 (wk_rt hf (fun z => z.1)) (wk_rt hf (fun z => w_X11_write cB cI cJ a_this a_cards a_county a_holes a_text a_letter a_where a_rank a_value a_hour a_readLetter a_readWhere a_readRank a_readValue a_readHour a_listName a_listDay a_voterName a_voterDay a_voterCounty a_heaps a_speed a_four a_byRules a_hours a_rest a_yet a_put v_kept (z.2.1) v_items v_readItems v_at v_lists v_voters v_needed (z.2.2))) hP hD hS
  · have hf := wk_itT hf c5
    refine lv_iconst (v := (-1 : Int32)) hx hb dX11_write_12 (by decide) ?_
    exact hret _ _ _ _ _ _ dX11_write_13 (wk_rt hf (fun z => z.1)) (wk_rt hf (fun z => w_X11_write cB cI cJ a_this a_cards a_county a_holes a_text a_letter a_where a_rank a_value a_hour a_readLetter a_readWhere a_readRank a_readValue a_readHour a_listName a_listDay a_voterName a_voterDay a_voterCounty a_heaps a_speed a_four a_byRules a_hours a_rest a_yet a_put v_kept (z.2.1) v_items v_readItems v_at v_lists v_voters v_needed (z.2.2))) hP hD hS
abbrev w_X11_wipe (cB cI cJ : ClassId) (a_this : Nat) (a_cards : Nat) (a_county : Nat) (a_holes : Nat) (a_text : Nat) (a_letter : Nat) (a_where : Nat) (a_rank : Nat) (a_value : Nat) (a_hour : Nat) (a_readLetter : Nat) (a_readWhere : Nat) (a_readRank : Nat) (a_readValue : Nat) (a_readHour : Nat) (a_listName : Nat) (a_listDay : Nat) (a_voterName : Nat) (a_voterDay : Nat) (a_voterCounty : Nat) (a_heaps : Nat) (a_speed : Nat) (a_four : Nat) (a_byRules : Nat) (a_hours : Nat) (a_rest : Nat) (a_yet : Nat) (a_put : Nat) (v_kept : Int32) (v_length : Int32) (v_items : Int32) (v_readItems : Int32) (v_at : Int32) (v_lists : Int32) (v_voters : Int32) (v_needed : Int32) : va_W := [(a_this, .inr (11, [.ref a_cards, .ref a_county, .ref a_holes, .int v_kept, .int v_length, .ref a_text, .int v_items, .ref a_letter, .ref a_where, .ref a_rank, .ref a_value, .ref a_hour, .int v_readItems, .ref a_readLetter, .ref a_readWhere, .ref a_readRank, .ref a_readValue, .ref a_readHour, .int v_at, .int v_lists, .ref a_listName, .ref a_listDay, .int v_voters, .ref a_voterName, .ref a_voterDay, .ref a_voterCounty, .int v_needed, .ref a_heaps, .ref a_speed, .ref a_four, .ref a_byRules, .ref a_hours, .ref a_rest, .ref a_yet, .ref a_put]))]
theorem hd_X11_wipe : yX11_wipe.cls = RX11 ∧ yX11_wipe.cls ≠ "java/lang/invoke/MethodHandle" ∧ yX11_wipe.cls ≠ "java/lang/invoke/VarHandle" ∧ (parseMethodDescriptor yX11_wipe.desc).map (fun d => d.parameters.length) = some 0 := by decide +kernel
abbrev rm_X11_wipe : Room := { frames := 0, cells := 0, slots := 0, locals := 0 }
theorem in_X11_wipe_X11 : ∀ w ∈ wsX110, w ∈ wsX11_wipe := fun w h => List.mem_cons_of_mem _ (List.mem_append_right _ h)
set_option maxHeartbeats 4000000 in
set_option maxRecDepth 100000 in
theorem c_X11_wipe (l : Launch) (D : va_G) (cB cI cJ : ClassId) (N : Nat) (a_this : Nat) (a_cards : Nat) (a_county : Nat) (a_holes : Nat) (a_text : Nat) (a_letter : Nat) (a_where : Nat) (a_rank : Nat) (a_value : Nat) (a_hour : Nat) (a_readLetter : Nat) (a_readWhere : Nat) (a_readRank : Nat) (a_readValue : Nat) (a_readHour : Nat) (a_listName : Nat) (a_listDay : Nat) (a_voterName : Nat) (a_voterDay : Nat) (a_voterCounty : Nat) (a_heaps : Nat) (a_speed : Nat) (a_four : Nat) (a_byRules : Nat) (a_hours : Nat) (a_rest : Nat) (a_yet : Nat) (a_put : Nat) (v_kept : Int32) (v_length : Int32) (v_items : Int32) (v_readItems : Int32) (v_at : Int32) (v_lists : Int32) (v_voters : Int32) (v_needed : Int32) {r : Int32} {o_length : Int32} (hf : f_X11_wipe N v_length = some (r, o_length)) : MTi l yX11_wipe wsX11_wipe rm_X11_wipe D (wk_T cB cI cJ) [.ref a_this] (w_X11_wipe cB cI cJ a_this a_cards a_county a_holes a_text a_letter a_where a_rank a_value a_hour a_readLetter a_readWhere a_readRank a_readValue a_readHour a_listName a_listDay a_voterName a_voterDay a_voterCounty a_heaps a_speed a_four a_byRules a_hours a_rest a_yet a_put v_kept v_length v_items v_readItems v_at v_lists v_voters v_needed) (w_X11_wipe cB cI cJ a_this a_cards a_county a_holes a_text a_letter a_where a_rank a_value a_hour a_readLetter a_readWhere a_readRank a_readValue a_readHour a_listName a_listDay a_voterName a_voterDay a_voterCounty a_heaps a_speed a_four a_byRules a_hours a_rest a_yet a_put v_kept o_length v_items v_readItems v_at v_lists v_voters v_needed) r := by
  refine MTi.of (cc := cX11_wipe) (nL := 2) (rt := .int) (own := RX11) pn_X11 rfl rfl (Nat.le_of_ble_eq_true rfl) rfl ?_
  intro p e s m args below meth c A ls Q C hP hD hS hl hret
  obtain ⟨hx, hb, hml, hts, hown, hK, hN, hA, hlk⟩ := id C
  have hl : lv_has ls 2 [(0, .ref a_this)] := hl
  unfold f_X11_wipe at hf
  refine lv_aload_n hx hb dX11_wipe_0 rfl (lv_at hl 0 rfl) ?_
  refine va_get (D := D) (ci := 11) (v := .int v_length) (C := RX11) (T := TX11) (N := 35) hx hb hts in_X11_wipe_X11 hown hK hP 0 rfl rfl 4 (by decide) (hts (.fieldLink RX11 139 "HangingCardsModel" "length" "I") (List.mem_of_getElem? (i := 1) rfl)) (fun _ h9 => h9) rfl dX11_wipe_1 ?_
  refine lv_istore_n (lv' := [(1, .int v_length), (0, .ref a_this)]) hx hb dX11_wipe_4 rfl hl (by decide) rfl (fun ls hl => ?_)
  refine lv_aload_n hx hb dX11_wipe_5 rfl (lv_at hl 1 rfl) ?_
  refine lv_iconst (v := (0 : Int32)) hx hb dX11_wipe_6 (by decide) ?_
  refine va_put (D := D) (ci := 11) (v := .int (0 : Int32)) (ty := .int) (C := RX11) (T := TX11) (N := 35) hx hb hts in_X11_wipe_X11 tyX11 tyX11_ok nmX11 hown hK hP hD hS 0 rfl rfl 4 (by decide) (hts (.fieldLink RX11 139 "HangingCardsModel" "length" "I") (List.mem_of_getElem? (i := 1) rfl)) (fun _ h9 => h9) rfl (by decide +kernel) rfl rfl (Nat.le_of_ble_eq_true rfl) dX11_wipe_7 (fun H locs hP hD hS => ?_)
  have hP : va_P D vwCl (w_X11_wipe cB cI cJ a_this a_cards a_county a_holes a_text a_letter a_where a_rank a_value a_hour a_readLetter a_readWhere a_readRank a_readValue a_readHour a_listName a_listDay a_voterName a_voterDay a_voterCounty a_heaps a_speed a_four a_byRules a_hours a_rest a_yet a_put v_kept (0 : Int32) v_items v_readItems v_at v_lists v_voters v_needed) H := hP
  have hD : va_D A (w_X11_wipe cB cI cJ a_this a_cards a_county a_holes a_text a_letter a_where a_rank a_value a_hour a_readLetter a_readWhere a_readRank a_readValue a_readHour a_listName a_listDay a_voterName a_voterDay a_voterCounty a_heaps a_speed a_four a_byRules a_hours a_rest a_yet a_put v_kept (0 : Int32) v_items v_readItems v_at v_lists v_voters v_needed) := hD
  refine lv_iload_n hx hb dX11_wipe_10 rfl (lv_at hl 0 rfl) ?_
  exact hret _ _ _ _ _ _ dX11_wipe_11 (wk_rt hf (fun z => z.1)) (wk_rt hf (fun z => w_X11_wipe cB cI cJ a_this a_cards a_county a_holes a_text a_letter a_where a_rank a_value a_hour a_readLetter a_readWhere a_readRank a_readValue a_readHour a_listName a_listDay a_voterName a_voterDay a_voterCounty a_heaps a_speed a_four a_byRules a_hours a_rest a_yet a_put v_kept (z.2) v_items v_readItems v_at v_lists v_voters v_needed)) hP hD hS
