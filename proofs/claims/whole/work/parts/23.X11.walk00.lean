abbrev w_X11_in (cB cI cJ : ClassId) : va_W := []
theorem hd_X11_in : yX11_in.cls = RX11 ∧ yX11_in.cls ≠ "java/lang/invoke/MethodHandle" ∧ yX11_in.cls ≠ "java/lang/invoke/VarHandle" ∧ (parseMethodDescriptor yX11_in.desc).map (fun d => d.parameters.length) = some 3 := by decide +kernel
abbrev rm_X11_in : Room := { frames := 0, cells := 0, slots := 0, locals := 0 }
set_option maxHeartbeats 4000000 in
set_option maxRecDepth 100000 in
theorem c_X11_in (l : Launch) (D : va_G) (cB cI cJ : ClassId) (N : Nat) (x0 : Int64) (x2 : Int64) (x4 : Int64) {r : Bool} (hf : f_X11_in N x0 x2 x4 = some r) : MTi l yX11_in wsX11_in rm_X11_in D (wk_T cB cI cJ) [.long x0, .long x2, .long x4] (w_X11_in cB cI cJ) (w_X11_in cB cI cJ) (wk_bI r) := by
  refine MTi.of (cc := cX11_in) (nL := 6) (rt := .boolean) (own := RX11) pn_X11 rfl rfl (Nat.le_of_ble_eq_true rfl) (wk_nz r) ?_
  intro p e s m args below meth c A ls Q C hP hD hS hl hret
  obtain ⟨hx, hb, hml, hts, hown, hK, hN, hA, hlk⟩ := id C
  have hl : lv_has ls 6 [(0, .long x0), (2, .long x2), (4, .long x4)] := hl
  unfold f_X11_in at hf
  refine lv_lload_n hx hb dX11_in_0 rfl (lv_at hl 0 rfl) ?_
  refine lv_lload_n hx hb dX11_in_1 rfl (lv_at hl 1 rfl) ?_
  refine W.lcmp hx hb dX11_in_2 ?_
  refine lv_if_lt (tgt := 17) hx hb dX11_in_3 (by decide) (fun c1 => ?_) (fun c1 => ?_)
  · have hf := wk_itT hf c1
    refine lv_iconst (v := (0 : Int32)) hx hb dX11_in_17 (by decide) ?_
    exact hret _ _ _ _ _ _ dX11_in_18 (wk_rt hf (fun z => wk_bI z)) rfl hP hD hS
  · have hf := wk_itF hf c1
    refine lv_lload_n hx hb dX11_in_6 rfl (lv_at hl 0 rfl) ?_
    refine lv_lload hx hb dX11_in_7 (lv_at hl 2 rfl) ?_
    refine W.lcmp hx hb dX11_in_9 ?_
    refine lv_if_gt (tgt := 17) hx hb dX11_in_10 (by decide) (fun c2 => ?_) (fun c2 => ?_)
    · have hf := wk_itT hf c2
      refine lv_iconst (v := (0 : Int32)) hx hb dX11_in_17 (by decide) ?_
      exact hret _ _ _ _ _ _ dX11_in_18 (wk_rt hf (fun z => wk_bI z)) rfl hP hD hS
    · have hf := wk_itF hf c2
      refine lv_iconst (v := (1 : Int32)) hx hb dX11_in_13 (by decide) ?_
      refine lv_goto (tgt := 18) hx hb dX11_in_14 (by decide) ?_
      exact hret _ _ _ _ _ _ dX11_in_18 (wk_rt hf (fun z => wk_bI z)) rfl hP hD hS
abbrev w_X11_has (cB cI cJ : ClassId) : va_W := []
theorem hd_X11_has : yX11_has.cls = RX11 ∧ yX11_has.cls ≠ "java/lang/invoke/MethodHandle" ∧ yX11_has.cls ≠ "java/lang/invoke/VarHandle" ∧ (parseMethodDescriptor yX11_has.desc).map (fun d => d.parameters.length) = some 2 := by decide +kernel
abbrev rm_X11_has : Room := { frames := 0, cells := 0, slots := 0, locals := 0 }
set_option maxHeartbeats 4000000 in
set_option maxRecDepth 100000 in
theorem c_X11_has (l : Launch) (D : va_G) (cB cI cJ : ClassId) (N : Nat) (x0 : Int32) (x1 : Int32) {r : Bool} (hf : f_X11_has N x0 x1 = some r) : MTi l yX11_has wsX11_has rm_X11_has D (wk_T cB cI cJ) [.int x0, .int x1] (w_X11_has cB cI cJ) (w_X11_has cB cI cJ) (wk_bI r) := by
  refine MTi.of (cc := cX11_has) (nL := 2) (rt := .boolean) (own := RX11) pn_X11 rfl rfl (Nat.le_of_ble_eq_true rfl) (wk_nz r) ?_
  intro p e s m args below meth c A ls Q C hP hD hS hl hret
  obtain ⟨hx, hb, hml, hts, hown, hK, hN, hA, hlk⟩ := id C
  have hl : lv_has ls 2 [(0, .int x0), (1, .int x1)] := hl
  unfold f_X11_has at hf
  refine lv_iload_n hx hb dX11_has_0 rfl (lv_at hl 0 rfl) ?_
  refine lv_iload_n hx hb dX11_has_1 rfl (lv_at hl 1 rfl) ?_
  refine lv_ishr hx hb dX11_has_2 ?_
  refine lv_iconst (v := (1 : Int32)) hx hb dX11_has_3 (by decide) ?_
  refine lv_iand hx hb dX11_has_4 ?_
  refine lv_iconst (v := (1 : Int32)) hx hb dX11_has_5 (by decide) ?_
  refine lv_icmp_ne (tgt := 13) hx hb dX11_has_6 (by decide) (fun c1 => ?_) (fun c1 => ?_)
  · have hf := wk_itF hf c1
    refine lv_iconst (v := (0 : Int32)) hx hb dX11_has_13 (by decide) ?_
    exact hret _ _ _ _ _ _ dX11_has_14 (wk_rt hf (fun z => wk_bI z)) rfl hP hD hS
  · have hf := wk_itT hf c1
    refine lv_iconst (v := (1 : Int32)) hx hb dX11_has_9 (by decide) ?_
    refine lv_goto (tgt := 14) hx hb dX11_has_10 (by decide) ?_
    exact hret _ _ _ _ _ _ dX11_has_14 (wk_rt hf (fun z => wk_bI z)) rfl hP hD hS
abbrev w_X11_size (cB cI cJ : ClassId) : va_W := []
theorem hd_X11_size : yX11_size.cls = RX11 ∧ yX11_size.cls ≠ "java/lang/invoke/MethodHandle" ∧ yX11_size.cls ≠ "java/lang/invoke/VarHandle" ∧ (parseMethodDescriptor yX11_size.desc).map (fun d => d.parameters.length) = some 1 := by decide +kernel
abbrev rm_X11_size : Room := { frames := 1, cells := 0, slots := 0, locals := 21 }
set_option maxHeartbeats 4000000 in
set_option maxRecDepth 100000 in
theorem c_X11_size (l : Launch) (D : va_G) (cB cI cJ : ClassId) (N : Nat) (x0 : Int32) {r : Int32} (hf : f_X11_size N x0 = some r) : MTi l yX11_size wsX11_size rm_X11_size D (wk_T cB cI cJ) [.int x0] (w_X11_size cB cI cJ) (w_X11_size cB cI cJ) r := by
  refine MTi.of (cc := cX11_size) (nL := 3) (rt := .int) (own := RX11) pn_X11 rfl rfl (Nat.le_of_ble_eq_true rfl) rfl ?_
  intro p e s m args below meth c A ls Q C hP hD hS hl hret
  obtain ⟨hx, hb, hml, hts, hown, hK, hN, hA, hlk⟩ := id C
  have hl : lv_has ls 3 [(0, .int x0)] := hl
  have L4 := wk_loopI (F := (fun k4 : Int32 → Int32 → Int32 → Option Int32 => B_X11_size_4 N k4)) (bot := fun _ _ _ => none) (fun k4 : Int32 → Int32 → Int32 → Option Int32 => ∀ (x0 : Int32) (x1 : Int32) (x2 : Int32), k4 x0 x1 x2 = some r → ∀ (H : Heap) (locs : List Loc) (ls : Array Slot), va_P D vwCl (w_X11_size cB cI cJ) H → va_D A (w_X11_size cB cI cJ) → va_S A s.heap H locs → lv_has ls 3 [(0, .int x0), (1, .int x1), (2, .int x2)] → W p l e rm_X11_size s m args below meth c H locs 0 0 Q (F0 m 4 ls [])) (by intro x0 x1 x2 hf; exact wk_no hf) (by
    intro k4 ih4
    intro x0 x1 x2 hf H locs ls hP hD hS hl
    have hf : B_X11_size_4 N k4 x0 x1 x2 = some r := hf
    unfold B_X11_size_4 at hf
    refine lv_iload_n hx hb dX11_size_4 rfl (lv_at hl 2 rfl) ?_
    refine lv_bipush (v := (8 : Int32)) hx hb dX11_size_5 (by decide) ?_
    refine lv_icmp_ge (tgt := 32) hx hb dX11_size_7 (by decide) (fun c1 => ?_) (fun c1 => ?_)
    · have hf := wk_itT hf c1
      refine lv_iload_n hx hb dX11_size_32 rfl (lv_at hl 1 rfl) ?_
      exact hret _ _ _ _ _ _ dX11_size_33 (wk_rt hf (fun z => z)) rfl hP hD hS
    · have hf := wk_itF hf c1
      refine lv_iload_n hx hb dX11_size_10 rfl (lv_at hl 1 rfl) ?_
      refine lv_iload_n hx hb dX11_size_11 rfl (lv_at hl 0 rfl) ?_
      refine lv_iload_n hx hb dX11_size_12 rfl (lv_at hl 2 rfl) ?_
      obtain ⟨r2, hc2, hf⟩ := wk_b1E hf
      refine wk_callSi2 C hP hD hS (c_X11_has l D cB cI cJ N x0 x2 hc2) (va_cwS 2 hts gX11_size_X11_has rfl rfl rfl hd_X11_has.2 ⟨Nat.le_of_ble_eq_true rfl, Nat.le_of_ble_eq_true rfl⟩) hl.1 ⟨Nat.zero_le _, Nat.zero_le _⟩ [] [] 0 (by decide +kernel) rfl (Wn := w_X11_size cB cI cJ) rfl rfl rfl rfl rfl rfl rfl rfl (Nat.le_of_ble_eq_true rfl) dX11_size_13 (fun H locs hP hD hS => ?_)
      refine lv_if_eq (tgt := 23) hx hb dX11_size_16 (by decide) (fun c3 => ?_) (fun c3 => ?_)
      · have hf := wk_itT hf c3
        refine lv_iconst (v := (0 : Int32)) hx hb dX11_size_23 (by decide) ?_
        refine lv_iadd hx hb dX11_size_24 ?_
        refine lv_topi (fun y4 ey4 => ?_)
        have hf := wk_nmE hf ey4
        refine lv_istore_n (lv' := [(1, .int y4), (0, .int x0), (2, .int x2)]) hx hb dX11_size_25 rfl hl (by decide) rfl (fun ls hl => ?_)
        obtain ⟨y5, ey5⟩ : ∃ y : Int32, y = x2 + (1 : Int32) := ⟨_, rfl⟩
        have hf := wk_nmE hf ey5
        refine lv_iinc (v := y5) (lv' := [(2, .int y5), (1, .int y4), (0, .int x0)]) hx hb dX11_size_26 hl (k := 2) rfl (by rw [ey5]; rfl) (by decide) rfl (fun ls hl => ?_)
        refine lv_goto (tgt := 4) hx hb dX11_size_29 (by decide) ?_
        exact ih4 _ _ _ hf _ _ _ hP hD hS (lv_sub hl [2, 1, 0] rfl)
      · have hf := wk_itF hf c3
        refine lv_iconst (v := (1 : Int32)) hx hb dX11_size_19 (by decide) ?_
        refine lv_goto (tgt := 24) hx hb dX11_size_20 (by decide) ?_
        refine lv_iadd hx hb dX11_size_24 ?_
        refine lv_topi (fun y6 ey6 => ?_)
        have hf := wk_nmE hf ey6
        refine lv_istore_n (lv' := [(1, .int y6), (0, .int x0), (2, .int x2)]) hx hb dX11_size_25 rfl hl (by decide) rfl (fun ls hl => ?_)
        obtain ⟨y7, ey7⟩ : ∃ y : Int32, y = x2 + (1 : Int32) := ⟨_, rfl⟩
        have hf := wk_nmE hf ey7
        refine lv_iinc (v := y7) (lv' := [(2, .int y7), (1, .int y6), (0, .int x0)]) hx hb dX11_size_26 hl (k := 2) rfl (by rw [ey7]; rfl) (by decide) rfl (fun ls hl => ?_)
        refine lv_goto (tgt := 4) hx hb dX11_size_29 (by decide) ?_
        exact ih4 _ _ _ hf _ _ _ hP hD hS (lv_sub hl [2, 1, 0] rfl))
  unfold f_X11_size at hf
  refine lv_iconst (v := (0 : Int32)) hx hb dX11_size_0 (by decide) ?_
  refine lv_istore_n (lv' := [(1, .int (0 : Int32)), (0, .int x0)]) hx hb dX11_size_1 rfl hl (by decide) rfl (fun ls hl => ?_)
  refine lv_iconst (v := (0 : Int32)) hx hb dX11_size_2 (by decide) ?_
  refine lv_istore_n (lv' := [(2, .int (0 : Int32)), (1, .int (0 : Int32)), (0, .int x0)]) hx hb dX11_size_3 rfl hl (by decide) rfl (fun ls hl => ?_)
  exact L4 N _ _ _ hf _ _ _ hP hD hS (lv_sub hl [2, 1, 0] rfl)
abbrev w_X11_card (cB cI cJ : ClassId) (a_this : Nat) (a_cards : Nat) (a_county : Nat) (a_holes : Nat) (a_text : Nat) (a_letter : Nat) (a_where : Nat) (a_rank : Nat) (a_value : Nat) (a_hour : Nat) (a_readLetter : Nat) (a_readWhere : Nat) (a_readRank : Nat) (a_readValue : Nat) (a_readHour : Nat) (a_listName : Nat) (a_listDay : Nat) (a_voterName : Nat) (a_voterDay : Nat) (a_voterCounty : Nat) (a_heaps : Nat) (a_speed : Nat) (a_four : Nat) (a_byRules : Nat) (a_hours : Nat) (a_rest : Nat) (a_yet : Nat) (a_put : Nat) (v_kept : Int32) (v_length : Int32) (v_items : Int32) (v_readItems : Int32) (v_at : Int32) (v_lists : Int32) (v_voters : Int32) (v_needed : Int32) (v_cards : Nat → Int32) (v_county : Nat → Int32) (v_holes : Nat → Int32) : va_W := [(a_this, .inr (11, [.ref a_cards, .ref a_county, .ref a_holes, .int v_kept, .int v_length, .ref a_text, .int v_items, .ref a_letter, .ref a_where, .ref a_rank, .ref a_value, .ref a_hour, .int v_readItems, .ref a_readLetter, .ref a_readWhere, .ref a_readRank, .ref a_readValue, .ref a_readHour, .int v_at, .int v_lists, .ref a_listName, .ref a_listDay, .int v_voters, .ref a_voterName, .ref a_voterDay, .ref a_voterCounty, .int v_needed, .ref a_heaps, .ref a_speed, .ref a_four, .ref a_byRules, .ref a_hours, .ref a_rest, .ref a_yet, .ref a_put])), (a_cards, .inl (cI, 3, .inl v_cards)), (a_county, .inl (cI, 120, .inl v_county)), (a_holes, .inl (cI, 1440, .inl v_holes))]
theorem hd_X11_card : yX11_card.cls = RX11 ∧ yX11_card.cls ≠ "java/lang/invoke/MethodHandle" ∧ yX11_card.cls ≠ "java/lang/invoke/VarHandle" ∧ (parseMethodDescriptor yX11_card.desc).map (fun d => d.parameters.length) = some 2 := by decide +kernel
abbrev rm_X11_card : Room := { frames := 1, cells := 0, slots := 0, locals := 25 }
theorem in_X11_card_X11 : ∀ w ∈ wsX110, w ∈ wsX11_card := fun w h => List.mem_cons_of_mem _ (List.mem_append_right _ h)
set_option maxHeartbeats 4000000 in
set_option maxRecDepth 100000 in
theorem c_X11_card (l : Launch) (D : va_G) (cB cI cJ : ClassId) (N : Nat) (a_this : Nat) (a_cards : Nat) (a_county : Nat) (a_holes : Nat) (a_text : Nat) (a_letter : Nat) (a_where : Nat) (a_rank : Nat) (a_value : Nat) (a_hour : Nat) (a_readLetter : Nat) (a_readWhere : Nat) (a_readRank : Nat) (a_readValue : Nat) (a_readHour : Nat) (a_listName : Nat) (a_listDay : Nat) (a_voterName : Nat) (a_voterDay : Nat) (a_voterCounty : Nat) (a_heaps : Nat) (a_speed : Nat) (a_four : Nat) (a_byRules : Nat) (a_hours : Nat) (a_rest : Nat) (a_yet : Nat) (a_put : Nat) (v_kept : Int32) (v_length : Int32) (v_items : Int32) (v_readItems : Int32) (v_at : Int32) (v_lists : Int32) (v_voters : Int32) (v_needed : Int32) (v_cards : Nat → Int32) (v_county : Nat → Int32) (v_holes : Nat → Int32) (x1 : Int32) (x2 : Int64) {r : Int32} {o_cards : Nat → Int32} {o_county : Nat → Int32} {o_holes : Nat → Int32} (hf : f_X11_card N v_cards v_county v_holes x1 x2 = some (r, o_cards, o_county, o_holes)) : MTi l yX11_card wsX11_card rm_X11_card D (wk_T cB cI cJ) [.ref a_this, .int x1, .long x2] (w_X11_card cB cI cJ a_this a_cards a_county a_holes a_text a_letter a_where a_rank a_value a_hour a_readLetter a_readWhere a_readRank a_readValue a_readHour a_listName a_listDay a_voterName a_voterDay a_voterCounty a_heaps a_speed a_four a_byRules a_hours a_rest a_yet a_put v_kept v_length v_items v_readItems v_at v_lists v_voters v_needed v_cards v_county v_holes) (w_X11_card cB cI cJ a_this a_cards a_county a_holes a_text a_letter a_where a_rank a_value a_hour a_readLetter a_readWhere a_readRank a_readValue a_readHour a_listName a_listDay a_voterName a_voterDay a_voterCounty a_heaps a_speed a_four a_byRules a_hours a_rest a_yet a_put v_kept v_length v_items v_readItems v_at v_lists v_voters v_needed o_cards o_county o_holes) r := by
  refine MTi.of (cc := cX11_card) (nL := 7) (rt := .int) (own := RX11) pn_X11 rfl rfl (Nat.le_of_ble_eq_true rfl) rfl ?_
  intro p e s m args below meth c A ls Q C hP hD hS hl hret
  obtain ⟨hx, hb, hml, hts, hown, hK, hN, hA, hlk⟩ := id C
  have hl : lv_has ls 7 [(0, .ref a_this), (1, .int x1), (2, .long x2)] := hl
  have L46 := wk_loopI (F := (fun k46 : (Nat → Int32) → (Nat → Int32) → (Nat → Int32) → Int32 → Int64 → Int32 → Option (Int32 × (Nat → Int32) × (Nat → Int32) × (Nat → Int32)) => B_X11_card_46 N k46)) (bot := fun _ _ _ _ _ _ => none) (fun k46 : (Nat → Int32) → (Nat → Int32) → (Nat → Int32) → Int32 → Int64 → Int32 → Option (Int32 × (Nat → Int32) × (Nat → Int32) × (Nat → Int32)) => ∀ (v_cards : Nat → Int32) (v_county : Nat → Int32) (v_holes : Nat → Int32) (x1 : Int32) (x4 : Int64) (x6 : Int32), k46 v_cards v_county v_holes x1 x4 x6 = some (r, o_cards, o_county, o_holes) → ∀ (H : Heap) (locs : List Loc) (ls : Array Slot), va_P D vwCl (w_X11_card cB cI cJ a_this a_cards a_county a_holes a_text a_letter a_where a_rank a_value a_hour a_readLetter a_readWhere a_readRank a_readValue a_readHour a_listName a_listDay a_voterName a_voterDay a_voterCounty a_heaps a_speed a_four a_byRules a_hours a_rest a_yet a_put v_kept v_length v_items v_readItems v_at v_lists v_voters v_needed v_cards v_county v_holes) H → va_D A (w_X11_card cB cI cJ a_this a_cards a_county a_holes a_text a_letter a_where a_rank a_value a_hour a_readLetter a_readWhere a_readRank a_readValue a_readHour a_listName a_listDay a_voterName a_voterDay a_voterCounty a_heaps a_speed a_four a_byRules a_hours a_rest a_yet a_put v_kept v_length v_items v_readItems v_at v_lists v_voters v_needed v_cards v_county v_holes) → va_S A s.heap H locs → lv_has ls 7 [(0, .ref a_this), (1, .int x1), (4, .long x4), (6, .int x6)] → W p l e rm_X11_card s m args below meth c H locs 0 0 Q (F0 m 46 ls [])) (by intro v_cards v_county v_holes x1 x4 x6 hf; exact wk_no hf) (by
    intro k46 ih46
    intro v_cards v_county v_holes x1 x4 x6 hf H locs ls hP hD hS hl
    have hf : B_X11_card_46 N k46 v_cards v_county v_holes x1 x4 x6 = some (r, o_cards, o_county, o_holes) := hf
    unfold B_X11_card_46 at hf
    refine lv_iload hx hb dX11_card_46 (lv_at hl 3 rfl) ?_
    refine lv_if_lt (tgt := 89) hx hb dX11_card_48 (by decide) (fun c1 => ?_) (fun c1 => ?_)
    · have hf := wk_itT hf c1
      refine lv_aload_n hx hb dX11_card_89 rfl (lv_at hl 0 rfl) ?_
      refine va_get (D := D) (ci := 11) (v := .ref a_county) (C := RX11) (T := TX11) (N := 35) hx hb hts in_X11_card_X11 hown hK hP 0 rfl rfl 1 (by decide) (hts (.fieldLink RX11 13 "HangingCardsModel" "county" "[I") (List.mem_of_getElem? (i := 6) rfl)) (fun _ h9 => h9) rfl dX11_card_90 ?_
      refine lv_aload_n hx hb dX11_card_93 rfl (lv_at hl 0 rfl) ?_
      refine va_get (D := D) (ci := 11) (v := .ref a_cards) (C := RX11) (T := TX11) (N := 35) hx hb hts in_X11_card_X11 hown hK hP 0 rfl rfl 0 (by decide) (hts (.fieldLink RX11 7 "HangingCardsModel" "cards" "[I") (List.mem_of_getElem? (i := 3) rfl)) (fun _ h9 => h9) rfl dX11_card_94 ?_
      refine lv_iconst (v := (0 : Int32)) hx hb dX11_card_97 (by decide) ?_
      obtain ⟨hi2, hf⟩ := wk_ckE hf
      refine va_iald hx hb hK hP 1 0 rfl rfl hi2 dX11_card_98 ?_
      refine lv_iload_n hx hb dX11_card_99 rfl (lv_at hl 1 rfl) ?_
      obtain ⟨hi3, hf⟩ := wk_ckE hf
      refine va_iast hx hb hK hP hD hS 2 0 rfl rfl hi3 dX11_card_100 (fun H locs hP hD hS => ?_)
      have hP : va_P D vwCl (w_X11_card cB cI cJ a_this a_cards a_county a_holes a_text a_letter a_where a_rank a_value a_hour a_readLetter a_readWhere a_readRank a_readValue a_readHour a_listName a_listDay a_voterName a_voterDay a_voterCounty a_heaps a_speed a_four a_byRules a_hours a_rest a_yet a_put v_kept v_length v_items v_readItems v_at v_lists v_voters v_needed v_cards (upd v_county (v_cards (0 : Int32).toNatClampNeg).toNatClampNeg x1) v_holes) H := hP
      have hD : va_D A (w_X11_card cB cI cJ a_this a_cards a_county a_holes a_text a_letter a_where a_rank a_value a_hour a_readLetter a_readWhere a_readRank a_readValue a_readHour a_listName a_listDay a_voterName a_voterDay a_voterCounty a_heaps a_speed a_four a_byRules a_hours a_rest a_yet a_put v_kept v_length v_items v_readItems v_at v_lists v_voters v_needed v_cards (upd v_county (v_cards (0 : Int32).toNatClampNeg).toNatClampNeg x1) v_holes) := hD
      refine lv_aload_n hx hb dX11_card_101 rfl (lv_at hl 0 rfl) ?_
      refine va_get (D := D) (ci := 11) (v := .ref a_cards) (C := RX11) (T := TX11) (N := 35) hx hb hts in_X11_card_X11 hown hK hP 0 rfl rfl 0 (by decide) (hts (.fieldLink RX11 7 "HangingCardsModel" "cards" "[I") (List.mem_of_getElem? (i := 3) rfl)) (fun _ h9 => h9) rfl dX11_card_102 ?_
      refine lv_iconst (v := (0 : Int32)) hx hb dX11_card_105 (by decide) ?_
      refine lv_dup2_11 hx hb dX11_card_106 rfl rfl ?_
      obtain ⟨hi4, hf⟩ := wk_ckE hf
      refine va_iald hx hb hK hP 1 0 rfl rfl hi4 dX11_card_107 ?_
      refine lv_iconst (v := (1 : Int32)) hx hb dX11_card_108 (by decide) ?_
      refine lv_iadd hx hb dX11_card_109 ?_
      obtain ⟨hi5, hf⟩ := wk_ckE hf
      refine va_iast hx hb hK hP hD hS 1 0 rfl rfl hi5 dX11_card_110 (fun H locs hP hD hS => ?_)
      have hP : va_P D vwCl (w_X11_card cB cI cJ a_this a_cards a_county a_holes a_text a_letter a_where a_rank a_value a_hour a_readLetter a_readWhere a_readRank a_readValue a_readHour a_listName a_listDay a_voterName a_voterDay a_voterCounty a_heaps a_speed a_four a_byRules a_hours a_rest a_yet a_put v_kept v_length v_items v_readItems v_at v_lists v_voters v_needed (upd v_cards (0 : Int32).toNatClampNeg ((v_cards (0 : Int32).toNatClampNeg) + (1 : Int32))) (upd v_county (v_cards (0 : Int32).toNatClampNeg).toNatClampNeg x1) v_holes) H := hP
      have hD : va_D A (w_X11_card cB cI cJ a_this a_cards a_county a_holes a_text a_letter a_where a_rank a_value a_hour a_readLetter a_readWhere a_readRank a_readValue a_readHour a_listName a_listDay a_voterName a_voterDay a_voterCounty a_heaps a_speed a_four a_byRules a_hours a_rest a_yet a_put v_kept v_length v_items v_readItems v_at v_lists v_voters v_needed (upd v_cards (0 : Int32).toNatClampNeg ((v_cards (0 : Int32).toNatClampNeg) + (1 : Int32))) (upd v_county (v_cards (0 : Int32).toNatClampNeg).toNatClampNeg x1) v_holes) := hD
      refine lv_aload_n hx hb dX11_card_111 rfl (lv_at hl 0 rfl) ?_
      refine va_get (D := D) (ci := 11) (v := .ref a_cards) (C := RX11) (T := TX11) (N := 35) hx hb hts in_X11_card_X11 hown hK hP 0 rfl rfl 0 (by decide) (hts (.fieldLink RX11 7 "HangingCardsModel" "cards" "[I") (List.mem_of_getElem? (i := 3) rfl)) (fun _ h9 => h9) rfl dX11_card_112 ?_
      refine lv_iconst (v := (0 : Int32)) hx hb dX11_card_115 (by decide) ?_
      obtain ⟨hi6, hf⟩ := wk_ckE hf
      refine va_iald hx hb hK hP 1 0 rfl rfl hi6 dX11_card_116 ?_
      refine lv_iconst (v := (1 : Int32)) hx hb dX11_card_117 (by decide) ?_
      refine lv_isub hx hb dX11_card_118 ?_
      exact hret _ _ _ _ _ _ dX11_card_119 (wk_rt hf (fun z => z.1)) (wk_rt hf (fun z => w_X11_card cB cI cJ a_this a_cards a_county a_holes a_text a_letter a_where a_rank a_value a_hour a_readLetter a_readWhere a_readRank a_readValue a_readHour a_listName a_listDay a_voterName a_voterDay a_voterCounty a_heaps a_speed a_four a_byRules a_hours a_rest a_yet a_put v_kept v_length v_items v_readItems v_at v_lists v_voters v_needed (z.2.1) (z.2.2.1) (z.2.2.2))) hP hD hS
    · have hf := wk_itF hf c1
      refine lv_aload_n hx hb dX11_card_51 rfl (lv_at hl 0 rfl) ?_
      refine va_get (D := D) (ci := 11) (v := .ref a_holes) (C := RX11) (T := TX11) (N := 35) hx hb hts in_X11_card_X11 hown hK hP 0 rfl rfl 2 (by decide) (hts (.fieldLink RX11 16 "HangingCardsModel" "holes" "[I") (List.mem_of_getElem? (i := 4) rfl)) (fun _ h9 => h9) rfl dX11_card_52 ?_
      refine lv_bipush (v := (12 : Int32)) hx hb dX11_card_55 (by decide) ?_
      refine lv_aload_n hx hb dX11_card_57 rfl (lv_at hl 0 rfl) ?_
      refine va_get (D := D) (ci := 11) (v := .ref a_cards) (C := RX11) (T := TX11) (N := 35) hx hb hts in_X11_card_X11 hown hK hP 0 rfl rfl 0 (by decide) (hts (.fieldLink RX11 7 "HangingCardsModel" "cards" "[I") (List.mem_of_getElem? (i := 3) rfl)) (fun _ h9 => h9) rfl dX11_card_58 ?_
      refine lv_iconst (v := (0 : Int32)) hx hb dX11_card_61 (by decide) ?_
      obtain ⟨hi7, hf⟩ := wk_ckE hf
      refine va_iald hx hb hK hP 1 0 rfl rfl hi7 dX11_card_62 ?_
      refine lv_imul hx hb dX11_card_63 ?_
      refine lv_iload hx hb dX11_card_64 (lv_at hl 3 rfl) ?_
      refine lv_iadd hx hb dX11_card_66 ?_
      refine lv_lload hx hb dX11_card_67 (lv_at hl 2 rfl) ?_
      refine lv_ldc2 (v := (6 : Int64)) hx hb hown (hts (.constantLong RX11 109 (6)) (List.mem_of_getElem? (i := 5) rfl)) dX11_card_69 ?_
      obtain ⟨hz8, hf⟩ := wk_dvlE hf
      refine lv_lrem hx hb dX11_card_72 hz8 ?_
      refine lv_l2i (v := ((x4 - x4 / (6 : Int64) * (6 : Int64)).toInt32)) hx hb dX11_card_73 rfl ?_
      obtain ⟨hi9, hf⟩ := wk_ckE hf
      refine va_iast hx hb hK hP hD hS 3 0 rfl rfl hi9 dX11_card_74 (fun H locs hP hD hS => ?_)
      have hP : va_P D vwCl (w_X11_card cB cI cJ a_this a_cards a_county a_holes a_text a_letter a_where a_rank a_value a_hour a_readLetter a_readWhere a_readRank a_readValue a_readHour a_listName a_listDay a_voterName a_voterDay a_voterCounty a_heaps a_speed a_four a_byRules a_hours a_rest a_yet a_put v_kept v_length v_items v_readItems v_at v_lists v_voters v_needed v_cards v_county (upd v_holes (((12 : Int32) * (v_cards (0 : Int32).toNatClampNeg)) + x6).toNatClampNeg ((x4 - x4 / (6 : Int64) * (6 : Int64)).toInt32))) H := hP
      have hD : va_D A (w_X11_card cB cI cJ a_this a_cards a_county a_holes a_text a_letter a_where a_rank a_value a_hour a_readLetter a_readWhere a_readRank a_readValue a_readHour a_listName a_listDay a_voterName a_voterDay a_voterCounty a_heaps a_speed a_four a_byRules a_hours a_rest a_yet a_put v_kept v_length v_items v_readItems v_at v_lists v_voters v_needed v_cards v_county (upd v_holes (((12 : Int32) * (v_cards (0 : Int32).toNatClampNeg)) + x6).toNatClampNeg ((x4 - x4 / (6 : Int64) * (6 : Int64)).toInt32))) := hD
      refine lv_lload hx hb dX11_card_75 (lv_at hl 2 rfl) ?_
      refine lv_ldc2 (v := (6 : Int64)) hx hb hown (hts (.constantLong RX11 109 (6)) (List.mem_of_getElem? (i := 5) rfl)) dX11_card_77 ?_
      obtain ⟨hz10, hf⟩ := wk_dvlE hf
      refine lv_ldiv hx hb dX11_card_80 hz10 ?_
      refine lv_topl (fun y11 ey11 => ?_)
      have hf := wk_nmE hf ey11
      refine lv_lstore (lv' := [(4, .long y11), (0, .ref a_this), (1, .int x1), (6, .int x6)]) hx hb dX11_card_81 hl (by decide) rfl (fun ls hl => ?_)
      obtain ⟨y12, ey12⟩ : ∃ y : Int32, y = x6 + (-1 : Int32) := ⟨_, rfl⟩
      have hf := wk_nmE hf ey12
      refine lv_iinc (v := y12) (lv' := [(6, .int y12), (4, .long y11), (0, .ref a_this), (1, .int x1)]) hx hb dX11_card_83 hl (k := 3) rfl (by rw [ey12]; rfl) (by decide) rfl (fun ls hl => ?_)
      refine lv_goto (tgt := 46) hx hb dX11_card_86 (by decide) ?_
      exact ih46 _ _ _ _ _ _ hf _ _ _ hP hD hS (lv_sub hl [2, 3, 1, 0] rfl))
  unfold f_X11_card at hf
  refine lv_iload_n hx hb dX11_card_0 rfl (lv_at hl 1 rfl) ?_
  refine lv_i2l (v := (x1.toInt64)) hx hb dX11_card_1 rfl ?_
  refine lv_lconst (v := (0 : Int64)) hx hb dX11_card_2 (by decide) ?_
  refine lv_ldc2 (v := (4 : Int64)) hx hb hown (hts (.constantLong RX11 101 (4)) (List.mem_of_getElem? (i := 1) rfl)) dX11_card_3 ?_
  obtain ⟨r13, hc13, hf⟩ := wk_b1E hf
  refine wk_callSi2 C hP hD hS (c_X11_in l D cB cI cJ N (x1.toInt64) (0 : Int64) (4 : Int64) hc13) (va_cwS 3 hts gX11_card_X11_in rfl rfl rfl hd_X11_in.2 ⟨Nat.le_of_ble_eq_true rfl, Nat.le_of_ble_eq_true rfl⟩) hl.1 ⟨Nat.zero_le _, Nat.zero_le _⟩ [] [0, 1, 2, 3] 4 (by decide +kernel) rfl (Wn := w_X11_card cB cI cJ a_this a_cards a_county a_holes a_text a_letter a_where a_rank a_value a_hour a_readLetter a_readWhere a_readRank a_readValue a_readHour a_listName a_listDay a_voterName a_voterDay a_voterCounty a_heaps a_speed a_four a_byRules a_hours a_rest a_yet a_put v_kept v_length v_items v_readItems v_at v_lists v_voters v_needed v_cards v_county v_holes) rfl rfl rfl rfl rfl rfl rfl rfl (Nat.le_of_ble_eq_true rfl) dX11_card_6 (fun H locs hP hD hS => ?_)
  refine lv_if_eq (tgt := 23) hx hb dX11_card_9 (by decide) (fun c14 => ?_) (fun c14 => ?_)
  · have hf := wk_itT hf c14
    refine lv_iconst (v := (-1 : Int32)) hx hb dX11_card_23 (by decide) ?_
    exact hret _ _ _ _ _ _ dX11_card_24 (wk_rt hf (fun z => z.1)) (wk_rt hf (fun z => w_X11_card cB cI cJ a_this a_cards a_county a_holes a_text a_letter a_where a_rank a_value a_hour a_readLetter a_readWhere a_readRank a_readValue a_readHour a_listName a_listDay a_voterName a_voterDay a_voterCounty a_heaps a_speed a_four a_byRules a_hours a_rest a_yet a_put v_kept v_length v_items v_readItems v_at v_lists v_voters v_needed (z.2.1) (z.2.2.1) (z.2.2.2))) hP hD hS
  · have hf := wk_itF hf c14
    refine lv_lload_n hx hb dX11_card_12 rfl (lv_at hl 2 rfl) ?_
    refine lv_lconst (v := (0 : Int64)) hx hb dX11_card_13 (by decide) ?_
    refine lv_ldc2 (v := (2176782335 : Int64)) hx hb hown (hts (.constantLong RX11 107 (2176782335)) (List.mem_of_getElem? (i := 2) rfl)) dX11_card_14 ?_
    obtain ⟨r15, hc15, hf⟩ := wk_b1E hf
    refine wk_callSi2 C hP hD hS (c_X11_in l D cB cI cJ N x2 (0 : Int64) (2176782335 : Int64) hc15) (va_cwS 3 hts gX11_card_X11_in rfl rfl rfl hd_X11_in.2 ⟨Nat.le_of_ble_eq_true rfl, Nat.le_of_ble_eq_true rfl⟩) hl.1 ⟨Nat.zero_le _, Nat.zero_le _⟩ [] [0, 1, 2, 3] 4 (by decide +kernel) rfl (Wn := w_X11_card cB cI cJ a_this a_cards a_county a_holes a_text a_letter a_where a_rank a_value a_hour a_readLetter a_readWhere a_readRank a_readValue a_readHour a_listName a_listDay a_voterName a_voterDay a_voterCounty a_heaps a_speed a_four a_byRules a_hours a_rest a_yet a_put v_kept v_length v_items v_readItems v_at v_lists v_voters v_needed v_cards v_county v_holes) rfl rfl rfl rfl rfl rfl rfl rfl (Nat.le_of_ble_eq_true rfl) dX11_card_17 (fun H locs hP hD hS => ?_)
    refine lv_if_ne (tgt := 25) hx hb dX11_card_20 (by decide) (fun c16 => ?_) (fun c16 => ?_)
    · have hf := wk_itF hf c16
      refine lv_aload_n hx hb dX11_card_25 rfl (lv_at hl 0 rfl) ?_
      refine va_get (D := D) (ci := 11) (v := .ref a_cards) (C := RX11) (T := TX11) (N := 35) hx hb hts in_X11_card_X11 hown hK hP 0 rfl rfl 0 (by decide) (hts (.fieldLink RX11 7 "HangingCardsModel" "cards" "[I") (List.mem_of_getElem? (i := 3) rfl)) (fun _ h9 => h9) rfl dX11_card_26 ?_
      refine lv_iconst (v := (0 : Int32)) hx hb dX11_card_29 (by decide) ?_
      obtain ⟨hi17, hf⟩ := wk_ckE hf
      refine va_iald hx hb hK hP 1 0 rfl rfl hi17 dX11_card_30 ?_
      refine lv_bipush (v := (40 : Int32)) hx hb dX11_card_31 (by decide) ?_
      refine lv_icmp_ne (tgt := 39) hx hb dX11_card_33 (by decide) (fun c18 => ?_) (fun c18 => ?_)
      · have hf := wk_itF hf c18
        refine lv_lload_n hx hb dX11_card_39 rfl (lv_at hl 2 rfl) ?_
        refine lv_lstore (lv' := [(4, .long x2), (0, .ref a_this), (1, .int x1), (2, .long x2)]) hx hb dX11_card_40 hl (by decide) rfl (fun ls hl => ?_)
        refine lv_bipush (v := (11 : Int32)) hx hb dX11_card_42 (by decide) ?_
        refine lv_istore (lv' := [(6, .int (11 : Int32)), (4, .long x2), (0, .ref a_this), (1, .int x1), (2, .long x2)]) hx hb dX11_card_44 hl (by decide) rfl (fun ls hl => ?_)
        exact L46 N _ _ _ _ _ _ hf _ _ _ hP hD hS (lv_sub hl [2, 3, 1, 0] rfl)
      · have hf := wk_itT hf c18
        refine lv_bipush (v := (-3 : Int32)) hx hb dX11_card_36 (by decide) ?_
        exact hret _ _ _ _ _ _ dX11_card_38 (wk_rt hf (fun z => z.1)) (wk_rt hf (fun z => w_X11_card cB cI cJ a_this a_cards a_county a_holes a_text a_letter a_where a_rank a_value a_hour a_readLetter a_readWhere a_readRank a_readValue a_readHour a_listName a_listDay a_voterName a_voterDay a_voterCounty a_heaps a_speed a_four a_byRules a_hours a_rest a_yet a_put v_kept v_length v_items v_readItems v_at v_lists v_voters v_needed (z.2.1) (z.2.2.1) (z.2.2.2))) hP hD hS
    · have hf := wk_itT hf c16
      refine lv_iconst (v := (-1 : Int32)) hx hb dX11_card_23 (by decide) ?_
      exact hret _ _ _ _ _ _ dX11_card_24 (wk_rt hf (fun z => z.1)) (wk_rt hf (fun z => w_X11_card cB cI cJ a_this a_cards a_county a_holes a_text a_letter a_where a_rank a_value a_hour a_readLetter a_readWhere a_readRank a_readValue a_readHour a_listName a_listDay a_voterName a_voterDay a_voterCounty a_heaps a_speed a_four a_byRules a_hours a_rest a_yet a_put v_kept v_length v_items v_readItems v_at v_lists v_voters v_needed (z.2.1) (z.2.2.1) (z.2.2.2))) hP hD hS
abbrev w_X11_isCard (cB cI cJ : ClassId) (a_this : Nat) (a_cards : Nat) (a_county : Nat) (a_holes : Nat) (a_text : Nat) (a_letter : Nat) (a_where : Nat) (a_rank : Nat) (a_value : Nat) (a_hour : Nat) (a_readLetter : Nat) (a_readWhere : Nat) (a_readRank : Nat) (a_readValue : Nat) (a_readHour : Nat) (a_listName : Nat) (a_listDay : Nat) (a_voterName : Nat) (a_voterDay : Nat) (a_voterCounty : Nat) (a_heaps : Nat) (a_speed : Nat) (a_four : Nat) (a_byRules : Nat) (a_hours : Nat) (a_rest : Nat) (a_yet : Nat) (a_put : Nat) (v_kept : Int32) (v_length : Int32) (v_items : Int32) (v_readItems : Int32) (v_at : Int32) (v_lists : Int32) (v_voters : Int32) (v_needed : Int32) (v_cards : Nat → Int32) : va_W := [(a_this, .inr (11, [.ref a_cards, .ref a_county, .ref a_holes, .int v_kept, .int v_length, .ref a_text, .int v_items, .ref a_letter, .ref a_where, .ref a_rank, .ref a_value, .ref a_hour, .int v_readItems, .ref a_readLetter, .ref a_readWhere, .ref a_readRank, .ref a_readValue, .ref a_readHour, .int v_at, .int v_lists, .ref a_listName, .ref a_listDay, .int v_voters, .ref a_voterName, .ref a_voterDay, .ref a_voterCounty, .int v_needed, .ref a_heaps, .ref a_speed, .ref a_four, .ref a_byRules, .ref a_hours, .ref a_rest, .ref a_yet, .ref a_put])), (a_cards, .inl (cI, 3, .inl v_cards))]
theorem hd_X11_isCard : yX11_isCard.cls = RX11 ∧ yX11_isCard.cls ≠ "java/lang/invoke/MethodHandle" ∧ yX11_isCard.cls ≠ "java/lang/invoke/VarHandle" ∧ (parseMethodDescriptor yX11_isCard.desc).map (fun d => d.parameters.length) = some 1 := by decide +kernel
abbrev rm_X11_isCard : Room := { frames := 1, cells := 0, slots := 0, locals := 25 }
theorem in_X11_isCard_X11 : ∀ w ∈ wsX110, w ∈ wsX11_isCard := fun w h => List.mem_cons_of_mem _ (List.mem_append_right _ h)
set_option maxHeartbeats 4000000 in
set_option maxRecDepth 100000 in
theorem c_X11_isCard (l : Launch) (D : va_G) (cB cI cJ : ClassId) (N : Nat) (a_this : Nat) (a_cards : Nat) (a_county : Nat) (a_holes : Nat) (a_text : Nat) (a_letter : Nat) (a_where : Nat) (a_rank : Nat) (a_value : Nat) (a_hour : Nat) (a_readLetter : Nat) (a_readWhere : Nat) (a_readRank : Nat) (a_readValue : Nat) (a_readHour : Nat) (a_listName : Nat) (a_listDay : Nat) (a_voterName : Nat) (a_voterDay : Nat) (a_voterCounty : Nat) (a_heaps : Nat) (a_speed : Nat) (a_four : Nat) (a_byRules : Nat) (a_hours : Nat) (a_rest : Nat) (a_yet : Nat) (a_put : Nat) (v_kept : Int32) (v_length : Int32) (v_items : Int32) (v_readItems : Int32) (v_at : Int32) (v_lists : Int32) (v_voters : Int32) (v_needed : Int32) (v_cards : Nat → Int32) (x1 : Int32) {r : Bool} (hf : f_X11_isCard N v_cards x1 = some r) : MTi l yX11_isCard wsX11_isCard rm_X11_isCard D (wk_T cB cI cJ) [.ref a_this, .int x1] (w_X11_isCard cB cI cJ a_this a_cards a_county a_holes a_text a_letter a_where a_rank a_value a_hour a_readLetter a_readWhere a_readRank a_readValue a_readHour a_listName a_listDay a_voterName a_voterDay a_voterCounty a_heaps a_speed a_four a_byRules a_hours a_rest a_yet a_put v_kept v_length v_items v_readItems v_at v_lists v_voters v_needed v_cards) (w_X11_isCard cB cI cJ a_this a_cards a_county a_holes a_text a_letter a_where a_rank a_value a_hour a_readLetter a_readWhere a_readRank a_readValue a_readHour a_listName a_listDay a_voterName a_voterDay a_voterCounty a_heaps a_speed a_four a_byRules a_hours a_rest a_yet a_put v_kept v_length v_items v_readItems v_at v_lists v_voters v_needed v_cards) (wk_bI r) := by
  refine MTi.of (cc := cX11_isCard) (nL := 2) (rt := .boolean) (own := RX11) pn_X11 rfl rfl (Nat.le_of_ble_eq_true rfl) (wk_nz r) ?_
  intro p e s m args below meth c A ls Q C hP hD hS hl hret
  obtain ⟨hx, hb, hml, hts, hown, hK, hN, hA, hlk⟩ := id C
  have hl : lv_has ls 2 [(0, .ref a_this), (1, .int x1)] := hl
  unfold f_X11_isCard at hf
  refine lv_iload_n hx hb dX11_isCard_0 rfl (lv_at hl 1 rfl) ?_
  refine lv_i2l (v := (x1.toInt64)) hx hb dX11_isCard_1 rfl ?_
  refine lv_lconst (v := (0 : Int64)) hx hb dX11_isCard_2 (by decide) ?_
  refine lv_aload_n hx hb dX11_isCard_3 rfl (lv_at hl 0 rfl) ?_
  refine va_get (D := D) (ci := 11) (v := .ref a_cards) (C := RX11) (T := TX11) (N := 35) hx hb hts in_X11_isCard_X11 hown hK hP 0 rfl rfl 0 (by decide) (hts (.fieldLink RX11 7 "HangingCardsModel" "cards" "[I") (List.mem_of_getElem? (i := 1) rfl)) (fun _ h9 => h9) rfl dX11_isCard_4 ?_
  refine lv_iconst (v := (0 : Int32)) hx hb dX11_isCard_7 (by decide) ?_
  obtain ⟨hi1, hf⟩ := wk_ckE hf
  refine va_iald hx hb hK hP 1 0 rfl rfl hi1 dX11_isCard_8 ?_
  refine lv_iconst (v := (1 : Int32)) hx hb dX11_isCard_9 (by decide) ?_
  refine lv_isub hx hb dX11_isCard_10 ?_
  refine lv_i2l (v := (((v_cards (0 : Int32).toNatClampNeg) - (1 : Int32)).toInt64)) hx hb dX11_isCard_11 rfl ?_
  obtain ⟨r2, hc2, hf⟩ := wk_b1E hf
  refine wk_callSi2 C hP hD hS (c_X11_in l D cB cI cJ N (x1.toInt64) (0 : Int64) (((v_cards (0 : Int32).toNatClampNeg) - (1 : Int32)).toInt64) hc2) (va_cwS 3 hts gX11_isCard_X11_in rfl rfl rfl hd_X11_in.2 ⟨Nat.le_of_ble_eq_true rfl, Nat.le_of_ble_eq_true rfl⟩) hl.1 ⟨Nat.zero_le _, Nat.zero_le _⟩ [] [0, 1] 2 (by decide +kernel) rfl (Wn := w_X11_isCard cB cI cJ a_this a_cards a_county a_holes a_text a_letter a_where a_rank a_value a_hour a_readLetter a_readWhere a_readRank a_readValue a_readHour a_listName a_listDay a_voterName a_voterDay a_voterCounty a_heaps a_speed a_four a_byRules a_hours a_rest a_yet a_put v_kept v_length v_items v_readItems v_at v_lists v_voters v_needed v_cards) rfl rfl rfl rfl rfl rfl rfl rfl (Nat.le_of_ble_eq_true rfl) dX11_isCard_12 (fun H locs hP hD hS => ?_)
  exact hret _ _ _ _ _ _ dX11_isCard_15 (wk_rt hf (fun z => wk_bI z)) rfl hP hD hS
abbrev w_X11_hole (cB cI cJ : ClassId) (a_this : Nat) (a_cards : Nat) (a_county : Nat) (a_holes : Nat) (a_text : Nat) (a_letter : Nat) (a_where : Nat) (a_rank : Nat) (a_value : Nat) (a_hour : Nat) (a_readLetter : Nat) (a_readWhere : Nat) (a_readRank : Nat) (a_readValue : Nat) (a_readHour : Nat) (a_listName : Nat) (a_listDay : Nat) (a_voterName : Nat) (a_voterDay : Nat) (a_voterCounty : Nat) (a_heaps : Nat) (a_speed : Nat) (a_four : Nat) (a_byRules : Nat) (a_hours : Nat) (a_rest : Nat) (a_yet : Nat) (a_put : Nat) (v_kept : Int32) (v_length : Int32) (v_items : Int32) (v_readItems : Int32) (v_at : Int32) (v_lists : Int32) (v_voters : Int32) (v_needed : Int32) (v_cards : Nat → Int32) (v_holes : Nat → Int32) : va_W := [(a_this, .inr (11, [.ref a_cards, .ref a_county, .ref a_holes, .int v_kept, .int v_length, .ref a_text, .int v_items, .ref a_letter, .ref a_where, .ref a_rank, .ref a_value, .ref a_hour, .int v_readItems, .ref a_readLetter, .ref a_readWhere, .ref a_readRank, .ref a_readValue, .ref a_readHour, .int v_at, .int v_lists, .ref a_listName, .ref a_listDay, .int v_voters, .ref a_voterName, .ref a_voterDay, .ref a_voterCounty, .int v_needed, .ref a_heaps, .ref a_speed, .ref a_four, .ref a_byRules, .ref a_hours, .ref a_rest, .ref a_yet, .ref a_put])), (a_cards, .inl (cI, 3, .inl v_cards)), (a_holes, .inl (cI, 1440, .inl v_holes))]
theorem hd_X11_hole : yX11_hole.cls = RX11 ∧ yX11_hole.cls ≠ "java/lang/invoke/MethodHandle" ∧ yX11_hole.cls ≠ "java/lang/invoke/VarHandle" ∧ (parseMethodDescriptor yX11_hole.desc).map (fun d => d.parameters.length) = some 3 := by decide +kernel
abbrev rm_X11_hole : Room := { frames := 2, cells := 0, slots := 0, locals := 46 }
theorem in_X11_hole_X11 : ∀ w ∈ wsX110, w ∈ wsX11_hole := fun w h => List.mem_cons_of_mem _ (List.mem_append_right _ h)
set_option maxHeartbeats 4000000 in
set_option maxRecDepth 100000 in
theorem c_X11_hole (l : Launch) (D : va_G) (cB cI cJ : ClassId) (N : Nat) (a_this : Nat) (a_cards : Nat) (a_county : Nat) (a_holes : Nat) (a_text : Nat) (a_letter : Nat) (a_where : Nat) (a_rank : Nat) (a_value : Nat) (a_hour : Nat) (a_readLetter : Nat) (a_readWhere : Nat) (a_readRank : Nat) (a_readValue : Nat) (a_readHour : Nat) (a_listName : Nat) (a_listDay : Nat) (a_voterName : Nat) (a_voterDay : Nat) (a_voterCounty : Nat) (a_heaps : Nat) (a_speed : Nat) (a_four : Nat) (a_byRules : Nat) (a_hours : Nat) (a_rest : Nat) (a_yet : Nat) (a_put : Nat) (v_kept : Int32) (v_length : Int32) (v_items : Int32) (v_readItems : Int32) (v_at : Int32) (v_lists : Int32) (v_voters : Int32) (v_needed : Int32) (v_cards : Nat → Int32) (v_holes : Nat → Int32) (x1 : Int32) (x2 : Int32) (x3 : Int32) {r : Int32} (hf : f_X11_hole N v_cards v_holes x1 x2 x3 = some r) : MTi l yX11_hole wsX11_hole rm_X11_hole D (wk_T cB cI cJ) [.ref a_this, .int x1, .int x2, .int x3] (w_X11_hole cB cI cJ a_this a_cards a_county a_holes a_text a_letter a_where a_rank a_value a_hour a_readLetter a_readWhere a_readRank a_readValue a_readHour a_listName a_listDay a_voterName a_voterDay a_voterCounty a_heaps a_speed a_four a_byRules a_hours a_rest a_yet a_put v_kept v_length v_items v_readItems v_at v_lists v_voters v_needed v_cards v_holes) (w_X11_hole cB cI cJ a_this a_cards a_county a_holes a_text a_letter a_where a_rank a_value a_hour a_readLetter a_readWhere a_readRank a_readValue a_readHour a_listName a_listDay a_voterName a_voterDay a_voterCounty a_heaps a_speed a_four a_byRules a_hours a_rest a_yet a_put v_kept v_length v_items v_readItems v_at v_lists v_voters v_needed v_cards v_holes) r := by
  refine MTi.of (cc := cX11_hole) (nL := 4) (rt := .int) (own := RX11) pn_X11 rfl rfl (Nat.le_of_ble_eq_true rfl) rfl ?_
  intro p e s m args below meth c A ls Q C hP hD hS hl hret
  obtain ⟨hx, hb, hml, hts, hown, hK, hN, hA, hlk⟩ := id C
  have hl : lv_has ls 4 [(0, .ref a_this), (1, .int x1), (2, .int x2), (3, .int x3)] := hl
  unfold f_X11_hole at hf
  refine lv_aload_n hx hb dX11_hole_0 rfl (lv_at hl 0 rfl) ?_
  refine lv_iload_n hx hb dX11_hole_1 rfl (lv_at hl 1 rfl) ?_
  obtain ⟨r1, hc1, hf⟩ := wk_b1E hf
  refine wk_callVi2 C hP hD hS (c_X11_isCard l D cB cI cJ N a_this a_cards a_county a_holes a_text a_letter a_where a_rank a_value a_hour a_readLetter a_readWhere a_readRank a_readValue a_readHour a_listName a_listDay a_voterName a_voterDay a_voterCounty a_heaps a_speed a_four a_byRules a_hours a_rest a_yet a_put v_kept v_length v_items v_readItems v_at v_lists v_voters v_needed v_cards x1 hc1) (cwV 1 hts gX11_hole_X11_isCard rfl rfl rfl hd_X11_isCard ⟨Nat.le_of_ble_eq_true rfl, Nat.le_of_ble_eq_true rfl⟩) hl.1 ⟨Nat.zero_le _, Nat.zero_le _⟩ [0, 1] [2] 3 (by decide +kernel) rfl (Wn := w_X11_hole cB cI cJ a_this a_cards a_county a_holes a_text a_letter a_where a_rank a_value a_hour a_readLetter a_readWhere a_readRank a_readValue a_readHour a_listName a_listDay a_voterName a_voterDay a_voterCounty a_heaps a_speed a_four a_byRules a_hours a_rest a_yet a_put v_kept v_length v_items v_readItems v_at v_lists v_voters v_needed v_cards v_holes) rfl rfl rfl rfl rfl rfl (ci := 11) rfl rfl (q0 := 0) rfl rfl rfl (Nat.le_of_ble_eq_true rfl) dX11_hole_2 (fun H locs hP hD hS => ?_)
  refine lv_if_eq (tgt := 50) hx hb dX11_hole_5 (by decide) (fun c2 => ?_) (fun c2 => ?_)
  · have hf := wk_itT hf c2
    refine lv_iconst (v := (-1 : Int32)) hx hb dX11_hole_50 (by decide) ?_
    exact hret _ _ _ _ _ _ dX11_hole_51 (wk_rt hf (fun z => z)) rfl hP hD hS
  · have hf := wk_itF hf c2
    refine lv_iload_n hx hb dX11_hole_8 rfl (lv_at hl 2 rfl) ?_
    refine lv_i2l (v := (x2.toInt64)) hx hb dX11_hole_9 rfl ?_
    refine lv_lconst (v := (0 : Int64)) hx hb dX11_hole_10 (by decide) ?_
    refine lv_ldc2 (v := (2 : Int64)) hx hb hown (hts (.constantLong RX11 115 (2)) (List.mem_of_getElem? (i := 1) rfl)) dX11_hole_11 ?_
    obtain ⟨r3, hc3, hf⟩ := wk_b1E hf
    refine wk_callSi2 C hP hD hS (c_X11_in l D cB cI cJ N (x2.toInt64) (0 : Int64) (2 : Int64) hc3) (va_cwS 3 hts gX11_hole_X11_in rfl rfl rfl hd_X11_in.2 ⟨Nat.le_of_ble_eq_true rfl, Nat.le_of_ble_eq_true rfl⟩) hl.1 ⟨Nat.zero_le _, Nat.zero_le _⟩ [] [0, 1, 2] 3 (by decide +kernel) rfl (Wn := w_X11_hole cB cI cJ a_this a_cards a_county a_holes a_text a_letter a_where a_rank a_value a_hour a_readLetter a_readWhere a_readRank a_readValue a_readHour a_listName a_listDay a_voterName a_voterDay a_voterCounty a_heaps a_speed a_four a_byRules a_hours a_rest a_yet a_put v_kept v_length v_items v_readItems v_at v_lists v_voters v_needed v_cards v_holes) rfl rfl rfl rfl rfl rfl rfl rfl (Nat.le_of_ble_eq_true rfl) dX11_hole_14 (fun H locs hP hD hS => ?_)
    refine lv_if_eq (tgt := 50) hx hb dX11_hole_17 (by decide) (fun c4 => ?_) (fun c4 => ?_)
    · have hf := wk_itT hf c4
      refine lv_iconst (v := (-1 : Int32)) hx hb dX11_hole_50 (by decide) ?_
      exact hret _ _ _ _ _ _ dX11_hole_51 (wk_rt hf (fun z => z)) rfl hP hD hS
    · have hf := wk_itF hf c4
      refine lv_iload_n hx hb dX11_hole_20 rfl (lv_at hl 3 rfl) ?_
      refine lv_i2l (v := (x3.toInt64)) hx hb dX11_hole_21 rfl ?_
      refine lv_lconst (v := (0 : Int64)) hx hb dX11_hole_22 (by decide) ?_
      refine lv_ldc2 (v := (3 : Int64)) hx hb hown (hts (.constantLong RX11 117 (3)) (List.mem_of_getElem? (i := 2) rfl)) dX11_hole_23 ?_
      obtain ⟨r5, hc5, hf⟩ := wk_b1E hf
      refine wk_callSi2 C hP hD hS (c_X11_in l D cB cI cJ N (x3.toInt64) (0 : Int64) (3 : Int64) hc5) (va_cwS 3 hts gX11_hole_X11_in rfl rfl rfl hd_X11_in.2 ⟨Nat.le_of_ble_eq_true rfl, Nat.le_of_ble_eq_true rfl⟩) hl.1 ⟨Nat.zero_le _, Nat.zero_le _⟩ [] [0, 1, 2] 3 (by decide +kernel) rfl (Wn := w_X11_hole cB cI cJ a_this a_cards a_county a_holes a_text a_letter a_where a_rank a_value a_hour a_readLetter a_readWhere a_readRank a_readValue a_readHour a_listName a_listDay a_voterName a_voterDay a_voterCounty a_heaps a_speed a_four a_byRules a_hours a_rest a_yet a_put v_kept v_length v_items v_readItems v_at v_lists v_voters v_needed v_cards v_holes) rfl rfl rfl rfl rfl rfl rfl rfl (Nat.le_of_ble_eq_true rfl) dX11_hole_26 (fun H locs hP hD hS => ?_)
      refine lv_if_eq (tgt := 50) hx hb dX11_hole_29 (by decide) (fun c6 => ?_) (fun c6 => ?_)
      · have hf := wk_itT hf c6
        refine lv_iconst (v := (-1 : Int32)) hx hb dX11_hole_50 (by decide) ?_
        exact hret _ _ _ _ _ _ dX11_hole_51 (wk_rt hf (fun z => z)) rfl hP hD hS
      · have hf := wk_itF hf c6
        refine lv_aload_n hx hb dX11_hole_32 rfl (lv_at hl 0 rfl) ?_
        refine va_get (D := D) (ci := 11) (v := .ref a_holes) (C := RX11) (T := TX11) (N := 35) hx hb hts in_X11_hole_X11 hown hK hP 0 rfl rfl 2 (by decide) (hts (.fieldLink RX11 16 "HangingCardsModel" "holes" "[I") (List.mem_of_getElem? (i := 3) rfl)) (fun _ h9 => h9) rfl dX11_hole_33 ?_
        refine lv_bipush (v := (12 : Int32)) hx hb dX11_hole_36 (by decide) ?_
        refine lv_iload_n hx hb dX11_hole_38 rfl (lv_at hl 1 rfl) ?_
        refine lv_imul hx hb dX11_hole_39 ?_
        refine lv_iconst (v := (4 : Int32)) hx hb dX11_hole_40 (by decide) ?_
        refine lv_iload_n hx hb dX11_hole_41 rfl (lv_at hl 2 rfl) ?_
        refine lv_imul hx hb dX11_hole_42 ?_
        refine lv_iadd hx hb dX11_hole_43 ?_
        refine lv_iload_n hx hb dX11_hole_44 rfl (lv_at hl 3 rfl) ?_
        refine lv_iadd hx hb dX11_hole_45 ?_
        obtain ⟨hi7, hf⟩ := wk_ckE hf
        refine va_iald hx hb hK hP 2 0 rfl rfl hi7 dX11_hole_46 ?_
        refine lv_goto (tgt := 51) hx hb dX11_hole_47 (by decide) ?_
        exact hret _ _ _ _ _ _ dX11_hole_51 (wk_rt hf (fun z => z)) rfl hP hD hS
abbrev w_X11_handles (cB cI cJ : ClassId) (a_this : Nat) (a_cards : Nat) (a_county : Nat) (a_holes : Nat) (a_text : Nat) (a_letter : Nat) (a_where : Nat) (a_rank : Nat) (a_value : Nat) (a_hour : Nat) (a_readLetter : Nat) (a_readWhere : Nat) (a_readRank : Nat) (a_readValue : Nat) (a_readHour : Nat) (a_listName : Nat) (a_listDay : Nat) (a_voterName : Nat) (a_voterDay : Nat) (a_voterCounty : Nat) (a_heaps : Nat) (a_speed : Nat) (a_four : Nat) (a_byRules : Nat) (a_hours : Nat) (a_rest : Nat) (a_yet : Nat) (a_put : Nat) (v_kept : Int32) (v_length : Int32) (v_items : Int32) (v_readItems : Int32) (v_at : Int32) (v_lists : Int32) (v_voters : Int32) (v_needed : Int32) (v_holes : Nat → Int32) : va_W := [(a_this, .inr (11, [.ref a_cards, .ref a_county, .ref a_holes, .int v_kept, .int v_length, .ref a_text, .int v_items, .ref a_letter, .ref a_where, .ref a_rank, .ref a_value, .ref a_hour, .int v_readItems, .ref a_readLetter, .ref a_readWhere, .ref a_readRank, .ref a_readValue, .ref a_readHour, .int v_at, .int v_lists, .ref a_listName, .ref a_listDay, .int v_voters, .ref a_voterName, .ref a_voterDay, .ref a_voterCounty, .int v_needed, .ref a_heaps, .ref a_speed, .ref a_four, .ref a_byRules, .ref a_hours, .ref a_rest, .ref a_yet, .ref a_put])), (a_holes, .inl (cI, 1440, .inl v_holes))]
theorem hd_X11_handles : yX11_handles.cls = RX11 ∧ yX11_handles.cls ≠ "java/lang/invoke/MethodHandle" ∧ yX11_handles.cls ≠ "java/lang/invoke/VarHandle" ∧ (parseMethodDescriptor yX11_handles.desc).map (fun d => d.parameters.length) = some 2 := by decide +kernel
abbrev rm_X11_handles : Room := { frames := 1, cells := 0, slots := 0, locals := 25 }
theorem in_X11_handles_X11 : ∀ w ∈ wsX110, w ∈ wsX11_handles := fun w h => List.mem_cons_of_mem _ (List.mem_append_right _ h)
set_option maxHeartbeats 4000000 in
set_option maxRecDepth 100000 in
theorem c_X11_handles (l : Launch) (D : va_G) (cB cI cJ : ClassId) (N : Nat) (a_this : Nat) (a_cards : Nat) (a_county : Nat) (a_holes : Nat) (a_text : Nat) (a_letter : Nat) (a_where : Nat) (a_rank : Nat) (a_value : Nat) (a_hour : Nat) (a_readLetter : Nat) (a_readWhere : Nat) (a_readRank : Nat) (a_readValue : Nat) (a_readHour : Nat) (a_listName : Nat) (a_listDay : Nat) (a_voterName : Nat) (a_voterDay : Nat) (a_voterCounty : Nat) (a_heaps : Nat) (a_speed : Nat) (a_four : Nat) (a_byRules : Nat) (a_hours : Nat) (a_rest : Nat) (a_yet : Nat) (a_put : Nat) (v_kept : Int32) (v_length : Int32) (v_items : Int32) (v_readItems : Int32) (v_at : Int32) (v_lists : Int32) (v_voters : Int32) (v_needed : Int32) (v_holes : Nat → Int32) (x1 : Int32) (x2 : Int32) {r : Int32} {o_holes : Nat → Int32} (hf : f_X11_handles N v_holes x1 x2 = some (r, o_holes)) : MTi l yX11_handles wsX11_handles rm_X11_handles D (wk_T cB cI cJ) [.ref a_this, .int x1, .int x2] (w_X11_handles cB cI cJ a_this a_cards a_county a_holes a_text a_letter a_where a_rank a_value a_hour a_readLetter a_readWhere a_readRank a_readValue a_readHour a_listName a_listDay a_voterName a_voterDay a_voterCounty a_heaps a_speed a_four a_byRules a_hours a_rest a_yet a_put v_kept v_length v_items v_readItems v_at v_lists v_voters v_needed v_holes) (w_X11_handles cB cI cJ a_this a_cards a_county a_holes a_text a_letter a_where a_rank a_value a_hour a_readLetter a_readWhere a_readRank a_readValue a_readHour a_listName a_listDay a_voterName a_voterDay a_voterCounty a_heaps a_speed a_four a_byRules a_hours a_rest a_yet a_put v_kept v_length v_items v_readItems v_at v_lists v_voters v_needed o_holes) r := by
  refine MTi.of (cc := cX11_handles) (nL := 5) (rt := .int) (own := RX11) pn_X11 rfl rfl (Nat.le_of_ble_eq_true rfl) rfl ?_
  intro p e s m args below meth c A ls Q C hP hD hS hl hret
  obtain ⟨hx, hb, hml, hts, hown, hK, hN, hA, hlk⟩ := id C
  have hl : lv_has ls 5 [(0, .ref a_this), (1, .int x1), (2, .int x2)] := hl
  have L8 := wk_loopI (F := (fun k8 : (Nat → Int32) → Int32 → Int32 → Int32 → Int32 → Option (Int32 × (Nat → Int32)) => B_X11_handles_8 N k8)) (bot := fun _ _ _ _ _ => none) (fun k8 : (Nat → Int32) → Int32 → Int32 → Int32 → Int32 → Option (Int32 × (Nat → Int32)) => ∀ (v_holes : Nat → Int32) (x1 : Int32) (x2 : Int32) (x3 : Int32) (x4 : Int32), k8 v_holes x1 x2 x3 x4 = some (r, o_holes) → ∀ (H : Heap) (locs : List Loc) (ls : Array Slot), va_P D vwCl (w_X11_handles cB cI cJ a_this a_cards a_county a_holes a_text a_letter a_where a_rank a_value a_hour a_readLetter a_readWhere a_readRank a_readValue a_readHour a_listName a_listDay a_voterName a_voterDay a_voterCounty a_heaps a_speed a_four a_byRules a_hours a_rest a_yet a_put v_kept v_length v_items v_readItems v_at v_lists v_voters v_needed v_holes) H → va_D A (w_X11_handles cB cI cJ a_this a_cards a_county a_holes a_text a_letter a_where a_rank a_value a_hour a_readLetter a_readWhere a_readRank a_readValue a_readHour a_listName a_listDay a_voterName a_voterDay a_voterCounty a_heaps a_speed a_four a_byRules a_hours a_rest a_yet a_put v_kept v_length v_items v_readItems v_at v_lists v_voters v_needed v_holes) → va_S A s.heap H locs → lv_has ls 5 [(0, .ref a_this), (1, .int x1), (2, .int x2), (3, .int x3), (4, .int x4)] → W p l e rm_X11_handles s m args below meth c H locs 0 0 Q (F0 m 8 ls [])) (by intro v_holes x1 x2 x3 x4 hf; exact wk_no hf) (by
    intro k8 ih8
    intro v_holes x1 x2 x3 x4 hf H locs ls hP hD hS hl
    have hf : B_X11_handles_8 N k8 v_holes x1 x2 x3 x4 = some (r, o_holes) := hf
    unfold B_X11_handles_8 at hf
    refine lv_iload hx hb dX11_handles_8 (lv_at hl 4 rfl) ?_
    refine lv_bipush (v := (12 : Int32)) hx hb dX11_handles_10 (by decide) ?_
    refine lv_iload_n hx hb dX11_handles_12 rfl (lv_at hl 1 rfl) ?_
    refine lv_imul hx hb dX11_handles_13 ?_
    refine lv_bipush (v := (12 : Int32)) hx hb dX11_handles_14 (by decide) ?_
    refine lv_iadd hx hb dX11_handles_16 ?_
    refine lv_icmp_ge (tgt := 61) hx hb dX11_handles_17 (by decide) (fun c1 => ?_) (fun c1 => ?_)
    · have hf := wk_itT hf c1
      refine lv_iload_n hx hb dX11_handles_61 rfl (lv_at hl 3 rfl) ?_
      exact hret _ _ _ _ _ _ dX11_handles_62 (wk_rt hf (fun z => z.1)) (wk_rt hf (fun z => w_X11_handles cB cI cJ a_this a_cards a_county a_holes a_text a_letter a_where a_rank a_value a_hour a_readLetter a_readWhere a_readRank a_readValue a_readHour a_listName a_listDay a_voterName a_voterDay a_voterCounty a_heaps a_speed a_four a_byRules a_hours a_rest a_yet a_put v_kept v_length v_items v_readItems v_at v_lists v_voters v_needed (z.2))) hP hD hS
    · have hf := wk_itF hf c1
      refine lv_aload_n hx hb dX11_handles_20 rfl (lv_at hl 0 rfl) ?_
      refine va_get (D := D) (ci := 11) (v := .ref a_holes) (C := RX11) (T := TX11) (N := 35) hx hb hts in_X11_handles_X11 hown hK hP 0 rfl rfl 2 (by decide) (hts (.fieldLink RX11 16 "HangingCardsModel" "holes" "[I") (List.mem_of_getElem? (i := 1) rfl)) (fun _ h9 => h9) rfl dX11_handles_21 ?_
      refine lv_iload hx hb dX11_handles_24 (lv_at hl 4 rfl) ?_
      obtain ⟨hi2, hf⟩ := wk_ckE hf
      refine va_iald hx hb hK hP 1 0 rfl rfl hi2 dX11_handles_26 ?_
      refine lv_i2l (v := ((v_holes x4.toNatClampNeg).toInt64)) hx hb dX11_handles_27 rfl ?_
      refine lv_iconst (v := (5 : Int32)) hx hb dX11_handles_28 (by decide) ?_
      refine lv_iload_n hx hb dX11_handles_29 rfl (lv_at hl 2 rfl) ?_
      refine lv_isub hx hb dX11_handles_30 ?_
      refine lv_i2l (v := (((5 : Int32) - x2).toInt64)) hx hb dX11_handles_31 rfl ?_
      refine lv_ldc2 (v := (4 : Int64)) hx hb hown (hts (.constantLong RX11 101 (4)) (List.mem_of_getElem? (i := 2) rfl)) dX11_handles_32 ?_
      obtain ⟨r3, hc3, hf⟩ := wk_b1E hf
      refine wk_callSi2 C hP hD hS (c_X11_in l D cB cI cJ N ((v_holes x4.toNatClampNeg).toInt64) (((5 : Int32) - x2).toInt64) (4 : Int64) hc3) (va_cwS 3 hts gX11_handles_X11_in rfl rfl rfl hd_X11_in.2 ⟨Nat.le_of_ble_eq_true rfl, Nat.le_of_ble_eq_true rfl⟩) hl.1 ⟨Nat.zero_le _, Nat.zero_le _⟩ [] [0, 1] 2 (by decide +kernel) rfl (Wn := w_X11_handles cB cI cJ a_this a_cards a_county a_holes a_text a_letter a_where a_rank a_value a_hour a_readLetter a_readWhere a_readRank a_readValue a_readHour a_listName a_listDay a_voterName a_voterDay a_voterCounty a_heaps a_speed a_four a_byRules a_hours a_rest a_yet a_put v_kept v_length v_items v_readItems v_at v_lists v_voters v_needed v_holes) rfl rfl rfl rfl rfl rfl rfl rfl (Nat.le_of_ble_eq_true rfl) dX11_handles_35 (fun H locs hP hD hS => ?_)
      refine lv_if_eq (tgt := 55) hx hb dX11_handles_38 (by decide) (fun c4 => ?_) (fun c4 => ?_)
      · have hf := wk_itT hf c4
        obtain ⟨y5, ey5⟩ : ∃ y : Int32, y = x4 + (1 : Int32) := ⟨_, rfl⟩
        have hf := wk_nmE hf ey5
        refine lv_iinc (v := y5) (lv' := [(4, .int y5), (0, .ref a_this), (1, .int x1), (2, .int x2), (3, .int x3)]) hx hb dX11_handles_55 hl (k := 4) rfl (by rw [ey5]; rfl) (by decide) rfl (fun ls hl => ?_)
        refine lv_goto (tgt := 8) hx hb dX11_handles_58 (by decide) ?_
        exact ih8 _ _ _ _ _ hf _ _ _ hP hD hS (lv_sub hl [1, 2, 3, 4, 0] rfl)
      · have hf := wk_itF hf c4
        refine lv_aload_n hx hb dX11_handles_41 rfl (lv_at hl 0 rfl) ?_
        refine va_get (D := D) (ci := 11) (v := .ref a_holes) (C := RX11) (T := TX11) (N := 35) hx hb hts in_X11_handles_X11 hown hK hP 0 rfl rfl 2 (by decide) (hts (.fieldLink RX11 16 "HangingCardsModel" "holes" "[I") (List.mem_of_getElem? (i := 1) rfl)) (fun _ h9 => h9) rfl dX11_handles_42 ?_
        refine lv_iload hx hb dX11_handles_45 (lv_at hl 4 rfl) ?_
        refine lv_dup2_11 hx hb dX11_handles_47 rfl rfl ?_
        obtain ⟨hi6, hf⟩ := wk_ckE hf
        refine va_iald hx hb hK hP 1 0 rfl rfl hi6 dX11_handles_48 ?_
        refine lv_iconst (v := (1 : Int32)) hx hb dX11_handles_49 (by decide) ?_
        refine lv_iadd hx hb dX11_handles_50 ?_
        obtain ⟨hi7, hf⟩ := wk_ckE hf
        refine va_iast hx hb hK hP hD hS 1 0 rfl rfl hi7 dX11_handles_51 (fun H locs hP hD hS => ?_)
        have hP : va_P D vwCl (w_X11_handles cB cI cJ a_this a_cards a_county a_holes a_text a_letter a_where a_rank a_value a_hour a_readLetter a_readWhere a_readRank a_readValue a_readHour a_listName a_listDay a_voterName a_voterDay a_voterCounty a_heaps a_speed a_four a_byRules a_hours a_rest a_yet a_put v_kept v_length v_items v_readItems v_at v_lists v_voters v_needed (upd v_holes x4.toNatClampNeg ((v_holes x4.toNatClampNeg) + (1 : Int32)))) H := hP
        have hD : va_D A (w_X11_handles cB cI cJ a_this a_cards a_county a_holes a_text a_letter a_where a_rank a_value a_hour a_readLetter a_readWhere a_readRank a_readValue a_readHour a_listName a_listDay a_voterName a_voterDay a_voterCounty a_heaps a_speed a_four a_byRules a_hours a_rest a_yet a_put v_kept v_length v_items v_readItems v_at v_lists v_voters v_needed (upd v_holes x4.toNatClampNeg ((v_holes x4.toNatClampNeg) + (1 : Int32)))) := hD
        obtain ⟨y8, ey8⟩ : ∃ y : Int32, y = x3 + (1 : Int32) := ⟨_, rfl⟩
        have hf := wk_nmE hf ey8
        refine lv_iinc (v := y8) (lv' := [(3, .int y8), (0, .ref a_this), (1, .int x1), (2, .int x2), (4, .int x4)]) hx hb dX11_handles_52 hl (k := 3) rfl (by rw [ey8]; rfl) (by decide) rfl (fun ls hl => ?_)
        obtain ⟨y9, ey9⟩ : ∃ y : Int32, y = x4 + (1 : Int32) := ⟨_, rfl⟩
        have hf := wk_nmE hf ey9
        refine lv_iinc (v := y9) (lv' := [(4, .int y9), (3, .int y8), (0, .ref a_this), (1, .int x1), (2, .int x2)]) hx hb dX11_handles_55 hl (k := 4) rfl (by rw [ey9]; rfl) (by decide) rfl (fun ls hl => ?_)
        refine lv_goto (tgt := 8) hx hb dX11_handles_58 (by decide) ?_
        exact ih8 _ _ _ _ _ hf _ _ _ hP hD hS (lv_sub hl [2, 3, 4, 1, 0] rfl))
  unfold f_X11_handles at hf
  refine lv_iconst (v := (0 : Int32)) hx hb dX11_handles_0 (by decide) ?_
  refine lv_istore_n (lv' := [(3, .int (0 : Int32)), (0, .ref a_this), (1, .int x1), (2, .int x2)]) hx hb dX11_handles_1 rfl hl (by decide) rfl (fun ls hl => ?_)
  refine lv_bipush (v := (12 : Int32)) hx hb dX11_handles_2 (by decide) ?_
  refine lv_iload_n hx hb dX11_handles_4 rfl (lv_at hl 2 rfl) ?_
  refine lv_imul hx hb dX11_handles_5 ?_
  refine lv_topi (fun y10 ey10 => ?_)
  have hf := wk_nmE hf ey10
  refine lv_istore (lv' := [(4, .int y10), (3, .int (0 : Int32)), (0, .ref a_this), (1, .int x1), (2, .int x2)]) hx hb dX11_handles_6 hl (by decide) rfl (fun ls hl => ?_)
  exact L8 N _ _ _ _ _ hf _ _ _ hP hD hS (lv_sub hl [2, 3, 4, 1, 0] rfl)
abbrev w_X11_handle (cB cI cJ : ClassId) (a_this : Nat) (a_cards : Nat) (a_county : Nat) (a_holes : Nat) (a_text : Nat) (a_letter : Nat) (a_where : Nat) (a_rank : Nat) (a_value : Nat) (a_hour : Nat) (a_readLetter : Nat) (a_readWhere : Nat) (a_readRank : Nat) (a_readValue : Nat) (a_readHour : Nat) (a_listName : Nat) (a_listDay : Nat) (a_voterName : Nat) (a_voterDay : Nat) (a_voterCounty : Nat) (a_heaps : Nat) (a_speed : Nat) (a_four : Nat) (a_byRules : Nat) (a_hours : Nat) (a_rest : Nat) (a_yet : Nat) (a_put : Nat) (v_kept : Int32) (v_length : Int32) (v_items : Int32) (v_readItems : Int32) (v_at : Int32) (v_lists : Int32) (v_voters : Int32) (v_needed : Int32) (v_cards : Nat → Int32) (v_holes : Nat → Int32) : va_W := [(a_this, .inr (11, [.ref a_cards, .ref a_county, .ref a_holes, .int v_kept, .int v_length, .ref a_text, .int v_items, .ref a_letter, .ref a_where, .ref a_rank, .ref a_value, .ref a_hour, .int v_readItems, .ref a_readLetter, .ref a_readWhere, .ref a_readRank, .ref a_readValue, .ref a_readHour, .int v_at, .int v_lists, .ref a_listName, .ref a_listDay, .int v_voters, .ref a_voterName, .ref a_voterDay, .ref a_voterCounty, .int v_needed, .ref a_heaps, .ref a_speed, .ref a_four, .ref a_byRules, .ref a_hours, .ref a_rest, .ref a_yet, .ref a_put])), (a_cards, .inl (cI, 3, .inl v_cards)), (a_holes, .inl (cI, 1440, .inl v_holes))]
theorem hd_X11_handle : yX11_handle.cls = RX11 ∧ yX11_handle.cls ≠ "java/lang/invoke/MethodHandle" ∧ yX11_handle.cls ≠ "java/lang/invoke/VarHandle" ∧ (parseMethodDescriptor yX11_handle.desc).map (fun d => d.parameters.length) = some 2 := by decide +kernel
abbrev rm_X11_handle : Room := { frames := 2, cells := 0, slots := 0, locals := 49 }
set_option maxHeartbeats 4000000 in
set_option maxRecDepth 100000 in
theorem c_X11_handle (l : Launch) (D : va_G) (cB cI cJ : ClassId) (N : Nat) (a_this : Nat) (a_cards : Nat) (a_county : Nat) (a_holes : Nat) (a_text : Nat) (a_letter : Nat) (a_where : Nat) (a_rank : Nat) (a_value : Nat) (a_hour : Nat) (a_readLetter : Nat) (a_readWhere : Nat) (a_readRank : Nat) (a_readValue : Nat) (a_readHour : Nat) (a_listName : Nat) (a_listDay : Nat) (a_voterName : Nat) (a_voterDay : Nat) (a_voterCounty : Nat) (a_heaps : Nat) (a_speed : Nat) (a_four : Nat) (a_byRules : Nat) (a_hours : Nat) (a_rest : Nat) (a_yet : Nat) (a_put : Nat) (v_kept : Int32) (v_length : Int32) (v_items : Int32) (v_readItems : Int32) (v_at : Int32) (v_lists : Int32) (v_voters : Int32) (v_needed : Int32) (v_cards : Nat → Int32) (v_holes : Nat → Int32) (x1 : Int32) (x2 : Int32) {r : Int32} {o_holes : Nat → Int32} (hf : f_X11_handle N v_cards v_holes x1 x2 = some (r, o_holes)) : MTi l yX11_handle wsX11_handle rm_X11_handle D (wk_T cB cI cJ) [.ref a_this, .int x1, .int x2] (w_X11_handle cB cI cJ a_this a_cards a_county a_holes a_text a_letter a_where a_rank a_value a_hour a_readLetter a_readWhere a_readRank a_readValue a_readHour a_listName a_listDay a_voterName a_voterDay a_voterCounty a_heaps a_speed a_four a_byRules a_hours a_rest a_yet a_put v_kept v_length v_items v_readItems v_at v_lists v_voters v_needed v_cards v_holes) (w_X11_handle cB cI cJ a_this a_cards a_county a_holes a_text a_letter a_where a_rank a_value a_hour a_readLetter a_readWhere a_readRank a_readValue a_readHour a_listName a_listDay a_voterName a_voterDay a_voterCounty a_heaps a_speed a_four a_byRules a_hours a_rest a_yet a_put v_kept v_length v_items v_readItems v_at v_lists v_voters v_needed v_cards o_holes) r := by
  refine MTi.of (cc := cX11_handle) (nL := 3) (rt := .int) (own := RX11) pn_X11 rfl rfl (Nat.le_of_ble_eq_true rfl) rfl ?_
  intro p e s m args below meth c A ls Q C hP hD hS hl hret
  obtain ⟨hx, hb, hml, hts, hown, hK, hN, hA, hlk⟩ := id C
  have hl : lv_has ls 3 [(0, .ref a_this), (1, .int x1), (2, .int x2)] := hl
  unfold f_X11_handle at hf
  refine lv_aload_n hx hb dX11_handle_0 rfl (lv_at hl 0 rfl) ?_
  refine lv_iload_n hx hb dX11_handle_1 rfl (lv_at hl 1 rfl) ?_
  obtain ⟨r1, hc1, hf⟩ := wk_b1E hf
  refine wk_callVi2 C hP hD hS (c_X11_isCard l D cB cI cJ N a_this a_cards a_county a_holes a_text a_letter a_where a_rank a_value a_hour a_readLetter a_readWhere a_readRank a_readValue a_readHour a_listName a_listDay a_voterName a_voterDay a_voterCounty a_heaps a_speed a_four a_byRules a_hours a_rest a_yet a_put v_kept v_length v_items v_readItems v_at v_lists v_voters v_needed v_cards x1 hc1) (cwV 1 hts gX11_handle_X11_isCard rfl rfl rfl hd_X11_isCard ⟨Nat.le_of_ble_eq_true rfl, Nat.le_of_ble_eq_true rfl⟩) hl.1 ⟨Nat.zero_le _, Nat.zero_le _⟩ [0, 1] [2] 3 (by decide +kernel) rfl (Wn := w_X11_handle cB cI cJ a_this a_cards a_county a_holes a_text a_letter a_where a_rank a_value a_hour a_readLetter a_readWhere a_readRank a_readValue a_readHour a_listName a_listDay a_voterName a_voterDay a_voterCounty a_heaps a_speed a_four a_byRules a_hours a_rest a_yet a_put v_kept v_length v_items v_readItems v_at v_lists v_voters v_needed v_cards v_holes) rfl rfl rfl rfl rfl rfl (ci := 11) rfl rfl (q0 := 0) rfl rfl rfl (Nat.le_of_ble_eq_true rfl) dX11_handle_2 (fun H locs hP hD hS => ?_)
  refine lv_if_eq (tgt := 29) hx hb dX11_handle_5 (by decide) (fun c2 => ?_) (fun c2 => ?_)
  · have hf := wk_itT hf c2
    refine lv_iconst (v := (-1 : Int32)) hx hb dX11_handle_29 (by decide) ?_
    exact hret _ _ _ _ _ _ dX11_handle_30 (wk_rt hf (fun z => z.1)) (wk_rt hf (fun z => w_X11_handle cB cI cJ a_this a_cards a_county a_holes a_text a_letter a_where a_rank a_value a_hour a_readLetter a_readWhere a_readRank a_readValue a_readHour a_listName a_listDay a_voterName a_voterDay a_voterCounty a_heaps a_speed a_four a_byRules a_hours a_rest a_yet a_put v_kept v_length v_items v_readItems v_at v_lists v_voters v_needed v_cards (z.2))) hP hD hS
  · have hf := wk_itF hf c2
    refine lv_iload_n hx hb dX11_handle_8 rfl (lv_at hl 2 rfl) ?_
    refine lv_i2l (v := (x2.toInt64)) hx hb dX11_handle_9 rfl ?_
    refine lv_lconst (v := (1 : Int64)) hx hb dX11_handle_10 (by decide) ?_
    refine lv_ldc2 (v := (4 : Int64)) hx hb hown (hts (.constantLong RX11 101 (4)) (List.mem_of_getElem? (i := 1) rfl)) dX11_handle_11 ?_
    obtain ⟨r3, hc3, hf⟩ := wk_b1E hf
    refine wk_callSi2 C hP hD hS (c_X11_in l D cB cI cJ N (x2.toInt64) (1 : Int64) (4 : Int64) hc3) (va_cwS 3 hts gX11_handle_X11_in rfl rfl rfl hd_X11_in.2 ⟨Nat.le_of_ble_eq_true rfl, Nat.le_of_ble_eq_true rfl⟩) hl.1 ⟨Nat.zero_le _, Nat.zero_le _⟩ [] [0, 1, 2] 3 (by decide +kernel) rfl (Wn := w_X11_handle cB cI cJ a_this a_cards a_county a_holes a_text a_letter a_where a_rank a_value a_hour a_readLetter a_readWhere a_readRank a_readValue a_readHour a_listName a_listDay a_voterName a_voterDay a_voterCounty a_heaps a_speed a_four a_byRules a_hours a_rest a_yet a_put v_kept v_length v_items v_readItems v_at v_lists v_voters v_needed v_cards v_holes) rfl rfl rfl rfl rfl rfl rfl rfl (Nat.le_of_ble_eq_true rfl) dX11_handle_14 (fun H locs hP hD hS => ?_)
    refine lv_if_eq (tgt := 29) hx hb dX11_handle_17 (by decide) (fun c4 => ?_) (fun c4 => ?_)
    · have hf := wk_itT hf c4
      refine lv_iconst (v := (-1 : Int32)) hx hb dX11_handle_29 (by decide) ?_
      exact hret _ _ _ _ _ _ dX11_handle_30 (wk_rt hf (fun z => z.1)) (wk_rt hf (fun z => w_X11_handle cB cI cJ a_this a_cards a_county a_holes a_text a_letter a_where a_rank a_value a_hour a_readLetter a_readWhere a_readRank a_readValue a_readHour a_listName a_listDay a_voterName a_voterDay a_voterCounty a_heaps a_speed a_four a_byRules a_hours a_rest a_yet a_put v_kept v_length v_items v_readItems v_at v_lists v_voters v_needed v_cards (z.2))) hP hD hS
    · have hf := wk_itF hf c4
      refine lv_aload_n hx hb dX11_handle_20 rfl (lv_at hl 0 rfl) ?_
      refine lv_iload_n hx hb dX11_handle_21 rfl (lv_at hl 1 rfl) ?_
      refine lv_iload_n hx hb dX11_handle_22 rfl (lv_at hl 2 rfl) ?_
      obtain ⟨r5, o5_0, hc5, hf⟩ := wk_b2E hf
      refine wk_callVi2 C hP hD hS (c_X11_handles l D cB cI cJ N a_this a_cards a_county a_holes a_text a_letter a_where a_rank a_value a_hour a_readLetter a_readWhere a_readRank a_readValue a_readHour a_listName a_listDay a_voterName a_voterDay a_voterCounty a_heaps a_speed a_four a_byRules a_hours a_rest a_yet a_put v_kept v_length v_items v_readItems v_at v_lists v_voters v_needed v_holes x1 x2 hc5) (cwV 2 hts gX11_handle_X11_handles rfl rfl rfl hd_X11_handles ⟨Nat.le_of_ble_eq_true rfl, Nat.le_of_ble_eq_true rfl⟩) hl.1 ⟨Nat.zero_le _, Nat.zero_le _⟩ [0, 2] [1] 3 (by decide +kernel) rfl (Wn := w_X11_handle cB cI cJ a_this a_cards a_county a_holes a_text a_letter a_where a_rank a_value a_hour a_readLetter a_readWhere a_readRank a_readValue a_readHour a_listName a_listDay a_voterName a_voterDay a_voterCounty a_heaps a_speed a_four a_byRules a_hours a_rest a_yet a_put v_kept v_length v_items v_readItems v_at v_lists v_voters v_needed v_cards o5_0) rfl rfl rfl rfl rfl rfl (ci := 11) rfl rfl (q0 := 0) rfl rfl rfl (Nat.le_of_ble_eq_true rfl) dX11_handle_23 (fun H locs hP hD hS => ?_)
      refine lv_goto (tgt := 30) hx hb dX11_handle_26 (by decide) ?_
      exact hret _ _ _ _ _ _ dX11_handle_30 (wk_rt hf (fun z => z.1)) (wk_rt hf (fun z => w_X11_handle cB cI cJ a_this a_cards a_county a_holes a_text a_letter a_where a_rank a_value a_hour a_readLetter a_readWhere a_readRank a_readValue a_readHour a_listName a_listDay a_voterName a_voterDay a_voterCounty a_heaps a_speed a_four a_byRules a_hours a_rest a_yet a_put v_kept v_length v_items v_readItems v_at v_lists v_voters v_needed v_cards (z.2))) hP hD hS
