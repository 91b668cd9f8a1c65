abbrev w_X11_number (cB cI cJ : ClassId) (a_this : Nat) (a_cards : Nat) (a_county : Nat) (a_holes : Nat) (a_text : Nat) (a_letter : Nat) (a_where : Nat) (a_rank : Nat) (a_value : Nat) (a_hour : Nat) (a_readLetter : Nat) (a_readWhere : Nat) (a_readRank : Nat) (a_readValue : Nat) (a_readHour : Nat) (a_listName : Nat) (a_listDay : Nat) (a_voterName : Nat) (a_voterDay : Nat) (a_voterCounty : Nat) (a_heaps : Nat) (a_speed : Nat) (a_four : Nat) (a_byRules : Nat) (a_hours : Nat) (a_rest : Nat) (a_yet : Nat) (a_put : Nat) (v_kept : Int32) (v_length : Int32) (v_items : Int32) (v_readItems : Int32) (v_at : Int32) (v_lists : Int32) (v_voters : Int32) (v_needed : Int32) (v_text : Nat → Int32) : va_W := [(a_this, .inr (11, [.ref a_cards, .ref a_county, .ref a_holes, .int v_kept, .int v_length, .ref a_text, .int v_items, .ref a_letter, .ref a_where, .ref a_rank, .ref a_value, .ref a_hour, .int v_readItems, .ref a_readLetter, .ref a_readWhere, .ref a_readRank, .ref a_readValue, .ref a_readHour, .int v_at, .int v_lists, .ref a_listName, .ref a_listDay, .int v_voters, .ref a_voterName, .ref a_voterDay, .ref a_voterCounty, .int v_needed, .ref a_heaps, .ref a_speed, .ref a_four, .ref a_byRules, .ref a_hours, .ref a_rest, .ref a_yet, .ref a_put])), (a_text, .inl (cB, 200, .inl v_text))]
theorem hd_X11_number : yX11_number.cls = RX11 ∧ yX11_number.cls ≠ "java/lang/invoke/MethodHandle" ∧ yX11_number.cls ≠ "java/lang/invoke/VarHandle" ∧ (parseMethodDescriptor yX11_number.desc).map (fun d => d.parameters.length) = some 0 := by decide +kernel
abbrev rm_X11_number : Room := { frames := 1, cells := 0, slots := 0, locals := 25 }
theorem in_X11_number_X11 : ∀ w ∈ wsX110, w ∈ wsX11_number := fun w h => List.mem_cons_of_mem _ (List.mem_append_right _ h)
set_option maxHeartbeats 4000000 in
set_option maxRecDepth 100000 in
theorem c_X11_number (l : Launch) (D : va_G) (cB cI cJ : ClassId) (N : Nat) (a_this : Nat) (a_cards : Nat) (a_county : Nat) (a_holes : Nat) (a_text : Nat) (a_letter : Nat) (a_where : Nat) (a_rank : Nat) (a_value : Nat) (a_hour : Nat) (a_readLetter : Nat) (a_readWhere : Nat) (a_readRank : Nat) (a_readValue : Nat) (a_readHour : Nat) (a_listName : Nat) (a_listDay : Nat) (a_voterName : Nat) (a_voterDay : Nat) (a_voterCounty : Nat) (a_heaps : Nat) (a_speed : Nat) (a_four : Nat) (a_byRules : Nat) (a_hours : Nat) (a_rest : Nat) (a_yet : Nat) (a_put : Nat) (v_kept : Int32) (v_length : Int32) (v_items : Int32) (v_readItems : Int32) (v_at : Int32) (v_lists : Int32) (v_voters : Int32) (v_needed : Int32) (v_text : Nat → Int32) {r : Int32} {o_at : Int32} (hf : f_X11_number N v_length v_text v_at = some (r, o_at)) : MTi l yX11_number wsX11_number rm_X11_number D (wk_T cB cI cJ) [.ref a_this] (w_X11_number cB cI cJ a_this a_cards a_county a_holes a_text a_letter a_where a_rank a_value a_hour a_readLetter a_readWhere a_readRank a_readValue a_readHour a_listName a_listDay a_voterName a_voterDay a_voterCounty a_heaps a_speed a_four a_byRules a_hours a_rest a_yet a_put v_kept v_length v_items v_readItems v_at v_lists v_voters v_needed v_text) (w_X11_number cB cI cJ a_this a_cards a_county a_holes a_text a_letter a_where a_rank a_value a_hour a_readLetter a_readWhere a_readRank a_readValue a_readHour a_listName a_listDay a_voterName a_voterDay a_voterCounty a_heaps a_speed a_four a_byRules a_hours a_rest a_yet a_put v_kept v_length v_items v_readItems o_at v_lists v_voters v_needed v_text) r := by
  refine MTi.of (cc := cX11_number) (nL := 3) (rt := .int) (own := RX11) pn_X11 rfl rfl (Nat.le_of_ble_eq_true rfl) rfl ?_
  intro p e s m args below meth c A ls Q C hP hD hS hl hret
  obtain ⟨hx, hb, hml, hts, hown, hK, hN, hA, hlk⟩ := id C
  have hl : lv_has ls 3 [(0, .ref a_this)] := hl
  have J80 : ∀ (v_at : Int32) (x1 : Int32) (x2 : Int32), B_X11_number_80 N v_length v_text v_at x1 x2 = some (r, o_at) → ∀ (H : Heap) (locs : List Loc) (ls : Array Slot), va_P D vwCl (w_X11_number cB cI cJ a_this a_cards a_county a_holes a_text a_letter a_where a_rank a_value a_hour a_readLetter a_readWhere a_readRank a_readValue a_readHour a_listName a_listDay a_voterName a_voterDay a_voterCounty a_heaps a_speed a_four a_byRules a_hours a_rest a_yet a_put v_kept v_length v_items v_readItems v_at v_lists v_voters v_needed v_text) H → va_D A (w_X11_number cB cI cJ a_this a_cards a_county a_holes a_text a_letter a_where a_rank a_value a_hour a_readLetter a_readWhere a_readRank a_readValue a_readHour a_listName a_listDay a_voterName a_voterDay a_voterCounty a_heaps a_speed a_four a_byRules a_hours a_rest a_yet a_put v_kept v_length v_items v_readItems v_at v_lists v_voters v_needed v_text) → va_S A s.heap H locs → lv_has ls 3 [(1, .int x1), (2, .int x2)] → W p l e rm_X11_number s m args below meth c H locs 0 0 Q (F0 m 80 ls []) := by
    intro v_at x1 x2 hf H locs ls hP hD hS hl
    unfold B_X11_number_80 at hf
    refine lv_iload_n hx hb dX11_number_80 rfl (lv_at hl 1 rfl) ?_
    refine lv_i2l (v := (x2.toInt64)) hx hb dX11_number_81 rfl ?_
    refine lv_lconst (v := (1 : Int64)) hx hb dX11_number_82 (by decide) ?_
    refine lv_ldc2 (v := (3 : Int64)) hx hb hown (hts (.constantLong RX11 117 (3)) (List.mem_of_getElem? (i := 6) rfl)) dX11_number_83 ?_
    obtain ⟨r1, hc1, hf⟩ := wk_b1E hf
    refine wk_callSi2 C hP hD hS (c_X11_in l D cB cI cJ N (x2.toInt64) (1 : Int64) (3 : Int64) hc1) (va_cwS 3 hts gX11_number_X11_in rfl rfl rfl hd_X11_in.2 ⟨Nat.le_of_ble_eq_true rfl, Nat.le_of_ble_eq_true rfl⟩) hl.1 ⟨Nat.zero_le _, Nat.zero_le _⟩ [] [0, 1] 2 (by decide +kernel) rfl (Wn := w_X11_number cB cI cJ a_this a_cards a_county a_holes a_text a_letter a_where a_rank a_value a_hour a_readLetter a_readWhere a_readRank a_readValue a_readHour a_listName a_listDay a_voterName a_voterDay a_voterCounty a_heaps a_speed a_four a_byRules a_hours a_rest a_yet a_put v_kept v_length v_items v_readItems v_at v_lists v_voters v_needed v_text) rfl rfl rfl rfl rfl rfl rfl rfl (Nat.le_of_ble_eq_true rfl) dX11_number_86 (fun H locs hP hD hS => ?_)
    refine lv_if_eq (tgt := 96) hx hb dX11_number_89 (by decide) (fun c2 => ?_) (fun c2 => ?_)
    · have hf := wk_itT hf c2
      refine lv_iconst (v := (-1 : Int32)) hx hb dX11_number_96 (by decide) ?_
      exact hret _ _ _ _ _ _ dX11_number_97 (wk_rt hf (fun z => z.1)) (wk_rt hf (fun z => w_X11_number cB cI cJ a_this a_cards a_county a_holes a_text a_letter a_where a_rank a_value a_hour a_readLetter a_readWhere a_readRank a_readValue a_readHour a_listName a_listDay a_voterName a_voterDay a_voterCounty a_heaps a_speed a_four a_byRules a_hours a_rest a_yet a_put v_kept v_length v_items v_readItems (z.2) v_lists v_voters v_needed v_text)) hP hD hS
    · have hf := wk_itF hf c2
      refine lv_iload_n hx hb dX11_number_92 rfl (lv_at hl 0 rfl) ?_
      refine lv_goto (tgt := 97) hx hb dX11_number_93 (by decide) ?_
      exact hret _ _ _ _ _ _ dX11_number_97 (wk_rt hf (fun z => z.1)) (wk_rt hf (fun z => w_X11_number cB cI cJ a_this a_cards a_county a_holes a_text a_letter a_where a_rank a_value a_hour a_readLetter a_readWhere a_readRank a_readValue a_readHour a_listName a_listDay a_voterName a_voterDay a_voterCounty a_heaps a_speed a_four a_byRules a_hours a_rest a_yet a_put v_kept v_length v_items v_readItems (z.2) v_lists v_voters v_needed v_text)) hP hD hS
  have L4 := wk_loopI (F := (fun k4 : Int32 → Int32 → Int32 → Option (Int32 × Int32) => B_X11_number_4 N v_length v_text k4)) (bot := fun _ _ _ => none) (fun k4 : Int32 → Int32 → Int32 → Option (Int32 × Int32) => ∀ (v_at : Int32) (x1 : Int32) (x2 : Int32), k4 v_at x1 x2 = some (r, o_at) → ∀ (H : Heap) (locs : List Loc) (ls : Array Slot), va_P D vwCl (w_X11_number cB cI cJ a_this a_cards a_county a_holes a_text a_letter a_where a_rank a_value a_hour a_readLetter a_readWhere a_readRank a_readValue a_readHour a_listName a_listDay a_voterName a_voterDay a_voterCounty a_heaps a_speed a_four a_byRules a_hours a_rest a_yet a_put v_kept v_length v_items v_readItems v_at v_lists v_voters v_needed v_text) H → va_D A (w_X11_number cB cI cJ a_this a_cards a_county a_holes a_text a_letter a_where a_rank a_value a_hour a_readLetter a_readWhere a_readRank a_readValue a_readHour a_listName a_listDay a_voterName a_voterDay a_voterCounty a_heaps a_speed a_four a_byRules a_hours a_rest a_yet a_put v_kept v_length v_items v_readItems v_at v_lists v_voters v_needed v_text) → va_S A s.heap H locs → lv_has ls 3 [(0, .ref a_this), (1, .int x1), (2, .int x2)] → W p l e rm_X11_number s m args below meth c H locs 0 0 Q (F0 m 4 ls [])) (by intro v_at x1 x2 hf; exact wk_no hf) (by
    intro k4 ih4
    have J63 : ∀ (v_at : Int32) (x2 : Int32) (s0 : Int32), B_X11_number_63 N v_length v_text k4 v_at x2 s0 = some (r, o_at) → ∀ (H : Heap) (locs : List Loc) (ls : Array Slot), va_P D vwCl (w_X11_number cB cI cJ a_this a_cards a_county a_holes a_text a_letter a_where a_rank a_value a_hour a_readLetter a_readWhere a_readRank a_readValue a_readHour a_listName a_listDay a_voterName a_voterDay a_voterCounty a_heaps a_speed a_four a_byRules a_hours a_rest a_yet a_put v_kept v_length v_items v_readItems v_at v_lists v_voters v_needed v_text) H → va_D A (w_X11_number cB cI cJ a_this a_cards a_county a_holes a_text a_letter a_where a_rank a_value a_hour a_readLetter a_readWhere a_readRank a_readValue a_readHour a_listName a_listDay a_voterName a_voterDay a_voterCounty a_heaps a_speed a_four a_byRules a_hours a_rest a_yet a_put v_kept v_length v_items v_readItems v_at v_lists v_voters v_needed v_text) → va_S A s.heap H locs → lv_has ls 3 [(0, .ref a_this), (2, .int x2)] → W p l e rm_X11_number s m args below meth c H locs 0 0 Q (F0 m 63 ls [.int s0]) := by
      intro v_at x2 s0 hf H locs ls hP hD hS hl
      unfold B_X11_number_63 at hf
      refine lv_istore_n (lv' := [(1, .int s0), (0, .ref a_this), (2, .int x2)]) hx hb dX11_number_63 rfl hl (by decide) rfl (fun ls hl => ?_)
      obtain ⟨y3, ey3⟩ : ∃ y : Int32, y = x2 + (1 : Int32) := ⟨_, rfl⟩
      have hf := wk_nmE hf ey3
      refine lv_iinc (v := y3) (lv' := [(2, .int y3), (1, .int s0), (0, .ref a_this)]) hx hb dX11_number_64 hl (k := 2) rfl (by rw [ey3]; rfl) (by decide) rfl (fun ls hl => ?_)
      refine lv_aload_n hx hb dX11_number_67 rfl (lv_at hl 2 rfl) ?_
      refine lv_dup hx hb dX11_number_68 rfl ?_
      refine va_get (D := D) (ci := 11) (v := .int v_at) (C := RX11) (T := TX11) (N := 35) hx hb hts in_X11_number_X11 hown hK hP 0 rfl rfl 18 (by decide) (hts (.fieldLink RX11 142 "HangingCardsModel" "at" "I") (List.mem_of_getElem? (i := 1) rfl)) (fun _ h9 => h9) rfl dX11_number_69 ?_
      refine lv_iconst (v := (1 : Int32)) hx hb dX11_number_72 (by decide) ?_
      refine lv_iadd hx hb dX11_number_73 ?_
      refine va_put (D := D) (ci := 11) (v := .int (v_at + (1 : Int32))) (ty := .int) (C := RX11) (T := TX11) (N := 35) hx hb hts in_X11_number_X11 tyX11 tyX11_ok nmX11 hown hK hP hD hS 0 rfl rfl 18 (by decide) (hts (.fieldLink RX11 142 "HangingCardsModel" "at" "I") (List.mem_of_getElem? (i := 1) rfl)) (fun _ h9 => h9) rfl (by decide +kernel) rfl rfl (Nat.le_of_ble_eq_true rfl) dX11_number_74 (fun H locs hP hD hS => ?_)
      have hP : va_P D vwCl (w_X11_number cB cI cJ a_this a_cards a_county a_holes a_text a_letter a_where a_rank a_value a_hour a_readLetter a_readWhere a_readRank a_readValue a_readHour a_listName a_listDay a_voterName a_voterDay a_voterCounty a_heaps a_speed a_four a_byRules a_hours a_rest a_yet a_put v_kept v_length v_items v_readItems (v_at + (1 : Int32)) v_lists v_voters v_needed v_text) H := hP
      have hD : va_D A (w_X11_number cB cI cJ a_this a_cards a_county a_holes a_text a_letter a_where a_rank a_value a_hour a_readLetter a_readWhere a_readRank a_readValue a_readHour a_listName a_listDay a_voterName a_voterDay a_voterCounty a_heaps a_speed a_four a_byRules a_hours a_rest a_yet a_put v_kept v_length v_items v_readItems (v_at + (1 : Int32)) v_lists v_voters v_needed v_text) := hD
      refine lv_goto (tgt := 4) hx hb dX11_number_77 (by decide) ?_
      exact ih4 _ _ _ hf _ _ _ hP hD hS (lv_sub hl [2, 1, 0] rfl)
    intro v_at x1 x2 hf H locs ls hP hD hS hl
    have hf : B_X11_number_4 N v_length v_text k4 v_at x1 x2 = some (r, o_at) := hf
    unfold B_X11_number_4 at hf
    refine lv_aload_n hx hb dX11_number_4 rfl (lv_at hl 0 rfl) ?_
    refine va_get (D := D) (ci := 11) (v := .int v_at) (C := RX11) (T := TX11) (N := 35) hx hb hts in_X11_number_X11 hown hK hP 0 rfl rfl 18 (by decide) (hts (.fieldLink RX11 142 "HangingCardsModel" "at" "I") (List.mem_of_getElem? (i := 1) rfl)) (fun _ h9 => h9) rfl dX11_number_5 ?_
    refine lv_aload_n hx hb dX11_number_8 rfl (lv_at hl 0 rfl) ?_
    refine va_get (D := D) (ci := 11) (v := .int v_length) (C := RX11) (T := TX11) (N := 35) hx hb hts in_X11_number_X11 hown hK hP 0 rfl rfl 4 (by decide) (hts (.fieldLink RX11 139 "HangingCardsModel" "length" "I") (List.mem_of_getElem? (i := 2) rfl)) (fun _ h9 => h9) rfl dX11_number_9 ?_
    refine lv_icmp_ge (tgt := 80) hx hb dX11_number_12 (by decide) (fun c4 => ?_) (fun c4 => ?_)
    · have hf := wk_itT hf c4
      exact J80 _ _ _ hf _ _ _ hP hD hS (lv_sub hl [1, 2] rfl)
    · have hf := wk_itF hf c4
      refine lv_aload_n hx hb dX11_number_15 rfl (lv_at hl 0 rfl) ?_
      refine va_get (D := D) (ci := 11) (v := .ref a_text) (C := RX11) (T := TX11) (N := 35) hx hb hts in_X11_number_X11 hown hK hP 0 rfl rfl 5 (by decide) (hts (.fieldLink RX11 19 "HangingCardsModel" "text" "[B") (List.mem_of_getElem? (i := 3) rfl)) (fun _ h9 => h9) rfl dX11_number_16 ?_
      refine lv_aload_n hx hb dX11_number_19 rfl (lv_at hl 0 rfl) ?_
      refine va_get (D := D) (ci := 11) (v := .int v_at) (C := RX11) (T := TX11) (N := 35) hx hb hts in_X11_number_X11 hown hK hP 0 rfl rfl 18 (by decide) (hts (.fieldLink RX11 142 "HangingCardsModel" "at" "I") (List.mem_of_getElem? (i := 1) rfl)) (fun _ h9 => h9) rfl dX11_number_20 ?_
      obtain ⟨hi5, hf⟩ := wk_ckE hf
      refine va_bald hx hb hK hP 1 1 rfl rfl hi5 dX11_number_23 ?_
      refine lv_i2l (v := ((v_text v_at.toNatClampNeg).toInt64)) hx hb dX11_number_24 rfl ?_
      refine lv_ldc2 (v := (48 : Int64)) hx hb hown (hts (.constantLong RX11 145 (48)) (List.mem_of_getElem? (i := 4) rfl)) dX11_number_25 ?_
      refine lv_ldc2 (v := (57 : Int64)) hx hb hown (hts (.constantLong RX11 147 (57)) (List.mem_of_getElem? (i := 5) rfl)) dX11_number_28 ?_
      obtain ⟨r6, hc6, hf⟩ := wk_b1E hf
      refine wk_callSi2 C hP hD hS (c_X11_in l D cB cI cJ N ((v_text v_at.toNatClampNeg).toInt64) (48 : Int64) (57 : Int64) hc6) (va_cwS 3 hts gX11_number_X11_in rfl rfl rfl hd_X11_in.2 ⟨Nat.le_of_ble_eq_true rfl, Nat.le_of_ble_eq_true rfl⟩) hl.1 ⟨Nat.zero_le _, Nat.zero_le _⟩ [] [0, 1] 2 (by decide +kernel) rfl (Wn := w_X11_number cB cI cJ a_this a_cards a_county a_holes a_text a_letter a_where a_rank a_value a_hour a_readLetter a_readWhere a_readRank a_readValue a_readHour a_listName a_listDay a_voterName a_voterDay a_voterCounty a_heaps a_speed a_four a_byRules a_hours a_rest a_yet a_put v_kept v_length v_items v_readItems v_at v_lists v_voters v_needed v_text) rfl rfl rfl rfl rfl rfl rfl rfl (Nat.le_of_ble_eq_true rfl) dX11_number_31 (fun H locs hP hD hS => ?_)
      refine lv_if_eq (tgt := 80) hx hb dX11_number_34 (by decide) (fun c7 => ?_) (fun c7 => ?_)
      · have hf := wk_itT hf c7
        exact J80 _ _ _ hf _ _ _ hP hD hS (lv_sub hl [1, 2] rfl)
      · have hf := wk_itF hf c7
        refine lv_iload_n hx hb dX11_number_37 rfl (lv_at hl 2 rfl) ?_
        refine lv_iconst (v := (3 : Int32)) hx hb dX11_number_38 (by decide) ?_
        refine lv_icmp_ge (tgt := 62) hx hb dX11_number_39 (by decide) (fun c8 => ?_) (fun c8 => ?_)
        · have hf := wk_itT hf c8
          refine lv_iload_n hx hb dX11_number_62 rfl (lv_at hl 1 rfl) ?_
          exact J63 _ _ _ hf _ _ _ hP hD hS (lv_sub hl [0, 2] rfl)
        · have hf := wk_itF hf c8
          refine lv_bipush (v := (10 : Int32)) hx hb dX11_number_42 (by decide) ?_
          refine lv_iload_n hx hb dX11_number_44 rfl (lv_at hl 1 rfl) ?_
          refine lv_imul hx hb dX11_number_45 ?_
          refine lv_aload_n hx hb dX11_number_46 rfl (lv_at hl 0 rfl) ?_
          refine va_get (D := D) (ci := 11) (v := .ref a_text) (C := RX11) (T := TX11) (N := 35) hx hb hts in_X11_number_X11 hown hK hP 0 rfl rfl 5 (by decide) (hts (.fieldLink RX11 19 "HangingCardsModel" "text" "[B") (List.mem_of_getElem? (i := 3) rfl)) (fun _ h9 => h9) rfl dX11_number_47 ?_
          refine lv_aload_n hx hb dX11_number_50 rfl (lv_at hl 0 rfl) ?_
          refine va_get (D := D) (ci := 11) (v := .int v_at) (C := RX11) (T := TX11) (N := 35) hx hb hts in_X11_number_X11 hown hK hP 0 rfl rfl 18 (by decide) (hts (.fieldLink RX11 142 "HangingCardsModel" "at" "I") (List.mem_of_getElem? (i := 1) rfl)) (fun _ h9 => h9) rfl dX11_number_51 ?_
          obtain ⟨hi9, hf⟩ := wk_ckE hf
          refine va_bald hx hb hK hP 1 1 rfl rfl hi9 dX11_number_54 ?_
          refine lv_iadd hx hb dX11_number_55 ?_
          refine lv_bipush (v := (48 : Int32)) hx hb dX11_number_56 (by decide) ?_
          refine lv_isub hx hb dX11_number_58 ?_
          refine lv_goto (tgt := 63) hx hb dX11_number_59 (by decide) ?_
          exact J63 _ _ _ hf _ _ _ hP hD hS (lv_sub hl [0, 2] rfl))
  unfold f_X11_number at hf
  refine lv_iconst (v := (0 : Int32)) hx hb dX11_number_0 (by decide) ?_
  refine lv_istore_n (lv' := [(1, .int (0 : Int32)), (0, .ref a_this)]) hx hb dX11_number_1 rfl hl (by decide) rfl (fun ls hl => ?_)
  refine lv_iconst (v := (0 : Int32)) hx hb dX11_number_2 (by decide) ?_
  refine lv_istore_n (lv' := [(2, .int (0 : Int32)), (1, .int (0 : Int32)), (0, .ref a_this)]) hx hb dX11_number_3 rfl hl (by decide) rfl (fun ls hl => ?_)
  exact L4 N _ _ _ hf _ _ _ hP hD hS (lv_sub hl [2, 1, 0] rfl)
abbrev w_X11_more (cB cI cJ : ClassId) (a_this : Nat) (a_cards : Nat) (a_county : Nat) (a_holes : Nat) (a_text : Nat) (a_letter : Nat) (a_where : Nat) (a_rank : Nat) (a_value : Nat) (a_hour : Nat) (a_readLetter : Nat) (a_readWhere : Nat) (a_readRank : Nat) (a_readValue : Nat) (a_readHour : Nat) (a_listName : Nat) (a_listDay : Nat) (a_voterName : Nat) (a_voterDay : Nat) (a_voterCounty : Nat) (a_heaps : Nat) (a_speed : Nat) (a_four : Nat) (a_byRules : Nat) (a_hours : Nat) (a_rest : Nat) (a_yet : Nat) (a_put : Nat) (v_kept : Int32) (v_length : Int32) (v_items : Int32) (v_readItems : Int32) (v_at : Int32) (v_lists : Int32) (v_voters : Int32) (v_needed : Int32) (v_text : Nat → Int32) : va_W := [(a_this, .inr (11, [.ref a_cards, .ref a_county, .ref a_holes, .int v_kept, .int v_length, .ref a_text, .int v_items, .ref a_letter, .ref a_where, .ref a_rank, .ref a_value, .ref a_hour, .int v_readItems, .ref a_readLetter, .ref a_readWhere, .ref a_readRank, .ref a_readValue, .ref a_readHour, .int v_at, .int v_lists, .ref a_listName, .ref a_listDay, .int v_voters, .ref a_voterName, .ref a_voterDay, .ref a_voterCounty, .int v_needed, .ref a_heaps, .ref a_speed, .ref a_four, .ref a_byRules, .ref a_hours, .ref a_rest, .ref a_yet, .ref a_put])), (a_text, .inl (cB, 200, .inl v_text))]
theorem hd_X11_more : yX11_more.cls = RX11 ∧ yX11_more.cls ≠ "java/lang/invoke/MethodHandle" ∧ yX11_more.cls ≠ "java/lang/invoke/VarHandle" ∧ (parseMethodDescriptor yX11_more.desc).map (fun d => d.parameters.length) = some 1 := by decide +kernel
abbrev rm_X11_more : Room := { frames := 2, cells := 0, slots := 0, locals := 47 }
theorem in_X11_more_X11 : ∀ w ∈ wsX110, w ∈ wsX11_more := fun w h => List.mem_cons_of_mem _ (List.mem_append_right _ h)
set_option maxHeartbeats 4000000 in
set_option maxRecDepth 100000 in
theorem c_X11_more (l : Launch) (D : va_G) (cB cI cJ : ClassId) (N : Nat) (a_this : Nat) (a_cards : Nat) (a_county : Nat) (a_holes : Nat) (a_text : Nat) (a_letter : Nat) (a_where : Nat) (a_rank : Nat) (a_value : Nat) (a_hour : Nat) (a_readLetter : Nat) (a_readWhere : Nat) (a_readRank : Nat) (a_readValue : Nat) (a_readHour : Nat) (a_listName : Nat) (a_listDay : Nat) (a_voterName : Nat) (a_voterDay : Nat) (a_voterCounty : Nat) (a_heaps : Nat) (a_speed : Nat) (a_four : Nat) (a_byRules : Nat) (a_hours : Nat) (a_rest : Nat) (a_yet : Nat) (a_put : Nat) (v_kept : Int32) (v_length : Int32) (v_items : Int32) (v_readItems : Int32) (v_at : Int32) (v_lists : Int32) (v_voters : Int32) (v_needed : Int32) (v_text : Nat → Int32) (x1 : Int32) {r : Int32} {o_at : Int32} (hf : f_X11_more N v_length v_text v_at x1 = some (r, o_at)) : MTi l yX11_more wsX11_more rm_X11_more D (wk_T cB cI cJ) [.ref a_this, .int x1] (w_X11_more cB cI cJ a_this a_cards a_county a_holes a_text a_letter a_where a_rank a_value a_hour a_readLetter a_readWhere a_readRank a_readValue a_readHour a_listName a_listDay a_voterName a_voterDay a_voterCounty a_heaps a_speed a_four a_byRules a_hours a_rest a_yet a_put v_kept v_length v_items v_readItems v_at v_lists v_voters v_needed v_text) (w_X11_more cB cI cJ a_this a_cards a_county a_holes a_text a_letter a_where a_rank a_value a_hour a_readLetter a_readWhere a_readRank a_readValue a_readHour a_listName a_listDay a_voterName a_voterDay a_voterCounty a_heaps a_speed a_four a_byRules a_hours a_rest a_yet a_put v_kept v_length v_items v_readItems o_at v_lists v_voters v_needed v_text) r := by
  refine MTi.of (cc := cX11_more) (nL := 2) (rt := .int) (own := RX11) pn_X11 rfl rfl (Nat.le_of_ble_eq_true rfl) rfl ?_
  intro p e s m args below meth c A ls Q C hP hD hS hl hret
  obtain ⟨hx, hb, hml, hts, hown, hK, hN, hA, hlk⟩ := id C
  have hl : lv_has ls 2 [(0, .ref a_this), (1, .int x1)] := hl
  unfold f_X11_more at hf
  refine lv_aload_n hx hb dX11_more_0 rfl (lv_at hl 0 rfl) ?_
  refine va_get (D := D) (ci := 11) (v := .int v_at) (C := RX11) (T := TX11) (N := 35) hx hb hts in_X11_more_X11 hown hK hP 0 rfl rfl 18 (by decide) (hts (.fieldLink RX11 142 "HangingCardsModel" "at" "I") (List.mem_of_getElem? (i := 1) rfl)) (fun _ h9 => h9) rfl dX11_more_1 ?_
  refine lv_aload_n hx hb dX11_more_4 rfl (lv_at hl 0 rfl) ?_
  refine va_get (D := D) (ci := 11) (v := .int v_length) (C := RX11) (T := TX11) (N := 35) hx hb hts in_X11_more_X11 hown hK hP 0 rfl rfl 4 (by decide) (hts (.fieldLink RX11 139 "HangingCardsModel" "length" "I") (List.mem_of_getElem? (i := 2) rfl)) (fun _ h9 => h9) rfl dX11_more_5 ?_
  refine lv_icmp_ge (tgt := 24) hx hb dX11_more_8 (by decide) (fun c1 => ?_) (fun c1 => ?_)
  · have hf := wk_itT hf c1
    refine lv_iconst (v := (-1 : Int32)) hx hb dX11_more_24 (by decide) ?_
    exact hret _ _ _ _ _ _ dX11_more_25 (wk_rt hf (fun z => z.1)) (wk_rt hf (fun z => w_X11_more cB cI cJ a_this a_cards a_county a_holes a_text a_letter a_where a_rank a_value a_hour a_readLetter a_readWhere a_readRank a_readValue a_readHour a_listName a_listDay a_voterName a_voterDay a_voterCounty a_heaps a_speed a_four a_byRules a_hours a_rest a_yet a_put v_kept v_length v_items v_readItems (z.2) v_lists v_voters v_needed v_text)) hP hD hS
  · have hf := wk_itF hf c1
    refine lv_aload_n hx hb dX11_more_11 rfl (lv_at hl 0 rfl) ?_
    refine va_get (D := D) (ci := 11) (v := .ref a_text) (C := RX11) (T := TX11) (N := 35) hx hb hts in_X11_more_X11 hown hK hP 0 rfl rfl 5 (by decide) (hts (.fieldLink RX11 19 "HangingCardsModel" "text" "[B") (List.mem_of_getElem? (i := 3) rfl)) (fun _ h9 => h9) rfl dX11_more_12 ?_
    refine lv_aload_n hx hb dX11_more_15 rfl (lv_at hl 0 rfl) ?_
    refine va_get (D := D) (ci := 11) (v := .int v_at) (C := RX11) (T := TX11) (N := 35) hx hb hts in_X11_more_X11 hown hK hP 0 rfl rfl 18 (by decide) (hts (.fieldLink RX11 142 "HangingCardsModel" "at" "I") (List.mem_of_getElem? (i := 1) rfl)) (fun _ h9 => h9) rfl dX11_more_16 ?_
    obtain ⟨hi2, hf⟩ := wk_ckE hf
    refine va_bald hx hb hK hP 1 1 rfl rfl hi2 dX11_more_19 ?_
    refine lv_iload_n hx hb dX11_more_20 rfl (lv_at hl 1 rfl) ?_
    refine lv_icmp_eq (tgt := 26) hx hb dX11_more_21 (by decide) (fun c3 => ?_) (fun c3 => ?_)
    · have hf := wk_itT hf c3
      refine lv_aload_n hx hb dX11_more_26 rfl (lv_at hl 0 rfl) ?_
      refine lv_dup hx hb dX11_more_27 rfl ?_
      refine va_get (D := D) (ci := 11) (v := .int v_at) (C := RX11) (T := TX11) (N := 35) hx hb hts in_X11_more_X11 hown hK hP 0 rfl rfl 18 (by decide) (hts (.fieldLink RX11 142 "HangingCardsModel" "at" "I") (List.mem_of_getElem? (i := 1) rfl)) (fun _ h9 => h9) rfl dX11_more_28 ?_
      refine lv_iconst (v := (1 : Int32)) hx hb dX11_more_31 (by decide) ?_
      refine lv_iadd hx hb dX11_more_32 ?_
      refine va_put (D := D) (ci := 11) (v := .int (v_at + (1 : Int32))) (ty := .int) (C := RX11) (T := TX11) (N := 35) hx hb hts in_X11_more_X11 tyX11 tyX11_ok nmX11 hown hK hP hD hS 0 rfl rfl 18 (by decide) (hts (.fieldLink RX11 142 "HangingCardsModel" "at" "I") (List.mem_of_getElem? (i := 1) rfl)) (fun _ h9 => h9) rfl (by decide +kernel) rfl rfl (Nat.le_of_ble_eq_true rfl) dX11_more_33 (fun H locs hP hD hS => ?_)
      have hP : va_P D vwCl (w_X11_more cB cI cJ a_this a_cards a_county a_holes a_text a_letter a_where a_rank a_value a_hour a_readLetter a_readWhere a_readRank a_readValue a_readHour a_listName a_listDay a_voterName a_voterDay a_voterCounty a_heaps a_speed a_four a_byRules a_hours a_rest a_yet a_put v_kept v_length v_items v_readItems (v_at + (1 : Int32)) v_lists v_voters v_needed v_text) H := hP
      have hD : va_D A (w_X11_more cB cI cJ a_this a_cards a_county a_holes a_text a_letter a_where a_rank a_value a_hour a_readLetter a_readWhere a_readRank a_readValue a_readHour a_listName a_listDay a_voterName a_voterDay a_voterCounty a_heaps a_speed a_four a_byRules a_hours a_rest a_yet a_put v_kept v_length v_items v_readItems (v_at + (1 : Int32)) v_lists v_voters v_needed v_text) := hD
      refine lv_aload_n hx hb dX11_more_36 rfl (lv_at hl 0 rfl) ?_
      obtain ⟨r4, o4_0, hc4, hf⟩ := wk_b2E hf
      refine wk_callVi2 C hP hD hS (c_X11_number l D cB cI cJ N a_this a_cards a_county a_holes a_text a_letter a_where a_rank a_value a_hour a_readLetter a_readWhere a_readRank a_readValue a_readHour a_listName a_listDay a_voterName a_voterDay a_voterCounty a_heaps a_speed a_four a_byRules a_hours a_rest a_yet a_put v_kept v_length v_items v_readItems (v_at + (1 : Int32)) v_lists v_voters v_needed v_text hc4) (cwV 0 hts gX11_more_X11_number rfl rfl rfl hd_X11_number ⟨Nat.le_of_ble_eq_true rfl, Nat.le_of_ble_eq_true rfl⟩) hl.1 ⟨Nat.zero_le _, Nat.zero_le _⟩ [0, 1] [] 2 (by decide +kernel) rfl (Wn := w_X11_more cB cI cJ a_this a_cards a_county a_holes a_text a_letter a_where a_rank a_value a_hour a_readLetter a_readWhere a_readRank a_readValue a_readHour a_listName a_listDay a_voterName a_voterDay a_voterCounty a_heaps a_speed a_four a_byRules a_hours a_rest a_yet a_put v_kept v_length v_items v_readItems o4_0 v_lists v_voters v_needed v_text) rfl rfl rfl rfl rfl rfl (ci := 11) rfl rfl (q0 := 0) rfl rfl rfl (Nat.le_of_ble_eq_true rfl) dX11_more_37 (fun H locs hP hD hS => ?_)
      exact hret _ _ _ _ _ _ dX11_more_40 (wk_rt hf (fun z => z.1)) (wk_rt hf (fun z => w_X11_more cB cI cJ a_this a_cards a_county a_holes a_text a_letter a_where a_rank a_value a_hour a_readLetter a_readWhere a_readRank a_readValue a_readHour a_listName a_listDay a_voterName a_voterDay a_voterCounty a_heaps a_speed a_four a_byRules a_hours a_rest a_yet a_put v_kept v_length v_items v_readItems (z.2) v_lists v_voters v_needed v_text)) hP hD hS
    · have hf := wk_itF hf c3
      refine lv_iconst (v := (-1 : Int32)) hx hb dX11_more_24 (by decide) ?_
      exact hret _ _ _ _ _ _ dX11_more_25 (wk_rt hf (fun z => z.1)) (wk_rt hf (fun z => w_X11_more cB cI cJ a_this a_cards a_county a_holes a_text a_letter a_where a_rank a_value a_hour a_readLetter a_readWhere a_readRank a_readValue a_readHour a_listName a_listDay a_voterName a_voterDay a_voterCounty a_heaps a_speed a_four a_byRules a_hours a_rest a_yet a_put v_kept v_length v_items v_readItems (z.2) v_lists v_voters v_needed v_text)) hP hD hS
abbrev w_X11_reads (cB cI cJ : ClassId) (a_this : Nat) (a_cards : Nat) (a_county : Nat) (a_holes : Nat) (a_text : Nat) (a_letter : Nat) (a_where : Nat) (a_rank : Nat) (a_value : Nat) (a_hour : Nat) (a_readLetter : Nat) (a_readWhere : Nat) (a_readRank : Nat) (a_readValue : Nat) (a_readHour : Nat) (a_listName : Nat) (a_listDay : Nat) (a_voterName : Nat) (a_voterDay : Nat) (a_voterCounty : Nat) (a_heaps : Nat) (a_speed : Nat) (a_four : Nat) (a_byRules : Nat) (a_hours : Nat) (a_rest : Nat) (a_yet : Nat) (a_put : Nat) (v_kept : Int32) (v_length : Int32) (v_items : Int32) (v_readItems : Int32) (v_at : Int32) (v_lists : Int32) (v_voters : Int32) (v_needed : Int32) (v_readHour : Nat → Int32) (v_readLetter : Nat → Int32) (v_readRank : Nat → Int32) (v_readValue : Nat → Int32) (v_readWhere : Nat → Int32) (v_text : Nat → Int32) : va_W := [(a_this, .inr (11, [.ref a_cards, .ref a_county, .ref a_holes, .int v_kept, .int v_length, .ref a_text, .int v_items, .ref a_letter, .ref a_where, .ref a_rank, .ref a_value, .ref a_hour, .int v_readItems, .ref a_readLetter, .ref a_readWhere, .ref a_readRank, .ref a_readValue, .ref a_readHour, .int v_at, .int v_lists, .ref a_listName, .ref a_listDay, .int v_voters, .ref a_voterName, .ref a_voterDay, .ref a_voterCounty, .int v_needed, .ref a_heaps, .ref a_speed, .ref a_four, .ref a_byRules, .ref a_hours, .ref a_rest, .ref a_yet, .ref a_put])), (a_readHour, .inl (cI, 40, .inl v_readHour)), (a_readLetter, .inl (cI, 40, .inl v_readLetter)), (a_readRank, .inl (cI, 40, .inl v_readRank)), (a_readValue, .inl (cI, 40, .inl v_readValue)), (a_readWhere, .inl (cI, 40, .inl v_readWhere)), (a_text, .inl (cB, 200, .inl v_text))]
theorem hd_X11_reads : yX11_reads.cls = RX11 ∧ yX11_reads.cls ≠ "java/lang/invoke/MethodHandle" ∧ yX11_reads.cls ≠ "java/lang/invoke/VarHandle" ∧ (parseMethodDescriptor yX11_reads.desc).map (fun d => d.parameters.length) = some 0 := by decide +kernel
abbrev rm_X11_reads : Room := { frames := 3, cells := 0, slots := 0, locals := 68 }
theorem in_X11_reads_X11 : ∀ w ∈ wsX110, w ∈ wsX11_reads := fun w h => List.mem_cons_of_mem _ (List.mem_append_right _ h)
set_option maxHeartbeats 4000000 in
set_option maxRecDepth 100000 in
theorem c_X11_reads (l : Launch) (D : va_G) (cB cI cJ : ClassId) (N : Nat) (a_this : Nat) (a_cards : Nat) (a_county : Nat) (a_holes : Nat) (a_text : Nat) (a_letter : Nat) (a_where : Nat) (a_rank : Nat) (a_value : Nat) (a_hour : Nat) (a_readLetter : Nat) (a_readWhere : Nat) (a_readRank : Nat) (a_readValue : Nat) (a_readHour : Nat) (a_listName : Nat) (a_listDay : Nat) (a_voterName : Nat) (a_voterDay : Nat) (a_voterCounty : Nat) (a_heaps : Nat) (a_speed : Nat) (a_four : Nat) (a_byRules : Nat) (a_hours : Nat) (a_rest : Nat) (a_yet : Nat) (a_put : Nat) (v_kept : Int32) (v_length : Int32) (v_items : Int32) (v_readItems : Int32) (v_at : Int32) (v_lists : Int32) (v_voters : Int32) (v_needed : Int32) (v_readHour : Nat → Int32) (v_readLetter : Nat → Int32) (v_readRank : Nat → Int32) (v_readValue : Nat → Int32) (v_readWhere : Nat → Int32) (v_text : Nat → Int32) {r : Bool} {o_readItems : Int32} {o_at : Int32} {o_readHour : Nat → Int32} {o_readLetter : Nat → Int32} {o_readRank : Nat → Int32} {o_readValue : Nat → Int32} {o_readWhere : Nat → Int32} (hf : f_X11_reads N v_length v_text v_readItems v_at v_readHour v_readLetter v_readRank v_readValue v_readWhere = some (r, o_readItems, o_at, o_readHour, o_readLetter, o_readRank, o_readValue, o_readWhere)) : MTi l yX11_reads wsX11_reads rm_X11_reads D (wk_T cB cI cJ) [.ref a_this] (w_X11_reads cB cI cJ a_this a_cards a_county a_holes a_text a_letter a_where a_rank a_value a_hour a_readLetter a_readWhere a_readRank a_readValue a_readHour a_listName a_listDay a_voterName a_voterDay a_voterCounty a_heaps a_speed a_four a_byRules a_hours a_rest a_yet a_put v_kept v_length v_items v_readItems v_at v_lists v_voters v_needed v_readHour v_readLetter v_readRank v_readValue v_readWhere v_text) (w_X11_reads cB cI cJ a_this a_cards a_county a_holes a_text a_letter a_where a_rank a_value a_hour a_readLetter a_readWhere a_readRank a_readValue a_readHour a_listName a_listDay a_voterName a_voterDay a_voterCounty a_heaps a_speed a_four a_byRules a_hours a_rest a_yet a_put v_kept v_length v_items o_readItems o_at v_lists v_voters v_needed o_readHour o_readLetter o_readRank o_readValue o_readWhere v_text) (wk_bI r) := by
  refine MTi.of (cc := cX11_reads) (nL := 8) (rt := .boolean) (own := RX11) pn_X11 rfl rfl (Nat.le_of_ble_eq_true rfl) (wk_nz r) ?_
  intro p e s m args below meth c A ls Q C hP hD hS hl hret
  obtain ⟨hx, hb, hml, hts, hown, hK, hN, hA, hlk⟩ := id C
  have hl : lv_has ls 8 [(0, .ref a_this)] := hl
  have J294 : ∀ (v_readItems : Int32) (v_at : Int32) (v_readHour : Nat → Int32) (v_readLetter : Nat → Int32) (v_readRank : Nat → Int32) (v_readValue : Nat → Int32) (v_readWhere : Nat → Int32) (x1 : Int32) (x3 : Int32) (x4 : Int32) (x5 : Int32) (x6 : Int32) (s0 : Int32), B_X11_reads_294 N v_length v_text v_readItems v_at v_readHour v_readLetter v_readRank v_readValue v_readWhere x1 x3 x4 x5 x6 s0 = some (r, o_readItems, o_at, o_readHour, o_readLetter, o_readRank, o_readValue, o_readWhere) → ∀ (H : Heap) (locs : List Loc) (ls : Array Slot), va_P D vwCl (w_X11_reads cB cI cJ a_this a_cards a_county a_holes a_text a_letter a_where a_rank a_value a_hour a_readLetter a_readWhere a_readRank a_readValue a_readHour a_listName a_listDay a_voterName a_voterDay a_voterCounty a_heaps a_speed a_four a_byRules a_hours a_rest a_yet a_put v_kept v_length v_items v_readItems v_at v_lists v_voters v_needed v_readHour v_readLetter v_readRank v_readValue v_readWhere v_text) H → va_D A (w_X11_reads cB cI cJ a_this a_cards a_county a_holes a_text a_letter a_where a_rank a_value a_hour a_readLetter a_readWhere a_readRank a_readValue a_readHour a_listName a_listDay a_voterName a_voterDay a_voterCounty a_heaps a_speed a_four a_byRules a_hours a_rest a_yet a_put v_kept v_length v_items v_readItems v_at v_lists v_voters v_needed v_readHour v_readLetter v_readRank v_readValue v_readWhere v_text) → va_S A s.heap H locs → lv_has ls 8 [(0, .ref a_this), (1, .int x1), (3, .int x3), (4, .int x4), (5, .int x5), (6, .int x6)] → W p l e rm_X11_reads s m args below meth c H locs 0 0 Q (F0 m 294 ls [.int s0]) := by
    intro v_readItems v_at v_readHour v_readLetter v_readRank v_readValue v_readWhere x1 x3 x4 x5 x6 s0 hf H locs ls hP hD hS hl
    unfold B_X11_reads_294 at hf
    refine lv_istore (lv' := [(7, .int s0), (0, .ref a_this), (1, .int x1), (3, .int x3), (4, .int x4), (5, .int x5), (6, .int x6)]) hx hb dX11_reads_294 hl (by decide) rfl (fun ls hl => ?_)
    refine lv_iload hx hb dX11_reads_296 (lv_at hl 0 rfl) ?_
    refine lv_if_ne (tgt := 303) hx hb dX11_reads_298 (by decide) (fun c1 => ?_) (fun c1 => ?_)
    · have hf := wk_itF hf c1
      refine lv_aload_n hx hb dX11_reads_303 rfl (lv_at hl 1 rfl) ?_
      refine lv_dup hx hb dX11_reads_304 rfl ?_
      refine va_get (D := D) (ci := 11) (v := .int v_at) (C := RX11) (T := TX11) (N := 35) hx hb hts in_X11_reads_X11 hown hK hP 0 rfl rfl 18 (by decide) (hts (.fieldLink RX11 142 "HangingCardsModel" "at" "I") (List.mem_of_getElem? (i := 2) rfl)) (fun _ h9 => h9) rfl dX11_reads_305 ?_
      refine lv_iconst (v := (1 : Int32)) hx hb dX11_reads_308 (by decide) ?_
      refine lv_iadd hx hb dX11_reads_309 ?_
      refine va_put (D := D) (ci := 11) (v := .int (v_at + (1 : Int32))) (ty := .int) (C := RX11) (T := TX11) (N := 35) hx hb hts in_X11_reads_X11 tyX11 tyX11_ok nmX11 hown hK hP hD hS 0 rfl rfl 18 (by decide) (hts (.fieldLink RX11 142 "HangingCardsModel" "at" "I") (List.mem_of_getElem? (i := 2) rfl)) (fun _ h9 => h9) rfl (by decide +kernel) rfl rfl (Nat.le_of_ble_eq_true rfl) dX11_reads_310 (fun H locs hP hD hS => ?_)
      have hP : va_P D vwCl (w_X11_reads cB cI cJ a_this a_cards a_county a_holes a_text a_letter a_where a_rank a_value a_hour a_readLetter a_readWhere a_readRank a_readValue a_readHour a_listName a_listDay a_voterName a_voterDay a_voterCounty a_heaps a_speed a_four a_byRules a_hours a_rest a_yet a_put v_kept v_length v_items v_readItems (v_at + (1 : Int32)) v_lists v_voters v_needed v_readHour v_readLetter v_readRank v_readValue v_readWhere v_text) H := hP
      have hD : va_D A (w_X11_reads cB cI cJ a_this a_cards a_county a_holes a_text a_letter a_where a_rank a_value a_hour a_readLetter a_readWhere a_readRank a_readValue a_readHour a_listName a_listDay a_voterName a_voterDay a_voterCounty a_heaps a_speed a_four a_byRules a_hours a_rest a_yet a_put v_kept v_length v_items v_readItems (v_at + (1 : Int32)) v_lists v_voters v_needed v_readHour v_readLetter v_readRank v_readValue v_readWhere v_text) := hD
      refine lv_aload_n hx hb dX11_reads_313 rfl (lv_at hl 1 rfl) ?_
      refine va_get (D := D) (ci := 11) (v := .ref a_readLetter) (C := RX11) (T := TX11) (N := 35) hx hb hts in_X11_reads_X11 hown hK hP 0 rfl rfl 13 (by decide) (hts (.fieldLink RX11 38 "HangingCardsModel" "readLetter" "[I") (List.mem_of_getElem? (i := 8) rfl)) (fun _ h9 => h9) rfl dX11_reads_314 ?_
      refine lv_aload_n hx hb dX11_reads_317 rfl (lv_at hl 1 rfl) ?_
      refine va_get (D := D) (ci := 11) (v := .int v_readItems) (C := RX11) (T := TX11) (N := 35) hx hb hts in_X11_reads_X11 hown hK hP 0 rfl rfl 12 (by decide) (hts (.fieldLink RX11 161 "HangingCardsModel" "readItems" "I") (List.mem_of_getElem? (i := 9) rfl)) (fun _ h9 => h9) rfl dX11_reads_318 ?_
      refine lv_iload_n hx hb dX11_reads_321 rfl (lv_at hl 2 rfl) ?_
      obtain ⟨hi2, hf⟩ := wk_ckE hf
      refine va_iast hx hb hK hP hD hS 2 0 rfl rfl hi2 dX11_reads_322 (fun H locs hP hD hS => ?_)
      have hP : va_P D vwCl (w_X11_reads cB cI cJ a_this a_cards a_county a_holes a_text a_letter a_where a_rank a_value a_hour a_readLetter a_readWhere a_readRank a_readValue a_readHour a_listName a_listDay a_voterName a_voterDay a_voterCounty a_heaps a_speed a_four a_byRules a_hours a_rest a_yet a_put v_kept v_length v_items v_readItems (v_at + (1 : Int32)) v_lists v_voters v_needed v_readHour (upd v_readLetter v_readItems.toNatClampNeg x1) v_readRank v_readValue v_readWhere v_text) H := hP
      have hD : va_D A (w_X11_reads cB cI cJ a_this a_cards a_county a_holes a_text a_letter a_where a_rank a_value a_hour a_readLetter a_readWhere a_readRank a_readValue a_readHour a_listName a_listDay a_voterName a_voterDay a_voterCounty a_heaps a_speed a_four a_byRules a_hours a_rest a_yet a_put v_kept v_length v_items v_readItems (v_at + (1 : Int32)) v_lists v_voters v_needed v_readHour (upd v_readLetter v_readItems.toNatClampNeg x1) v_readRank v_readValue v_readWhere v_text) := hD
      refine lv_aload_n hx hb dX11_reads_323 rfl (lv_at hl 1 rfl) ?_
      refine va_get (D := D) (ci := 11) (v := .ref a_readWhere) (C := RX11) (T := TX11) (N := 35) hx hb hts in_X11_reads_X11 hown hK hP 0 rfl rfl 14 (by decide) (hts (.fieldLink RX11 41 "HangingCardsModel" "readWhere" "[I") (List.mem_of_getElem? (i := 10) rfl)) (fun _ h9 => h9) rfl dX11_reads_324 ?_
      refine lv_aload_n hx hb dX11_reads_327 rfl (lv_at hl 1 rfl) ?_
      refine va_get (D := D) (ci := 11) (v := .int v_readItems) (C := RX11) (T := TX11) (N := 35) hx hb hts in_X11_reads_X11 hown hK hP 0 rfl rfl 12 (by decide) (hts (.fieldLink RX11 161 "HangingCardsModel" "readItems" "I") (List.mem_of_getElem? (i := 9) rfl)) (fun _ h9 => h9) rfl dX11_reads_328 ?_
      refine lv_iload_n hx hb dX11_reads_331 rfl (lv_at hl 3 rfl) ?_
      obtain ⟨hi3, hf⟩ := wk_ckE hf
      refine va_iast hx hb hK hP hD hS 5 0 rfl rfl hi3 dX11_reads_332 (fun H locs hP hD hS => ?_)
      have hP : va_P D vwCl (w_X11_reads cB cI cJ a_this a_cards a_county a_holes a_text a_letter a_where a_rank a_value a_hour a_readLetter a_readWhere a_readRank a_readValue a_readHour a_listName a_listDay a_voterName a_voterDay a_voterCounty a_heaps a_speed a_four a_byRules a_hours a_rest a_yet a_put v_kept v_length v_items v_readItems (v_at + (1 : Int32)) v_lists v_voters v_needed v_readHour (upd v_readLetter v_readItems.toNatClampNeg x1) v_readRank v_readValue (upd v_readWhere v_readItems.toNatClampNeg x3) v_text) H := hP
      have hD : va_D A (w_X11_reads cB cI cJ a_this a_cards a_county a_holes a_text a_letter a_where a_rank a_value a_hour a_readLetter a_readWhere a_readRank a_readValue a_readHour a_listName a_listDay a_voterName a_voterDay a_voterCounty a_heaps a_speed a_four a_byRules a_hours a_rest a_yet a_put v_kept v_length v_items v_readItems (v_at + (1 : Int32)) v_lists v_voters v_needed v_readHour (upd v_readLetter v_readItems.toNatClampNeg x1) v_readRank v_readValue (upd v_readWhere v_readItems.toNatClampNeg x3) v_text) := hD
      refine lv_aload_n hx hb dX11_reads_333 rfl (lv_at hl 1 rfl) ?_
      refine va_get (D := D) (ci := 11) (v := .ref a_readRank) (C := RX11) (T := TX11) (N := 35) hx hb hts in_X11_reads_X11 hown hK hP 0 rfl rfl 15 (by decide) (hts (.fieldLink RX11 44 "HangingCardsModel" "readRank" "[I") (List.mem_of_getElem? (i := 11) rfl)) (fun _ h9 => h9) rfl dX11_reads_334 ?_
      refine lv_aload_n hx hb dX11_reads_337 rfl (lv_at hl 1 rfl) ?_
      refine va_get (D := D) (ci := 11) (v := .int v_readItems) (C := RX11) (T := TX11) (N := 35) hx hb hts in_X11_reads_X11 hown hK hP 0 rfl rfl 12 (by decide) (hts (.fieldLink RX11 161 "HangingCardsModel" "readItems" "I") (List.mem_of_getElem? (i := 9) rfl)) (fun _ h9 => h9) rfl dX11_reads_338 ?_
      refine lv_iload hx hb dX11_reads_341 (lv_at hl 4 rfl) ?_
      obtain ⟨hi4, hf⟩ := wk_ckE hf
      refine va_iast hx hb hK hP hD hS 3 0 rfl rfl hi4 dX11_reads_343 (fun H locs hP hD hS => ?_)
      have hP : va_P D vwCl (w_X11_reads cB cI cJ a_this a_cards a_county a_holes a_text a_letter a_where a_rank a_value a_hour a_readLetter a_readWhere a_readRank a_readValue a_readHour a_listName a_listDay a_voterName a_voterDay a_voterCounty a_heaps a_speed a_four a_byRules a_hours a_rest a_yet a_put v_kept v_length v_items v_readItems (v_at + (1 : Int32)) v_lists v_voters v_needed v_readHour (upd v_readLetter v_readItems.toNatClampNeg x1) (upd v_readRank v_readItems.toNatClampNeg x4) v_readValue (upd v_readWhere v_readItems.toNatClampNeg x3) v_text) H := hP
      have hD : va_D A (w_X11_reads cB cI cJ a_this a_cards a_county a_holes a_text a_letter a_where a_rank a_value a_hour a_readLetter a_readWhere a_readRank a_readValue a_readHour a_listName a_listDay a_voterName a_voterDay a_voterCounty a_heaps a_speed a_four a_byRules a_hours a_rest a_yet a_put v_kept v_length v_items v_readItems (v_at + (1 : Int32)) v_lists v_voters v_needed v_readHour (upd v_readLetter v_readItems.toNatClampNeg x1) (upd v_readRank v_readItems.toNatClampNeg x4) v_readValue (upd v_readWhere v_readItems.toNatClampNeg x3) v_text) := hD
      refine lv_aload_n hx hb dX11_reads_344 rfl (lv_at hl 1 rfl) ?_
      refine va_get (D := D) (ci := 11) (v := .ref a_readValue) (C := RX11) (T := TX11) (N := 35) hx hb hts in_X11_reads_X11 hown hK hP 0 rfl rfl 16 (by decide) (hts (.fieldLink RX11 47 "HangingCardsModel" "readValue" "[I") (List.mem_of_getElem? (i := 12) rfl)) (fun _ h9 => h9) rfl dX11_reads_345 ?_
      refine lv_aload_n hx hb dX11_reads_348 rfl (lv_at hl 1 rfl) ?_
      refine va_get (D := D) (ci := 11) (v := .int v_readItems) (C := RX11) (T := TX11) (N := 35) hx hb hts in_X11_reads_X11 hown hK hP 0 rfl rfl 12 (by decide) (hts (.fieldLink RX11 161 "HangingCardsModel" "readItems" "I") (List.mem_of_getElem? (i := 9) rfl)) (fun _ h9 => h9) rfl dX11_reads_349 ?_
      refine lv_iload hx hb dX11_reads_352 (lv_at hl 5 rfl) ?_
      obtain ⟨hi5, hf⟩ := wk_ckE hf
      refine va_iast hx hb hK hP hD hS 4 0 rfl rfl hi5 dX11_reads_354 (fun H locs hP hD hS => ?_)
      have hP : va_P D vwCl (w_X11_reads cB cI cJ a_this a_cards a_county a_holes a_text a_letter a_where a_rank a_value a_hour a_readLetter a_readWhere a_readRank a_readValue a_readHour a_listName a_listDay a_voterName a_voterDay a_voterCounty a_heaps a_speed a_four a_byRules a_hours a_rest a_yet a_put v_kept v_length v_items v_readItems (v_at + (1 : Int32)) v_lists v_voters v_needed v_readHour (upd v_readLetter v_readItems.toNatClampNeg x1) (upd v_readRank v_readItems.toNatClampNeg x4) (upd v_readValue v_readItems.toNatClampNeg x5) (upd v_readWhere v_readItems.toNatClampNeg x3) v_text) H := hP
      have hD : va_D A (w_X11_reads cB cI cJ a_this a_cards a_county a_holes a_text a_letter a_where a_rank a_value a_hour a_readLetter a_readWhere a_readRank a_readValue a_readHour a_listName a_listDay a_voterName a_voterDay a_voterCounty a_heaps a_speed a_four a_byRules a_hours a_rest a_yet a_put v_kept v_length v_items v_readItems (v_at + (1 : Int32)) v_lists v_voters v_needed v_readHour (upd v_readLetter v_readItems.toNatClampNeg x1) (upd v_readRank v_readItems.toNatClampNeg x4) (upd v_readValue v_readItems.toNatClampNeg x5) (upd v_readWhere v_readItems.toNatClampNeg x3) v_text) := hD
      refine lv_aload_n hx hb dX11_reads_355 rfl (lv_at hl 1 rfl) ?_
      refine va_get (D := D) (ci := 11) (v := .ref a_readHour) (C := RX11) (T := TX11) (N := 35) hx hb hts in_X11_reads_X11 hown hK hP 0 rfl rfl 17 (by decide) (hts (.fieldLink RX11 50 "HangingCardsModel" "readHour" "[I") (List.mem_of_getElem? (i := 13) rfl)) (fun _ h9 => h9) rfl dX11_reads_356 ?_
      refine lv_aload_n hx hb dX11_reads_359 rfl (lv_at hl 1 rfl) ?_
      refine va_get (D := D) (ci := 11) (v := .int v_readItems) (C := RX11) (T := TX11) (N := 35) hx hb hts in_X11_reads_X11 hown hK hP 0 rfl rfl 12 (by decide) (hts (.fieldLink RX11 161 "HangingCardsModel" "readItems" "I") (List.mem_of_getElem? (i := 9) rfl)) (fun _ h9 => h9) rfl dX11_reads_360 ?_
      refine lv_iload hx hb dX11_reads_363 (lv_at hl 6 rfl) ?_
      obtain ⟨hi6, hf⟩ := wk_ckE hf
      refine va_iast hx hb hK hP hD hS 1 0 rfl rfl hi6 dX11_reads_365 (fun H locs hP hD hS => ?_)
      have hP : va_P D vwCl (w_X11_reads cB cI cJ a_this a_cards a_county a_holes a_text a_letter a_where a_rank a_value a_hour a_readLetter a_readWhere a_readRank a_readValue a_readHour a_listName a_listDay a_voterName a_voterDay a_voterCounty a_heaps a_speed a_four a_byRules a_hours a_rest a_yet a_put v_kept v_length v_items v_readItems (v_at + (1 : Int32)) v_lists v_voters v_needed (upd v_readHour v_readItems.toNatClampNeg x6) (upd v_readLetter v_readItems.toNatClampNeg x1) (upd v_readRank v_readItems.toNatClampNeg x4) (upd v_readValue v_readItems.toNatClampNeg x5) (upd v_readWhere v_readItems.toNatClampNeg x3) v_text) H := hP
      have hD : va_D A (w_X11_reads cB cI cJ a_this a_cards a_county a_holes a_text a_letter a_where a_rank a_value a_hour a_readLetter a_readWhere a_readRank a_readValue a_readHour a_listName a_listDay a_voterName a_voterDay a_voterCounty a_heaps a_speed a_four a_byRules a_hours a_rest a_yet a_put v_kept v_length v_items v_readItems (v_at + (1 : Int32)) v_lists v_voters v_needed (upd v_readHour v_readItems.toNatClampNeg x6) (upd v_readLetter v_readItems.toNatClampNeg x1) (upd v_readRank v_readItems.toNatClampNeg x4) (upd v_readValue v_readItems.toNatClampNeg x5) (upd v_readWhere v_readItems.toNatClampNeg x3) v_text) := hD
      refine lv_aload_n hx hb dX11_reads_366 rfl (lv_at hl 1 rfl) ?_
      refine lv_dup hx hb dX11_reads_367 rfl ?_
      refine va_get (D := D) (ci := 11) (v := .int v_readItems) (C := RX11) (T := TX11) (N := 35) hx hb hts in_X11_reads_X11 hown hK hP 0 rfl rfl 12 (by decide) (hts (.fieldLink RX11 161 "HangingCardsModel" "readItems" "I") (List.mem_of_getElem? (i := 9) rfl)) (fun _ h9 => h9) rfl dX11_reads_368 ?_
      refine lv_iconst (v := (1 : Int32)) hx hb dX11_reads_371 (by decide) ?_
      refine lv_iadd hx hb dX11_reads_372 ?_
      refine va_put (D := D) (ci := 11) (v := .int (v_readItems + (1 : Int32))) (ty := .int) (C := RX11) (T := TX11) (N := 35) hx hb hts in_X11_reads_X11 tyX11 tyX11_ok nmX11 hown hK hP hD hS 0 rfl rfl 12 (by decide) (hts (.fieldLink RX11 161 "HangingCardsModel" "readItems" "I") (List.mem_of_getElem? (i := 9) rfl)) (fun _ h9 => h9) rfl (by decide +kernel) rfl rfl (Nat.le_of_ble_eq_true rfl) dX11_reads_373 (fun H locs hP hD hS => ?_)
      have hP : va_P D vwCl (w_X11_reads cB cI cJ a_this a_cards a_county a_holes a_text a_letter a_where a_rank a_value a_hour a_readLetter a_readWhere a_readRank a_readValue a_readHour a_listName a_listDay a_voterName a_voterDay a_voterCounty a_heaps a_speed a_four a_byRules a_hours a_rest a_yet a_put v_kept v_length v_items (v_readItems + (1 : Int32)) (v_at + (1 : Int32)) v_lists v_voters v_needed (upd v_readHour v_readItems.toNatClampNeg x6) (upd v_readLetter v_readItems.toNatClampNeg x1) (upd v_readRank v_readItems.toNatClampNeg x4) (upd v_readValue v_readItems.toNatClampNeg x5) (upd v_readWhere v_readItems.toNatClampNeg x3) v_text) H := hP
      have hD : va_D A (w_X11_reads cB cI cJ a_this a_cards a_county a_holes a_text a_letter a_where a_rank a_value a_hour a_readLetter a_readWhere a_readRank a_readValue a_readHour a_listName a_listDay a_voterName a_voterDay a_voterCounty a_heaps a_speed a_four a_byRules a_hours a_rest a_yet a_put v_kept v_length v_items (v_readItems + (1 : Int32)) (v_at + (1 : Int32)) v_lists v_voters v_needed (upd v_readHour v_readItems.toNatClampNeg x6) (upd v_readLetter v_readItems.toNatClampNeg x1) (upd v_readRank v_readItems.toNatClampNeg x4) (upd v_readValue v_readItems.toNatClampNeg x5) (upd v_readWhere v_readItems.toNatClampNeg x3) v_text) := hD
      refine lv_iconst (v := (1 : Int32)) hx hb dX11_reads_376 (by decide) ?_
      exact hret _ _ _ _ _ _ dX11_reads_377 (wk_rt hf (fun z => wk_bI (z.1))) (wk_rt hf (fun z => w_X11_reads cB cI cJ a_this a_cards a_county a_holes a_text a_letter a_where a_rank a_value a_hour a_readLetter a_readWhere a_readRank a_readValue a_readHour a_listName a_listDay a_voterName a_voterDay a_voterCounty a_heaps a_speed a_four a_byRules a_hours a_rest a_yet a_put v_kept v_length v_items (z.2.1) (z.2.2.1) v_lists v_voters v_needed (z.2.2.2.1) (z.2.2.2.2.1) (z.2.2.2.2.2.1) (z.2.2.2.2.2.2.1) (z.2.2.2.2.2.2.2) v_text)) hP hD hS
    · have hf := wk_itT hf c1
      refine lv_iconst (v := (0 : Int32)) hx hb dX11_reads_301 (by decide) ?_
      exact hret _ _ _ _ _ _ dX11_reads_302 (wk_rt hf (fun z => wk_bI (z.1))) (wk_rt hf (fun z => w_X11_reads cB cI cJ a_this a_cards a_county a_holes a_text a_letter a_where a_rank a_value a_hour a_readLetter a_readWhere a_readRank a_readValue a_readHour a_listName a_listDay a_voterName a_voterDay a_voterCounty a_heaps a_speed a_four a_byRules a_hours a_rest a_yet a_put v_kept v_length v_items (z.2.1) (z.2.2.1) v_lists v_voters v_needed (z.2.2.2.1) (z.2.2.2.2.1) (z.2.2.2.2.2.1) (z.2.2.2.2.2.2.1) (z.2.2.2.2.2.2.2) v_text)) hP hD hS
  have J207 : ∀ (v_readItems : Int32) (v_at : Int32) (v_readHour : Nat → Int32) (v_readLetter : Nat → Int32) (v_readRank : Nat → Int32) (v_readValue : Nat → Int32) (v_readWhere : Nat → Int32) (x1 : Int32) (x3 : Int32) (x4 : Int32) (x5 : Int32) (x6 : Int32) (s0 : Int32), B_X11_reads_207 N v_length v_text v_readItems v_at v_readHour v_readLetter v_readRank v_readValue v_readWhere x1 x3 x4 x5 x6 s0 = some (r, o_readItems, o_at, o_readHour, o_readLetter, o_readRank, o_readValue, o_readWhere) → ∀ (H : Heap) (locs : List Loc) (ls : Array Slot), va_P D vwCl (w_X11_reads cB cI cJ a_this a_cards a_county a_holes a_text a_letter a_where a_rank a_value a_hour a_readLetter a_readWhere a_readRank a_readValue a_readHour a_listName a_listDay a_voterName a_voterDay a_voterCounty a_heaps a_speed a_four a_byRules a_hours a_rest a_yet a_put v_kept v_length v_items v_readItems v_at v_lists v_voters v_needed v_readHour v_readLetter v_readRank v_readValue v_readWhere v_text) H → va_D A (w_X11_reads cB cI cJ a_this a_cards a_county a_holes a_text a_letter a_where a_rank a_value a_hour a_readLetter a_readWhere a_readRank a_readValue a_readHour a_listName a_listDay a_voterName a_voterDay a_voterCounty a_heaps a_speed a_four a_byRules a_hours a_rest a_yet a_put v_kept v_length v_items v_readItems v_at v_lists v_voters v_needed v_readHour v_readLetter v_readRank v_readValue v_readWhere v_text) → va_S A s.heap H locs → lv_has ls 8 [(0, .ref a_this), (1, .int x1), (3, .int x3), (4, .int x4), (5, .int x5), (6, .int x6)] → W p l e rm_X11_reads s m args below meth c H locs 0 0 Q (F0 m 207 ls [.int s0]) := by
    intro v_readItems v_at v_readHour v_readLetter v_readRank v_readValue v_readWhere x1 x3 x4 x5 x6 s0 hf H locs ls hP hD hS hl
    unfold B_X11_reads_207 at hf
    refine lv_istore (lv' := [(7, .int s0), (0, .ref a_this), (1, .int x1), (3, .int x3), (4, .int x4), (5, .int x5), (6, .int x6)]) hx hb dX11_reads_207 hl (by decide) rfl (fun ls hl => ?_)
    refine lv_iload hx hb dX11_reads_209 (lv_at hl 0 rfl) ?_
    refine lv_if_eq (tgt := 293) hx hb dX11_reads_211 (by decide) (fun c7 => ?_) (fun c7 => ?_)
    · have hf := wk_itT hf c7
      refine lv_iconst (v := (0 : Int32)) hx hb dX11_reads_293 (by decide) ?_
      exact J294 _ _ _ _ _ _ _ _ _ _ _ _ _ hf _ _ _ hP hD hS (lv_sub hl [1, 2, 3, 4, 5, 6] rfl)
    · have hf := wk_itF hf c7
      refine lv_iload_n hx hb dX11_reads_214 rfl (lv_at hl 2 rfl) ?_
      refine lv_if_ne (tgt := 234) hx hb dX11_reads_215 (by decide) (fun c8 => ?_) (fun c8 => ?_)
      · have hf := wk_itF hf c8
        refine lv_iload_n hx hb dX11_reads_234 rfl (lv_at hl 2 rfl) ?_
        refine lv_iconst (v := (1 : Int32)) hx hb dX11_reads_235 (by decide) ?_
        refine lv_icmp_ne (tgt := 255) hx hb dX11_reads_236 (by decide) (fun c9 => ?_) (fun c9 => ?_)
        · have hf := wk_itF hf c9
          refine lv_iload_n hx hb dX11_reads_255 rfl (lv_at hl 2 rfl) ?_
          refine lv_iconst (v := (2 : Int32)) hx hb dX11_reads_256 (by decide) ?_
          refine lv_icmp_ne (tgt := 278) hx hb dX11_reads_257 (by decide) (fun c10 => ?_) (fun c10 => ?_)
          · have hf := wk_itF hf c10
            refine lv_iload hx hb dX11_reads_278 (lv_at hl 5 rfl) ?_
            refine lv_i2l (v := (x5.toInt64)) hx hb dX11_reads_280 rfl ?_
            refine lv_lconst (v := (0 : Int64)) hx hb dX11_reads_281 (by decide) ?_
            refine lv_lconst (v := (1 : Int64)) hx hb dX11_reads_282 (by decide) ?_
            obtain ⟨r11, hc11, hf⟩ := wk_b1E hf
            refine wk_callSi2 C hP hD hS (c_X11_in l D cB cI cJ N (x5.toInt64) (0 : Int64) (1 : Int64) hc11) (va_cwS 3 hts gX11_reads_X11_in rfl rfl rfl hd_X11_in.2 ⟨Nat.le_of_ble_eq_true rfl, Nat.le_of_ble_eq_true rfl⟩) hl.1 ⟨Nat.zero_le _, Nat.zero_le _⟩ [] [0, 1, 2, 3, 4, 5, 6] 7 (by decide +kernel) rfl (Wn := w_X11_reads cB cI cJ a_this a_cards a_county a_holes a_text a_letter a_where a_rank a_value a_hour a_readLetter a_readWhere a_readRank a_readValue a_readHour a_listName a_listDay a_voterName a_voterDay a_voterCounty a_heaps a_speed a_four a_byRules a_hours a_rest a_yet a_put v_kept v_length v_items v_readItems v_at v_lists v_voters v_needed v_readHour v_readLetter v_readRank v_readValue v_readWhere v_text) rfl rfl rfl rfl rfl rfl rfl rfl (Nat.le_of_ble_eq_true rfl) dX11_reads_283 (fun H locs hP hD hS => ?_)
            refine lv_if_eq (tgt := 293) hx hb dX11_reads_286 (by decide) (fun c12 => ?_) (fun c12 => ?_)
            · have hf := wk_itT hf c12
              refine lv_iconst (v := (0 : Int32)) hx hb dX11_reads_293 (by decide) ?_
              exact J294 _ _ _ _ _ _ _ _ _ _ _ _ _ hf _ _ _ hP hD hS (lv_sub hl [1, 2, 3, 4, 5, 6] rfl)
            · have hf := wk_itF hf c12
              refine lv_iconst (v := (1 : Int32)) hx hb dX11_reads_289 (by decide) ?_
              refine lv_goto (tgt := 294) hx hb dX11_reads_290 (by decide) ?_
              exact J294 _ _ _ _ _ _ _ _ _ _ _ _ _ hf _ _ _ hP hD hS (lv_sub hl [1, 2, 3, 4, 5, 6] rfl)
          · have hf := wk_itT hf c10
            refine lv_iload hx hb dX11_reads_260 (lv_at hl 5 rfl) ?_
            refine lv_i2l (v := (x5.toInt64)) hx hb dX11_reads_262 rfl ?_
            refine lv_ldc2 (v := (2 : Int64)) hx hb hown (hts (.constantLong RX11 115 (2)) (List.mem_of_getElem? (i := 7) rfl)) dX11_reads_263 ?_
            refine lv_ldc2 (v := (5 : Int64)) hx hb hown (hts (.constantLong RX11 157 (5)) (List.mem_of_getElem? (i := 3) rfl)) dX11_reads_266 ?_
            obtain ⟨r13, hc13, hf⟩ := wk_b1E hf
            refine wk_callSi2 C hP hD hS (c_X11_in l D cB cI cJ N (x5.toInt64) (2 : Int64) (5 : Int64) hc13) (va_cwS 3 hts gX11_reads_X11_in rfl rfl rfl hd_X11_in.2 ⟨Nat.le_of_ble_eq_true rfl, Nat.le_of_ble_eq_true rfl⟩) hl.1 ⟨Nat.zero_le _, Nat.zero_le _⟩ [] [0, 1, 2, 3, 4, 5, 6] 7 (by decide +kernel) rfl (Wn := w_X11_reads cB cI cJ a_this a_cards a_county a_holes a_text a_letter a_where a_rank a_value a_hour a_readLetter a_readWhere a_readRank a_readValue a_readHour a_listName a_listDay a_voterName a_voterDay a_voterCounty a_heaps a_speed a_four a_byRules a_hours a_rest a_yet a_put v_kept v_length v_items v_readItems v_at v_lists v_voters v_needed v_readHour v_readLetter v_readRank v_readValue v_readWhere v_text) rfl rfl rfl rfl rfl rfl rfl rfl (Nat.le_of_ble_eq_true rfl) dX11_reads_269 (fun H locs hP hD hS => ?_)
            refine lv_if_eq (tgt := 293) hx hb dX11_reads_272 (by decide) (fun c14 => ?_) (fun c14 => ?_)
            · have hf := wk_itT hf c14
              refine lv_iconst (v := (0 : Int32)) hx hb dX11_reads_293 (by decide) ?_
              exact J294 _ _ _ _ _ _ _ _ _ _ _ _ _ hf _ _ _ hP hD hS (lv_sub hl [1, 2, 3, 4, 5, 6] rfl)
            · have hf := wk_itF hf c14
              refine lv_goto (tgt := 289) hx hb dX11_reads_275 (by decide) ?_
              refine lv_iconst (v := (1 : Int32)) hx hb dX11_reads_289 (by decide) ?_
              refine lv_goto (tgt := 294) hx hb dX11_reads_290 (by decide) ?_
              exact J294 _ _ _ _ _ _ _ _ _ _ _ _ _ hf _ _ _ hP hD hS (lv_sub hl [1, 2, 3, 4, 5, 6] rfl)
        · have hf := wk_itT hf c9
          refine lv_iload hx hb dX11_reads_239 (lv_at hl 5 rfl) ?_
          refine lv_i2l (v := (x5.toInt64)) hx hb dX11_reads_241 rfl ?_
          refine lv_lconst (v := (0 : Int64)) hx hb dX11_reads_242 (by decide) ?_
          refine lv_ldc2 (v := (12 : Int64)) hx hb hown (hts (.constantLong RX11 159 (12)) (List.mem_of_getElem? (i := 6) rfl)) dX11_reads_243 ?_
          obtain ⟨r15, hc15, hf⟩ := wk_b1E hf
          refine wk_callSi2 C hP hD hS (c_X11_in l D cB cI cJ N (x5.toInt64) (0 : Int64) (12 : Int64) hc15) (va_cwS 3 hts gX11_reads_X11_in rfl rfl rfl hd_X11_in.2 ⟨Nat.le_of_ble_eq_true rfl, Nat.le_of_ble_eq_true rfl⟩) hl.1 ⟨Nat.zero_le _, Nat.zero_le _⟩ [] [0, 1, 2, 3, 4, 5, 6] 7 (by decide +kernel) rfl (Wn := w_X11_reads cB cI cJ a_this a_cards a_county a_holes a_text a_letter a_where a_rank a_value a_hour a_readLetter a_readWhere a_readRank a_readValue a_readHour a_listName a_listDay a_voterName a_voterDay a_voterCounty a_heaps a_speed a_four a_byRules a_hours a_rest a_yet a_put v_kept v_length v_items v_readItems v_at v_lists v_voters v_needed v_readHour v_readLetter v_readRank v_readValue v_readWhere v_text) rfl rfl rfl rfl rfl rfl rfl rfl (Nat.le_of_ble_eq_true rfl) dX11_reads_246 (fun H locs hP hD hS => ?_)
          refine lv_if_eq (tgt := 293) hx hb dX11_reads_249 (by decide) (fun c16 => ?_) (fun c16 => ?_)
          · have hf := wk_itT hf c16
            refine lv_iconst (v := (0 : Int32)) hx hb dX11_reads_293 (by decide) ?_
            exact J294 _ _ _ _ _ _ _ _ _ _ _ _ _ hf _ _ _ hP hD hS (lv_sub hl [1, 2, 3, 4, 5, 6] rfl)
          · have hf := wk_itF hf c16
            refine lv_goto (tgt := 289) hx hb dX11_reads_252 (by decide) ?_
            refine lv_iconst (v := (1 : Int32)) hx hb dX11_reads_289 (by decide) ?_
            refine lv_goto (tgt := 294) hx hb dX11_reads_290 (by decide) ?_
            exact J294 _ _ _ _ _ _ _ _ _ _ _ _ _ hf _ _ _ hP hD hS (lv_sub hl [1, 2, 3, 4, 5, 6] rfl)
      · have hf := wk_itT hf c8
        refine lv_iload hx hb dX11_reads_218 (lv_at hl 5 rfl) ?_
        refine lv_i2l (v := (x5.toInt64)) hx hb dX11_reads_220 rfl ?_
        refine lv_lconst (v := (1 : Int64)) hx hb dX11_reads_221 (by decide) ?_
        refine lv_ldc2 (v := (5 : Int64)) hx hb hown (hts (.constantLong RX11 157 (5)) (List.mem_of_getElem? (i := 3) rfl)) dX11_reads_222 ?_
        obtain ⟨r17, hc17, hf⟩ := wk_b1E hf
        refine wk_callSi2 C hP hD hS (c_X11_in l D cB cI cJ N (x5.toInt64) (1 : Int64) (5 : Int64) hc17) (va_cwS 3 hts gX11_reads_X11_in rfl rfl rfl hd_X11_in.2 ⟨Nat.le_of_ble_eq_true rfl, Nat.le_of_ble_eq_true rfl⟩) hl.1 ⟨Nat.zero_le _, Nat.zero_le _⟩ [] [0, 1, 2, 3, 4, 5, 6] 7 (by decide +kernel) rfl (Wn := w_X11_reads cB cI cJ a_this a_cards a_county a_holes a_text a_letter a_where a_rank a_value a_hour a_readLetter a_readWhere a_readRank a_readValue a_readHour a_listName a_listDay a_voterName a_voterDay a_voterCounty a_heaps a_speed a_four a_byRules a_hours a_rest a_yet a_put v_kept v_length v_items v_readItems v_at v_lists v_voters v_needed v_readHour v_readLetter v_readRank v_readValue v_readWhere v_text) rfl rfl rfl rfl rfl rfl rfl rfl (Nat.le_of_ble_eq_true rfl) dX11_reads_225 (fun H locs hP hD hS => ?_)
        refine lv_if_eq (tgt := 293) hx hb dX11_reads_228 (by decide) (fun c18 => ?_) (fun c18 => ?_)
        · have hf := wk_itT hf c18
          refine lv_iconst (v := (0 : Int32)) hx hb dX11_reads_293 (by decide) ?_
          exact J294 _ _ _ _ _ _ _ _ _ _ _ _ _ hf _ _ _ hP hD hS (lv_sub hl [1, 2, 3, 4, 5, 6] rfl)
        · have hf := wk_itF hf c18
          refine lv_goto (tgt := 289) hx hb dX11_reads_231 (by decide) ?_
          refine lv_iconst (v := (1 : Int32)) hx hb dX11_reads_289 (by decide) ?_
          refine lv_goto (tgt := 294) hx hb dX11_reads_290 (by decide) ?_
          exact J294 _ _ _ _ _ _ _ _ _ _ _ _ _ hf _ _ _ hP hD hS (lv_sub hl [1, 2, 3, 4, 5, 6] rfl)
  have J134 : ∀ (v_readItems : Int32) (v_at : Int32) (v_readHour : Nat → Int32) (v_readLetter : Nat → Int32) (v_readRank : Nat → Int32) (v_readValue : Nat → Int32) (v_readWhere : Nat → Int32) (x1 : Int32) (x3 : Int32) (x4 : Int32) (s1 : Int32), B_X11_reads_134 N v_length v_text v_readItems v_at v_readHour v_readLetter v_readRank v_readValue v_readWhere x1 x3 x4 s1 = some (r, o_readItems, o_at, o_readHour, o_readLetter, o_readRank, o_readValue, o_readWhere) → ∀ (H : Heap) (locs : List Loc) (ls : Array Slot), va_P D vwCl (w_X11_reads cB cI cJ a_this a_cards a_county a_holes a_text a_letter a_where a_rank a_value a_hour a_readLetter a_readWhere a_readRank a_readValue a_readHour a_listName a_listDay a_voterName a_voterDay a_voterCounty a_heaps a_speed a_four a_byRules a_hours a_rest a_yet a_put v_kept v_length v_items v_readItems v_at v_lists v_voters v_needed v_readHour v_readLetter v_readRank v_readValue v_readWhere v_text) H → va_D A (w_X11_reads cB cI cJ a_this a_cards a_county a_holes a_text a_letter a_where a_rank a_value a_hour a_readLetter a_readWhere a_readRank a_readValue a_readHour a_listName a_listDay a_voterName a_voterDay a_voterCounty a_heaps a_speed a_four a_byRules a_hours a_rest a_yet a_put v_kept v_length v_items v_readItems v_at v_lists v_voters v_needed v_readHour v_readLetter v_readRank v_readValue v_readWhere v_text) → va_S A s.heap H locs → lv_has ls 8 [(0, .ref a_this), (1, .int x1), (3, .int x3), (4, .int x4)] → W p l e rm_X11_reads s m args below meth c H locs 0 0 Q (F0 m 134 ls [.int s1, .ref a_this]) := by
    intro v_readItems v_at v_readHour v_readLetter v_readRank v_readValue v_readWhere x1 x3 x4 s1 hf H locs ls hP hD hS hl
    unfold B_X11_reads_134 at hf
    obtain ⟨r19, o19_0, hc19, hf⟩ := wk_b2E hf
    refine wk_callVi2 C hP hD hS (c_X11_more l D cB cI cJ N a_this a_cards a_county a_holes a_text a_letter a_where a_rank a_value a_hour a_readLetter a_readWhere a_readRank a_readValue a_readHour a_listName a_listDay a_voterName a_voterDay a_voterCounty a_heaps a_speed a_four a_byRules a_hours a_rest a_yet a_put v_kept v_length v_items v_readItems v_at v_lists v_voters v_needed v_text s1 hc19) (cwV 1 hts gX11_reads_X11_more rfl rfl rfl hd_X11_more ⟨Nat.le_of_ble_eq_true rfl, Nat.le_of_ble_eq_true rfl⟩) hl.1 ⟨Nat.zero_le _, Nat.zero_le _⟩ [0, 6] [1, 2, 3, 4, 5] 7 (by decide +kernel) rfl (Wn := w_X11_reads cB cI cJ a_this a_cards a_county a_holes a_text a_letter a_where a_rank a_value a_hour a_readLetter a_readWhere a_readRank a_readValue a_readHour a_listName a_listDay a_voterName a_voterDay a_voterCounty a_heaps a_speed a_four a_byRules a_hours a_rest a_yet a_put v_kept v_length v_items v_readItems o19_0 v_lists v_voters v_needed v_readHour v_readLetter v_readRank v_readValue v_readWhere v_text) rfl rfl rfl rfl rfl rfl (ci := 11) rfl rfl (q0 := 0) rfl rfl rfl (Nat.le_of_ble_eq_true rfl) dX11_reads_134 (fun H locs hP hD hS => ?_)
    refine lv_istore (lv' := [(5, .int r19), (0, .ref a_this), (1, .int x1), (3, .int x3), (4, .int x4)]) hx hb dX11_reads_137 hl (by decide) rfl (fun ls hl => ?_)
    refine lv_aload_n hx hb dX11_reads_139 rfl (lv_at hl 1 rfl) ?_
    refine lv_bipush (v := (44 : Int32)) hx hb dX11_reads_140 (by decide) ?_
    obtain ⟨r20, o20_0, hc20, hf⟩ := wk_b2E hf
    refine wk_callVi2 C hP hD hS (c_X11_more l D cB cI cJ N a_this a_cards a_county a_holes a_text a_letter a_where a_rank a_value a_hour a_readLetter a_readWhere a_readRank a_readValue a_readHour a_listName a_listDay a_voterName a_voterDay a_voterCounty a_heaps a_speed a_four a_byRules a_hours a_rest a_yet a_put v_kept v_length v_items v_readItems o19_0 v_lists v_voters v_needed v_text (44 : Int32) hc20) (cwV 1 hts gX11_reads_X11_more rfl rfl rfl hd_X11_more ⟨Nat.le_of_ble_eq_true rfl, Nat.le_of_ble_eq_true rfl⟩) hl.1 ⟨Nat.zero_le _, Nat.zero_le _⟩ [0, 6] [1, 2, 3, 4, 5] 7 (by decide +kernel) rfl (Wn := w_X11_reads cB cI cJ a_this a_cards a_county a_holes a_text a_letter a_where a_rank a_value a_hour a_readLetter a_readWhere a_readRank a_readValue a_readHour a_listName a_listDay a_voterName a_voterDay a_voterCounty a_heaps a_speed a_four a_byRules a_hours a_rest a_yet a_put v_kept v_length v_items v_readItems o20_0 v_lists v_voters v_needed v_readHour v_readLetter v_readRank v_readValue v_readWhere v_text) rfl rfl rfl rfl rfl rfl (ci := 11) rfl rfl (q0 := 0) rfl rfl rfl (Nat.le_of_ble_eq_true rfl) dX11_reads_142 (fun H locs hP hD hS => ?_)
    refine lv_istore (lv' := [(6, .int r20), (5, .int r19), (0, .ref a_this), (1, .int x1), (3, .int x3), (4, .int x4)]) hx hb dX11_reads_145 hl (by decide) rfl (fun ls hl => ?_)
    refine lv_iload_n hx hb dX11_reads_147 rfl (lv_at hl 4 rfl) ?_
    refine lv_i2l (v := (x3.toInt64)) hx hb dX11_reads_148 rfl ?_
    refine lv_lconst (v := (0 : Int64)) hx hb dX11_reads_149 (by decide) ?_
    refine lv_ldc2 (v := (5 : Int64)) hx hb hown (hts (.constantLong RX11 157 (5)) (List.mem_of_getElem? (i := 3) rfl)) dX11_reads_150 ?_
    obtain ⟨r21, hc21, hf⟩ := wk_b1E hf
    refine wk_callSi2 C hP hD hS (c_X11_in l D cB cI cJ N (x3.toInt64) (0 : Int64) (5 : Int64) hc21) (va_cwS 3 hts gX11_reads_X11_in rfl rfl rfl hd_X11_in.2 ⟨Nat.le_of_ble_eq_true rfl, Nat.le_of_ble_eq_true rfl⟩) hl.1 ⟨Nat.zero_le _, Nat.zero_le _⟩ [] [0, 1, 2, 3, 4, 5, 6] 7 (by decide +kernel) rfl (Wn := w_X11_reads cB cI cJ a_this a_cards a_county a_holes a_text a_letter a_where a_rank a_value a_hour a_readLetter a_readWhere a_readRank a_readValue a_readHour a_listName a_listDay a_voterName a_voterDay a_voterCounty a_heaps a_speed a_four a_byRules a_hours a_rest a_yet a_put v_kept v_length v_items v_readItems o20_0 v_lists v_voters v_needed v_readHour v_readLetter v_readRank v_readValue v_readWhere v_text) rfl rfl rfl rfl rfl rfl rfl rfl (Nat.le_of_ble_eq_true rfl) dX11_reads_153 (fun H locs hP hD hS => ?_)
    refine lv_if_eq (tgt := 206) hx hb dX11_reads_156 (by decide) (fun c22 => ?_) (fun c22 => ?_)
    · have hf := wk_itT hf c22
      refine lv_iconst (v := (0 : Int32)) hx hb dX11_reads_206 (by decide) ?_
      exact J207 _ _ _ _ _ _ _ _ _ _ _ _ _ hf _ _ _ hP hD hS (lv_sub hl [2, 3, 4, 5, 1, 0] rfl)
    · have hf := wk_itF hf c22
      refine lv_iload hx hb dX11_reads_159 (lv_at hl 5 rfl) ?_
      refine lv_i2l (v := (x4.toInt64)) hx hb dX11_reads_161 rfl ?_
      refine lv_lconst (v := (0 : Int64)) hx hb dX11_reads_162 (by decide) ?_
      refine lv_ldc2 (v := (3 : Int64)) hx hb hown (hts (.constantLong RX11 117 (3)) (List.mem_of_getElem? (i := 4) rfl)) dX11_reads_163 ?_
      obtain ⟨r23, hc23, hf⟩ := wk_b1E hf
      refine wk_callSi2 C hP hD hS (c_X11_in l D cB cI cJ N (x4.toInt64) (0 : Int64) (3 : Int64) hc23) (va_cwS 3 hts gX11_reads_X11_in rfl rfl rfl hd_X11_in.2 ⟨Nat.le_of_ble_eq_true rfl, Nat.le_of_ble_eq_true rfl⟩) hl.1 ⟨Nat.zero_le _, Nat.zero_le _⟩ [] [0, 1, 2, 3, 4, 5, 6] 7 (by decide +kernel) rfl (Wn := w_X11_reads cB cI cJ a_this a_cards a_county a_holes a_text a_letter a_where a_rank a_value a_hour a_readLetter a_readWhere a_readRank a_readValue a_readHour a_listName a_listDay a_voterName a_voterDay a_voterCounty a_heaps a_speed a_four a_byRules a_hours a_rest a_yet a_put v_kept v_length v_items v_readItems o20_0 v_lists v_voters v_needed v_readHour v_readLetter v_readRank v_readValue v_readWhere v_text) rfl rfl rfl rfl rfl rfl rfl rfl (Nat.le_of_ble_eq_true rfl) dX11_reads_166 (fun H locs hP hD hS => ?_)
      refine lv_if_eq (tgt := 206) hx hb dX11_reads_169 (by decide) (fun c24 => ?_) (fun c24 => ?_)
      · have hf := wk_itT hf c24
        refine lv_iconst (v := (0 : Int32)) hx hb dX11_reads_206 (by decide) ?_
        exact J207 _ _ _ _ _ _ _ _ _ _ _ _ _ hf _ _ _ hP hD hS (lv_sub hl [2, 3, 4, 5, 1, 0] rfl)
      · have hf := wk_itF hf c24
        refine lv_iload hx hb dX11_reads_172 (lv_at hl 0 rfl) ?_
        refine lv_if_lt (tgt := 206) hx hb dX11_reads_174 (by decide) (fun c25 => ?_) (fun c25 => ?_)
        · have hf := wk_itT hf c25
          refine lv_iconst (v := (0 : Int32)) hx hb dX11_reads_206 (by decide) ?_
          exact J207 _ _ _ _ _ _ _ _ _ _ _ _ _ hf _ _ _ hP hD hS (lv_sub hl [2, 3, 4, 5, 1, 0] rfl)
        · have hf := wk_itF hf c25
          refine lv_aload_n hx hb dX11_reads_177 rfl (lv_at hl 2 rfl) ?_
          refine va_get (D := D) (ci := 11) (v := .int o20_0) (C := RX11) (T := TX11) (N := 35) hx hb hts in_X11_reads_X11 hown hK hP 0 rfl rfl 18 (by decide) (hts (.fieldLink RX11 142 "HangingCardsModel" "at" "I") (List.mem_of_getElem? (i := 2) rfl)) (fun _ h9 => h9) rfl dX11_reads_178 ?_
          refine lv_aload_n hx hb dX11_reads_181 rfl (lv_at hl 2 rfl) ?_
          refine va_get (D := D) (ci := 11) (v := .int v_length) (C := RX11) (T := TX11) (N := 35) hx hb hts in_X11_reads_X11 hown hK hP 0 rfl rfl 4 (by decide) (hts (.fieldLink RX11 139 "HangingCardsModel" "length" "I") (List.mem_of_getElem? (i := 5) rfl)) (fun _ h9 => h9) rfl dX11_reads_182 ?_
          refine lv_icmp_ge (tgt := 206) hx hb dX11_reads_185 (by decide) (fun c26 => ?_) (fun c26 => ?_)
          · have hf := wk_itT hf c26
            refine lv_iconst (v := (0 : Int32)) hx hb dX11_reads_206 (by decide) ?_
            exact J207 _ _ _ _ _ _ _ _ _ _ _ _ _ hf _ _ _ hP hD hS (lv_sub hl [2, 3, 4, 5, 1, 0] rfl)
          · have hf := wk_itF hf c26
            refine lv_aload_n hx hb dX11_reads_188 rfl (lv_at hl 2 rfl) ?_
            refine va_get (D := D) (ci := 11) (v := .ref a_text) (C := RX11) (T := TX11) (N := 35) hx hb hts in_X11_reads_X11 hown hK hP 0 rfl rfl 5 (by decide) (hts (.fieldLink RX11 19 "HangingCardsModel" "text" "[B") (List.mem_of_getElem? (i := 1) rfl)) (fun _ h9 => h9) rfl dX11_reads_189 ?_
            refine lv_aload_n hx hb dX11_reads_192 rfl (lv_at hl 2 rfl) ?_
            refine va_get (D := D) (ci := 11) (v := .int o20_0) (C := RX11) (T := TX11) (N := 35) hx hb hts in_X11_reads_X11 hown hK hP 0 rfl rfl 18 (by decide) (hts (.fieldLink RX11 142 "HangingCardsModel" "at" "I") (List.mem_of_getElem? (i := 2) rfl)) (fun _ h9 => h9) rfl dX11_reads_193 ?_
            obtain ⟨hi27, hf⟩ := wk_ckE hf
            refine va_bald hx hb hK hP 6 1 rfl rfl hi27 dX11_reads_196 ?_
            refine lv_bipush (v := (59 : Int32)) hx hb dX11_reads_197 (by decide) ?_
            refine lv_icmp_ne (tgt := 206) hx hb dX11_reads_199 (by decide) (fun c28 => ?_) (fun c28 => ?_)
            · have hf := wk_itF hf c28
              refine lv_iconst (v := (0 : Int32)) hx hb dX11_reads_206 (by decide) ?_
              exact J207 _ _ _ _ _ _ _ _ _ _ _ _ _ hf _ _ _ hP hD hS (lv_sub hl [2, 3, 4, 5, 1, 0] rfl)
            · have hf := wk_itT hf c28
              refine lv_iconst (v := (1 : Int32)) hx hb dX11_reads_202 (by decide) ?_
              refine lv_goto (tgt := 207) hx hb dX11_reads_203 (by decide) ?_
              exact J207 _ _ _ _ _ _ _ _ _ _ _ _ _ hf _ _ _ hP hD hS (lv_sub hl [2, 3, 4, 5, 1, 0] rfl)
  have J120 : ∀ (v_readItems : Int32) (v_at : Int32) (v_readHour : Nat → Int32) (v_readLetter : Nat → Int32) (v_readRank : Nat → Int32) (v_readValue : Nat → Int32) (v_readWhere : Nat → Int32) (x1 : Int32) (x2 : Int32) (x3 : Int32) (s0 : Int32), B_X11_reads_120 N v_length v_text v_readItems v_at v_readHour v_readLetter v_readRank v_readValue v_readWhere x1 x2 x3 s0 = some (r, o_readItems, o_at, o_readHour, o_readLetter, o_readRank, o_readValue, o_readWhere) → ∀ (H : Heap) (locs : List Loc) (ls : Array Slot), va_P D vwCl (w_X11_reads cB cI cJ a_this a_cards a_county a_holes a_text a_letter a_where a_rank a_value a_hour a_readLetter a_readWhere a_readRank a_readValue a_readHour a_listName a_listDay a_voterName a_voterDay a_voterCounty a_heaps a_speed a_four a_byRules a_hours a_rest a_yet a_put v_kept v_length v_items v_readItems v_at v_lists v_voters v_needed v_readHour v_readLetter v_readRank v_readValue v_readWhere v_text) H → va_D A (w_X11_reads cB cI cJ a_this a_cards a_county a_holes a_text a_letter a_where a_rank a_value a_hour a_readLetter a_readWhere a_readRank a_readValue a_readHour a_listName a_listDay a_voterName a_voterDay a_voterCounty a_heaps a_speed a_four a_byRules a_hours a_rest a_yet a_put v_kept v_length v_items v_readItems v_at v_lists v_voters v_needed v_readHour v_readLetter v_readRank v_readValue v_readWhere v_text) → va_S A s.heap H locs → lv_has ls 8 [(0, .ref a_this), (1, .int x1), (2, .int x2), (3, .int x3)] → W p l e rm_X11_reads s m args below meth c H locs 0 0 Q (F0 m 120 ls [.int s0]) := by
    intro v_readItems v_at v_readHour v_readLetter v_readRank v_readValue v_readWhere x1 x2 x3 s0 hf H locs ls hP hD hS hl
    unfold B_X11_reads_120 at hf
    refine lv_istore (lv' := [(4, .int s0), (0, .ref a_this), (1, .int x1), (2, .int x2), (3, .int x3)]) hx hb dX11_reads_120 hl (by decide) rfl (fun ls hl => ?_)
    refine lv_aload_n hx hb dX11_reads_122 rfl (lv_at hl 1 rfl) ?_
    refine lv_iload_n hx hb dX11_reads_123 rfl (lv_at hl 2 rfl) ?_
    refine lv_iconst (v := (2 : Int32)) hx hb dX11_reads_124 (by decide) ?_
    refine lv_icmp_ne (tgt := 132) hx hb dX11_reads_125 (by decide) (fun c29 => ?_) (fun c29 => ?_)
    · have hf := wk_itF hf c29
      refine lv_bipush (v := (44 : Int32)) hx hb dX11_reads_132 (by decide) ?_
      exact J134 _ _ _ _ _ _ _ _ _ _ _ hf _ _ _ hP hD hS (lv_sub hl [1, 2, 4, 0] rfl)
    · have hf := wk_itT hf c29
      refine lv_iload_n hx hb dX11_reads_128 rfl (lv_at hl 3 rfl) ?_
      refine lv_goto (tgt := 134) hx hb dX11_reads_129 (by decide) ?_
      exact J134 _ _ _ _ _ _ _ _ _ _ _ hf _ _ _ hP hD hS (lv_sub hl [1, 2, 4, 0] rfl)
  have J104 : ∀ (v_readItems : Int32) (v_at : Int32) (v_readHour : Nat → Int32) (v_readLetter : Nat → Int32) (v_readRank : Nat → Int32) (v_readValue : Nat → Int32) (v_readWhere : Nat → Int32) (x1 : Int32) (x2 : Int32) (s0 : Int32), B_X11_reads_104 N v_length v_text v_readItems v_at v_readHour v_readLetter v_readRank v_readValue v_readWhere x1 x2 s0 = some (r, o_readItems, o_at, o_readHour, o_readLetter, o_readRank, o_readValue, o_readWhere) → ∀ (H : Heap) (locs : List Loc) (ls : Array Slot), va_P D vwCl (w_X11_reads cB cI cJ a_this a_cards a_county a_holes a_text a_letter a_where a_rank a_value a_hour a_readLetter a_readWhere a_readRank a_readValue a_readHour a_listName a_listDay a_voterName a_voterDay a_voterCounty a_heaps a_speed a_four a_byRules a_hours a_rest a_yet a_put v_kept v_length v_items v_readItems v_at v_lists v_voters v_needed v_readHour v_readLetter v_readRank v_readValue v_readWhere v_text) H → va_D A (w_X11_reads cB cI cJ a_this a_cards a_county a_holes a_text a_letter a_where a_rank a_value a_hour a_readLetter a_readWhere a_readRank a_readValue a_readHour a_listName a_listDay a_voterName a_voterDay a_voterCounty a_heaps a_speed a_four a_byRules a_hours a_rest a_yet a_put v_kept v_length v_items v_readItems v_at v_lists v_voters v_needed v_readHour v_readLetter v_readRank v_readValue v_readWhere v_text) → va_S A s.heap H locs → lv_has ls 8 [(0, .ref a_this), (1, .int x1), (2, .int x2)] → W p l e rm_X11_reads s m args below meth c H locs 0 0 Q (F0 m 104 ls [.int s0]) := by
    intro v_readItems v_at v_readHour v_readLetter v_readRank v_readValue v_readWhere x1 x2 s0 hf H locs ls hP hD hS hl
    unfold B_X11_reads_104 at hf
    refine lv_istore_n (lv' := [(3, .int s0), (0, .ref a_this), (1, .int x1), (2, .int x2)]) hx hb dX11_reads_104 rfl hl (by decide) rfl (fun ls hl => ?_)
    refine lv_iload_n hx hb dX11_reads_105 rfl (lv_at hl 2 rfl) ?_
    refine lv_iconst (v := (3 : Int32)) hx hb dX11_reads_106 (by decide) ?_
    refine lv_icmp_ne (tgt := 119) hx hb dX11_reads_107 (by decide) (fun c30 => ?_) (fun c30 => ?_)
    · have hf := wk_itF hf c30
      refine lv_iconst (v := (0 : Int32)) hx hb dX11_reads_119 (by decide) ?_
      exact J120 _ _ _ _ _ _ _ _ _ _ _ hf _ _ _ hP hD hS (lv_sub hl [1, 2, 3, 0] rfl)
    · have hf := wk_itT hf c30
      refine lv_aload_n hx hb dX11_reads_110 rfl (lv_at hl 1 rfl) ?_
      refine lv_bipush (v := (44 : Int32)) hx hb dX11_reads_111 (by decide) ?_
      obtain ⟨r31, o31_0, hc31, hf⟩ := wk_b2E hf
      refine wk_callVi2 C hP hD hS (c_X11_more l D cB cI cJ N a_this a_cards a_county a_holes a_text a_letter a_where a_rank a_value a_hour a_readLetter a_readWhere a_readRank a_readValue a_readHour a_listName a_listDay a_voterName a_voterDay a_voterCounty a_heaps a_speed a_four a_byRules a_hours a_rest a_yet a_put v_kept v_length v_items v_readItems v_at v_lists v_voters v_needed v_text (44 : Int32) hc31) (cwV 1 hts gX11_reads_X11_more rfl rfl rfl hd_X11_more ⟨Nat.le_of_ble_eq_true rfl, Nat.le_of_ble_eq_true rfl⟩) hl.1 ⟨Nat.zero_le _, Nat.zero_le _⟩ [0, 6] [1, 2, 3, 4, 5] 7 (by decide +kernel) rfl (Wn := w_X11_reads cB cI cJ a_this a_cards a_county a_holes a_text a_letter a_where a_rank a_value a_hour a_readLetter a_readWhere a_readRank a_readValue a_readHour a_listName a_listDay a_voterName a_voterDay a_voterCounty a_heaps a_speed a_four a_byRules a_hours a_rest a_yet a_put v_kept v_length v_items v_readItems o31_0 v_lists v_voters v_needed v_readHour v_readLetter v_readRank v_readValue v_readWhere v_text) rfl rfl rfl rfl rfl rfl (ci := 11) rfl rfl (q0 := 0) rfl rfl rfl (Nat.le_of_ble_eq_true rfl) dX11_reads_113 (fun H locs hP hD hS => ?_)
      refine lv_goto (tgt := 120) hx hb dX11_reads_116 (by decide) ?_
      exact J120 _ _ _ _ _ _ _ _ _ _ _ hf _ _ _ hP hD hS (lv_sub hl [1, 2, 3, 0] rfl)
  have J73 : ∀ (v_readItems : Int32) (v_at : Int32) (v_readHour : Nat → Int32) (v_readLetter : Nat → Int32) (v_readRank : Nat → Int32) (v_readValue : Nat → Int32) (v_readWhere : Nat → Int32) (s0 : Int32), B_X11_reads_73 N v_length v_text v_readItems v_at v_readHour v_readLetter v_readRank v_readValue v_readWhere s0 = some (r, o_readItems, o_at, o_readHour, o_readLetter, o_readRank, o_readValue, o_readWhere) → ∀ (H : Heap) (locs : List Loc) (ls : Array Slot), va_P D vwCl (w_X11_reads cB cI cJ a_this a_cards a_county a_holes a_text a_letter a_where a_rank a_value a_hour a_readLetter a_readWhere a_readRank a_readValue a_readHour a_listName a_listDay a_voterName a_voterDay a_voterCounty a_heaps a_speed a_four a_byRules a_hours a_rest a_yet a_put v_kept v_length v_items v_readItems v_at v_lists v_voters v_needed v_readHour v_readLetter v_readRank v_readValue v_readWhere v_text) H → va_D A (w_X11_reads cB cI cJ a_this a_cards a_county a_holes a_text a_letter a_where a_rank a_value a_hour a_readLetter a_readWhere a_readRank a_readValue a_readHour a_listName a_listDay a_voterName a_voterDay a_voterCounty a_heaps a_speed a_four a_byRules a_hours a_rest a_yet a_put v_kept v_length v_items v_readItems v_at v_lists v_voters v_needed v_readHour v_readLetter v_readRank v_readValue v_readWhere v_text) → va_S A s.heap H locs → lv_has ls 8 [(0, .ref a_this)] → W p l e rm_X11_reads s m args below meth c H locs 0 0 Q (F0 m 73 ls [.int s0]) := by
    intro v_readItems v_at v_readHour v_readLetter v_readRank v_readValue v_readWhere s0 hf H locs ls hP hD hS hl
    unfold B_X11_reads_73 at hf
    refine lv_istore_n (lv' := [(1, .int s0), (0, .ref a_this)]) hx hb dX11_reads_73 rfl hl (by decide) rfl (fun ls hl => ?_)
    refine lv_iload_n hx hb dX11_reads_74 rfl (lv_at hl 0 rfl) ?_
    refine lv_if_ge (tgt := 80) hx hb dX11_reads_75 (by decide) (fun c32 => ?_) (fun c32 => ?_)
    · have hf := wk_itT hf c32
      refine lv_aload_n hx hb dX11_reads_80 rfl (lv_at hl 1 rfl) ?_
      refine va_get (D := D) (ci := 11) (v := .ref a_text) (C := RX11) (T := TX11) (N := 35) hx hb hts in_X11_reads_X11 hown hK hP 0 rfl rfl 5 (by decide) (hts (.fieldLink RX11 19 "HangingCardsModel" "text" "[B") (List.mem_of_getElem? (i := 1) rfl)) (fun _ h9 => h9) rfl dX11_reads_81 ?_
      refine lv_aload_n hx hb dX11_reads_84 rfl (lv_at hl 1 rfl) ?_
      refine va_get (D := D) (ci := 11) (v := .int v_at) (C := RX11) (T := TX11) (N := 35) hx hb hts in_X11_reads_X11 hown hK hP 0 rfl rfl 18 (by decide) (hts (.fieldLink RX11 142 "HangingCardsModel" "at" "I") (List.mem_of_getElem? (i := 2) rfl)) (fun _ h9 => h9) rfl dX11_reads_85 ?_
      obtain ⟨hi33, hf⟩ := wk_ckE hf
      refine va_bald hx hb hK hP 6 1 rfl rfl hi33 dX11_reads_88 ?_
      refine lv_topi (fun y34 ey34 => ?_)
      have hf := wk_nmE hf ey34
      refine lv_istore_n (lv' := [(2, .int y34), (1, .int s0), (0, .ref a_this)]) hx hb dX11_reads_89 rfl hl (by decide) rfl (fun ls hl => ?_)
      refine lv_iload_n hx hb dX11_reads_90 rfl (lv_at hl 1 rfl) ?_
      refine lv_iconst (v := (2 : Int32)) hx hb dX11_reads_91 (by decide) ?_
      refine lv_icmp_ne (tgt := 99) hx hb dX11_reads_92 (by decide) (fun c35 => ?_) (fun c35 => ?_)
      · have hf := wk_itF hf c35
        refine lv_aload_n hx hb dX11_reads_99 rfl (lv_at hl 2 rfl) ?_
        refine lv_iload_n hx hb dX11_reads_100 rfl (lv_at hl 0 rfl) ?_
        obtain ⟨r36, o36_0, hc36, hf⟩ := wk_b2E hf
        refine wk_callVi2 C hP hD hS (c_X11_more l D cB cI cJ N a_this a_cards a_county a_holes a_text a_letter a_where a_rank a_value a_hour a_readLetter a_readWhere a_readRank a_readValue a_readHour a_listName a_listDay a_voterName a_voterDay a_voterCounty a_heaps a_speed a_four a_byRules a_hours a_rest a_yet a_put v_kept v_length v_items v_readItems v_at v_lists v_voters v_needed v_text y34 hc36) (cwV 1 hts gX11_reads_X11_more rfl rfl rfl hd_X11_more ⟨Nat.le_of_ble_eq_true rfl, Nat.le_of_ble_eq_true rfl⟩) hl.1 ⟨Nat.zero_le _, Nat.zero_le _⟩ [0, 6] [1, 2, 3, 4, 5] 7 (by decide +kernel) rfl (Wn := w_X11_reads cB cI cJ a_this a_cards a_county a_holes a_text a_letter a_where a_rank a_value a_hour a_readLetter a_readWhere a_readRank a_readValue a_readHour a_listName a_listDay a_voterName a_voterDay a_voterCounty a_heaps a_speed a_four a_byRules a_hours a_rest a_yet a_put v_kept v_length v_items v_readItems o36_0 v_lists v_voters v_needed v_readHour v_readLetter v_readRank v_readValue v_readWhere v_text) rfl rfl rfl rfl rfl rfl (ci := 11) rfl rfl (q0 := 0) rfl rfl rfl (Nat.le_of_ble_eq_true rfl) dX11_reads_101 (fun H locs hP hD hS => ?_)
        exact J104 _ _ _ _ _ _ _ _ _ _ hf _ _ _ hP hD hS (lv_sub hl [2, 1, 0] rfl)
      · have hf := wk_itT hf c35
        refine lv_iconst (v := (5 : Int32)) hx hb dX11_reads_95 (by decide) ?_
        refine lv_goto (tgt := 104) hx hb dX11_reads_96 (by decide) ?_
        exact J104 _ _ _ _ _ _ _ _ _ _ hf _ _ _ hP hD hS (lv_sub hl [2, 1, 0] rfl)
    · have hf := wk_itF hf c32
      refine lv_iconst (v := (0 : Int32)) hx hb dX11_reads_78 (by decide) ?_
      exact hret _ _ _ _ _ _ dX11_reads_79 (wk_rt hf (fun z => wk_bI (z.1))) (wk_rt hf (fun z => w_X11_reads cB cI cJ a_this a_cards a_county a_holes a_text a_letter a_where a_rank a_value a_hour a_readLetter a_readWhere a_readRank a_readValue a_readHour a_listName a_listDay a_voterName a_voterDay a_voterCounty a_heaps a_speed a_four a_byRules a_hours a_rest a_yet a_put v_kept v_length v_items (z.2.1) (z.2.2.1) v_lists v_voters v_needed (z.2.2.2.1) (z.2.2.2.2.1) (z.2.2.2.2.2.1) (z.2.2.2.2.2.2.1) (z.2.2.2.2.2.2.2) v_text)) hP hD hS
  unfold f_X11_reads at hf
  refine lv_aload_n hx hb dX11_reads_0 rfl (lv_at hl 0 rfl) ?_
  refine va_get (D := D) (ci := 11) (v := .ref a_text) (C := RX11) (T := TX11) (N := 35) hx hb hts in_X11_reads_X11 hown hK hP 0 rfl rfl 5 (by decide) (hts (.fieldLink RX11 19 "HangingCardsModel" "text" "[B") (List.mem_of_getElem? (i := 1) rfl)) (fun _ h9 => h9) rfl dX11_reads_1 ?_
  refine lv_aload_n hx hb dX11_reads_4 rfl (lv_at hl 0 rfl) ?_
  refine va_get (D := D) (ci := 11) (v := .int v_at) (C := RX11) (T := TX11) (N := 35) hx hb hts in_X11_reads_X11 hown hK hP 0 rfl rfl 18 (by decide) (hts (.fieldLink RX11 142 "HangingCardsModel" "at" "I") (List.mem_of_getElem? (i := 2) rfl)) (fun _ h9 => h9) rfl dX11_reads_5 ?_
  obtain ⟨hi37, hf⟩ := wk_ckE hf
  refine va_bald hx hb hK hP 6 1 rfl rfl hi37 dX11_reads_8 ?_
  refine lv_bipush (v := (118 : Int32)) hx hb dX11_reads_9 (by decide) ?_
  refine lv_icmp_ne (tgt := 18) hx hb dX11_reads_11 (by decide) (fun c38 => ?_) (fun c38 => ?_)
  · have hf := wk_itF hf c38
    refine lv_aload_n hx hb dX11_reads_18 rfl (lv_at hl 0 rfl) ?_
    refine va_get (D := D) (ci := 11) (v := .ref a_text) (C := RX11) (T := TX11) (N := 35) hx hb hts in_X11_reads_X11 hown hK hP 0 rfl rfl 5 (by decide) (hts (.fieldLink RX11 19 "HangingCardsModel" "text" "[B") (List.mem_of_getElem? (i := 1) rfl)) (fun _ h9 => h9) rfl dX11_reads_19 ?_
    refine lv_aload_n hx hb dX11_reads_22 rfl (lv_at hl 0 rfl) ?_
    refine va_get (D := D) (ci := 11) (v := .int v_at) (C := RX11) (T := TX11) (N := 35) hx hb hts in_X11_reads_X11 hown hK hP 0 rfl rfl 18 (by decide) (hts (.fieldLink RX11 142 "HangingCardsModel" "at" "I") (List.mem_of_getElem? (i := 2) rfl)) (fun _ h9 => h9) rfl dX11_reads_23 ?_
    obtain ⟨hi39, hf⟩ := wk_ckE hf
    refine va_bald hx hb hK hP 6 1 rfl rfl hi39 dX11_reads_26 ?_
    refine lv_bipush (v := (100 : Int32)) hx hb dX11_reads_27 (by decide) ?_
    refine lv_icmp_ne (tgt := 36) hx hb dX11_reads_29 (by decide) (fun c40 => ?_) (fun c40 => ?_)
    · have hf := wk_itF hf c40
      refine lv_aload_n hx hb dX11_reads_36 rfl (lv_at hl 0 rfl) ?_
      refine va_get (D := D) (ci := 11) (v := .ref a_text) (C := RX11) (T := TX11) (N := 35) hx hb hts in_X11_reads_X11 hown hK hP 0 rfl rfl 5 (by decide) (hts (.fieldLink RX11 19 "HangingCardsModel" "text" "[B") (List.mem_of_getElem? (i := 1) rfl)) (fun _ h9 => h9) rfl dX11_reads_37 ?_
      refine lv_aload_n hx hb dX11_reads_40 rfl (lv_at hl 0 rfl) ?_
      refine va_get (D := D) (ci := 11) (v := .int v_at) (C := RX11) (T := TX11) (N := 35) hx hb hts in_X11_reads_X11 hown hK hP 0 rfl rfl 18 (by decide) (hts (.fieldLink RX11 142 "HangingCardsModel" "at" "I") (List.mem_of_getElem? (i := 2) rfl)) (fun _ h9 => h9) rfl dX11_reads_41 ?_
      obtain ⟨hi41, hf⟩ := wk_ckE hf
      refine va_bald hx hb hK hP 6 1 rfl rfl hi41 dX11_reads_44 ?_
      refine lv_bipush (v := (109 : Int32)) hx hb dX11_reads_45 (by decide) ?_
      refine lv_icmp_ne (tgt := 54) hx hb dX11_reads_47 (by decide) (fun c42 => ?_) (fun c42 => ?_)
      · have hf := wk_itF hf c42
        refine lv_aload_n hx hb dX11_reads_54 rfl (lv_at hl 0 rfl) ?_
        refine va_get (D := D) (ci := 11) (v := .ref a_text) (C := RX11) (T := TX11) (N := 35) hx hb hts in_X11_reads_X11 hown hK hP 0 rfl rfl 5 (by decide) (hts (.fieldLink RX11 19 "HangingCardsModel" "text" "[B") (List.mem_of_getElem? (i := 1) rfl)) (fun _ h9 => h9) rfl dX11_reads_55 ?_
        refine lv_aload_n hx hb dX11_reads_58 rfl (lv_at hl 0 rfl) ?_
        refine va_get (D := D) (ci := 11) (v := .int v_at) (C := RX11) (T := TX11) (N := 35) hx hb hts in_X11_reads_X11 hown hK hP 0 rfl rfl 18 (by decide) (hts (.fieldLink RX11 142 "HangingCardsModel" "at" "I") (List.mem_of_getElem? (i := 2) rfl)) (fun _ h9 => h9) rfl dX11_reads_59 ?_
        obtain ⟨hi43, hf⟩ := wk_ckE hf
        refine va_bald hx hb hK hP 6 1 rfl rfl hi43 dX11_reads_62 ?_
        refine lv_bipush (v := (111 : Int32)) hx hb dX11_reads_63 (by decide) ?_
        refine lv_icmp_ne (tgt := 72) hx hb dX11_reads_65 (by decide) (fun c44 => ?_) (fun c44 => ?_)
        · have hf := wk_itF hf c44
          refine lv_iconst (v := (-1 : Int32)) hx hb dX11_reads_72 (by decide) ?_
          exact J73 _ _ _ _ _ _ _ _ hf _ _ _ hP hD hS (lv_sub hl [0] rfl)
        · have hf := wk_itT hf c44
          refine lv_iconst (v := (3 : Int32)) hx hb dX11_reads_68 (by decide) ?_
          refine lv_goto (tgt := 73) hx hb dX11_reads_69 (by decide) ?_
          exact J73 _ _ _ _ _ _ _ _ hf _ _ _ hP hD hS (lv_sub hl [0] rfl)
      · have hf := wk_itT hf c42
        refine lv_iconst (v := (2 : Int32)) hx hb dX11_reads_50 (by decide) ?_
        refine lv_goto (tgt := 73) hx hb dX11_reads_51 (by decide) ?_
        exact J73 _ _ _ _ _ _ _ _ hf _ _ _ hP hD hS (lv_sub hl [0] rfl)
    · have hf := wk_itT hf c40
      refine lv_iconst (v := (1 : Int32)) hx hb dX11_reads_32 (by decide) ?_
      refine lv_goto (tgt := 73) hx hb dX11_reads_33 (by decide) ?_
      exact J73 _ _ _ _ _ _ _ _ hf _ _ _ hP hD hS (lv_sub hl [0] rfl)
  · have hf := wk_itT hf c38
    refine lv_iconst (v := (0 : Int32)) hx hb dX11_reads_14 (by decide) ?_
    refine lv_goto (tgt := 73) hx hb dX11_reads_15 (by decide) ?_
    exact J73 _ _ _ _ _ _ _ _ hf _ _ _ hP hD hS (lv_sub hl [0] rfl)
abbrev w_X11_fault (cB cI cJ : ClassId) (a_this : Nat) (a_cards : Nat) (a_county : Nat) (a_holes : Nat) (a_text : Nat) (a_letter : Nat) (a_where : Nat) (a_rank : Nat) (a_value : Nat) (a_hour : Nat) (a_readLetter : Nat) (a_readWhere : Nat) (a_readRank : Nat) (a_readValue : Nat) (a_readHour : Nat) (a_listName : Nat) (a_listDay : Nat) (a_voterName : Nat) (a_voterDay : Nat) (a_voterCounty : Nat) (a_heaps : Nat) (a_speed : Nat) (a_four : Nat) (a_byRules : Nat) (a_hours : Nat) (a_rest : Nat) (a_yet : Nat) (a_put : Nat) (v_kept : Int32) (v_length : Int32) (v_items : Int32) (v_readItems : Int32) (v_at : Int32) (v_lists : Int32) (v_voters : Int32) (v_needed : Int32) (v_readHour : Nat → Int32) (v_readLetter : Nat → Int32) (v_readRank : Nat → Int32) (v_readValue : Nat → Int32) (v_readWhere : Nat → Int32) (v_text : Nat → Int32) : va_W := [(a_this, .inr (11, [.ref a_cards, .ref a_county, .ref a_holes, .int v_kept, .int v_length, .ref a_text, .int v_items, .ref a_letter, .ref a_where, .ref a_rank, .ref a_value, .ref a_hour, .int v_readItems, .ref a_readLetter, .ref a_readWhere, .ref a_readRank, .ref a_readValue, .ref a_readHour, .int v_at, .int v_lists, .ref a_listName, .ref a_listDay, .int v_voters, .ref a_voterName, .ref a_voterDay, .ref a_voterCounty, .int v_needed, .ref a_heaps, .ref a_speed, .ref a_four, .ref a_byRules, .ref a_hours, .ref a_rest, .ref a_yet, .ref a_put])), (a_readHour, .inl (cI, 40, .inl v_readHour)), (a_readLetter, .inl (cI, 40, .inl v_readLetter)), (a_readRank, .inl (cI, 40, .inl v_readRank)), (a_readValue, .inl (cI, 40, .inl v_readValue)), (a_readWhere, .inl (cI, 40, .inl v_readWhere)), (a_text, .inl (cB, 200, .inl v_text))]
theorem hd_X11_fault : yX11_fault.cls = RX11 ∧ yX11_fault.cls ≠ "java/lang/invoke/MethodHandle" ∧ yX11_fault.cls ≠ "java/lang/invoke/VarHandle" ∧ (parseMethodDescriptor yX11_fault.desc).map (fun d => d.parameters.length) = some 0 := by decide +kernel
abbrev rm_X11_fault : Room := { frames := 4, cells := 0, slots := 0, locals := 95 }
theorem in_X11_fault_X11 : ∀ w ∈ wsX110, w ∈ wsX11_fault := fun w h => List.mem_cons_of_mem _ (List.mem_append_right _ h)
set_option maxHeartbeats 4000000 in
set_option maxRecDepth 100000 in
theorem c_X11_fault (l : Launch) (D : va_G) (cB cI cJ : ClassId) (N : Nat) (a_this : Nat) (a_cards : Nat) (a_county : Nat) (a_holes : Nat) (a_text : Nat) (a_letter : Nat) (a_where : Nat) (a_rank : Nat) (a_value : Nat) (a_hour : Nat) (a_readLetter : Nat) (a_readWhere : Nat) (a_readRank : Nat) (a_readValue : Nat) (a_readHour : Nat) (a_listName : Nat) (a_listDay : Nat) (a_voterName : Nat) (a_voterDay : Nat) (a_voterCounty : Nat) (a_heaps : Nat) (a_speed : Nat) (a_four : Nat) (a_byRules : Nat) (a_hours : Nat) (a_rest : Nat) (a_yet : Nat) (a_put : Nat) (v_kept : Int32) (v_length : Int32) (v_items : Int32) (v_readItems : Int32) (v_at : Int32) (v_lists : Int32) (v_voters : Int32) (v_needed : Int32) (v_readHour : Nat → Int32) (v_readLetter : Nat → Int32) (v_readRank : Nat → Int32) (v_readValue : Nat → Int32) (v_readWhere : Nat → Int32) (v_text : Nat → Int32) {r : Int32} {o_readItems : Int32} {o_at : Int32} {o_readHour : Nat → Int32} {o_readLetter : Nat → Int32} {o_readRank : Nat → Int32} {o_readValue : Nat → Int32} {o_readWhere : Nat → Int32} (hf : f_X11_fault N v_length v_text v_readItems v_at v_readHour v_readLetter v_readRank v_readValue v_readWhere = some (r, o_readItems, o_at, o_readHour, o_readLetter, o_readRank, o_readValue, o_readWhere)) : MTi l yX11_fault wsX11_fault rm_X11_fault D (wk_T cB cI cJ) [.ref a_this] (w_X11_fault cB cI cJ a_this a_cards a_county a_holes a_text a_letter a_where a_rank a_value a_hour a_readLetter a_readWhere a_readRank a_readValue a_readHour a_listName a_listDay a_voterName a_voterDay a_voterCounty a_heaps a_speed a_four a_byRules a_hours a_rest a_yet a_put v_kept v_length v_items v_readItems v_at v_lists v_voters v_needed v_readHour v_readLetter v_readRank v_readValue v_readWhere v_text) (w_X11_fault cB cI cJ a_this a_cards a_county a_holes a_text a_letter a_where a_rank a_value a_hour a_readLetter a_readWhere a_readRank a_readValue a_readHour a_listName a_listDay a_voterName a_voterDay a_voterCounty a_heaps a_speed a_four a_byRules a_hours a_rest a_yet a_put v_kept v_length v_items o_readItems o_at v_lists v_voters v_needed o_readHour o_readLetter o_readRank o_readValue o_readWhere v_text) r := by
  refine MTi.of (cc := cX11_fault) (nL := 2) (rt := .int) (own := RX11) pn_X11 rfl rfl (Nat.le_of_ble_eq_true rfl) rfl ?_
  intro p e s m args below meth c A ls Q C hP hD hS hl hret
  obtain ⟨hx, hb, hml, hts, hown, hK, hN, hA, hlk⟩ := id C
  have hl : lv_has ls 2 [(0, .ref a_this)] := hl
  have L10 := wk_loopI (F := (fun k10 : Int32 → Int32 → (Nat → Int32) → (Nat → Int32) → (Nat → Int32) → (Nat → Int32) → (Nat → Int32) → Option (Int32 × Int32 × Int32 × (Nat → Int32) × (Nat → Int32) × (Nat → Int32) × (Nat → Int32) × (Nat → Int32)) => B_X11_fault_10 N v_length v_text k10)) (bot := fun _ _ _ _ _ _ _ => none) (fun k10 : Int32 → Int32 → (Nat → Int32) → (Nat → Int32) → (Nat → Int32) → (Nat → Int32) → (Nat → Int32) → Option (Int32 × Int32 × Int32 × (Nat → Int32) × (Nat → Int32) × (Nat → Int32) × (Nat → Int32) × (Nat → Int32)) => ∀ (v_readItems : Int32) (v_at : Int32) (v_readHour : Nat → Int32) (v_readLetter : Nat → Int32) (v_readRank : Nat → Int32) (v_readValue : Nat → Int32) (v_readWhere : Nat → Int32), k10 v_readItems v_at v_readHour v_readLetter v_readRank v_readValue v_readWhere = some (r, o_readItems, o_at, o_readHour, o_readLetter, o_readRank, o_readValue, o_readWhere) → ∀ (H : Heap) (locs : List Loc) (ls : Array Slot), va_P D vwCl (w_X11_fault cB cI cJ a_this a_cards a_county a_holes a_text a_letter a_where a_rank a_value a_hour a_readLetter a_readWhere a_readRank a_readValue a_readHour a_listName a_listDay a_voterName a_voterDay a_voterCounty a_heaps a_speed a_four a_byRules a_hours a_rest a_yet a_put v_kept v_length v_items v_readItems v_at v_lists v_voters v_needed v_readHour v_readLetter v_readRank v_readValue v_readWhere v_text) H → va_D A (w_X11_fault cB cI cJ a_this a_cards a_county a_holes a_text a_letter a_where a_rank a_value a_hour a_readLetter a_readWhere a_readRank a_readValue a_readHour a_listName a_listDay a_voterName a_voterDay a_voterCounty a_heaps a_speed a_four a_byRules a_hours a_rest a_yet a_put v_kept v_length v_items v_readItems v_at v_lists v_voters v_needed v_readHour v_readLetter v_readRank v_readValue v_readWhere v_text) → va_S A s.heap H locs → lv_has ls 2 [(0, .ref a_this)] → W p l e rm_X11_fault s m args below meth c H locs 0 0 Q (F0 m 10 ls [])) (by intro v_readItems v_at v_readHour v_readLetter v_readRank v_readValue v_readWhere hf; exact wk_no hf) (by
    intro k10 ih10
    intro v_readItems v_at v_readHour v_readLetter v_readRank v_readValue v_readWhere hf H locs ls hP hD hS hl
    have hf : B_X11_fault_10 N v_length v_text k10 v_readItems v_at v_readHour v_readLetter v_readRank v_readValue v_readWhere = some (r, o_readItems, o_at, o_readHour, o_readLetter, o_readRank, o_readValue, o_readWhere) := hf
    unfold B_X11_fault_10 at hf
    refine lv_aload_n hx hb dX11_fault_10 rfl (lv_at hl 0 rfl) ?_
    refine va_get (D := D) (ci := 11) (v := .int v_at) (C := RX11) (T := TX11) (N := 35) hx hb hts in_X11_fault_X11 hown hK hP 0 rfl rfl 18 (by decide) (hts (.fieldLink RX11 142 "HangingCardsModel" "at" "I") (List.mem_of_getElem? (i := 1) rfl)) (fun _ h9 => h9) rfl dX11_fault_11 ?_
    refine lv_aload_n hx hb dX11_fault_14 rfl (lv_at hl 0 rfl) ?_
    refine va_get (D := D) (ci := 11) (v := .int v_length) (C := RX11) (T := TX11) (N := 35) hx hb hts in_X11_fault_X11 hown hK hP 0 rfl rfl 4 (by decide) (hts (.fieldLink RX11 139 "HangingCardsModel" "length" "I") (List.mem_of_getElem? (i := 3) rfl)) (fun _ h9 => h9) rfl dX11_fault_15 ?_
    refine lv_icmp_ge (tgt := 38) hx hb dX11_fault_18 (by decide) (fun c1 => ?_) (fun c1 => ?_)
    · have hf := wk_itT hf c1
      refine lv_bipush (v := (-4 : Int32)) hx hb dX11_fault_38 (by decide) ?_
      exact hret _ _ _ _ _ _ dX11_fault_40 (wk_rt hf (fun z => z.1)) (wk_rt hf (fun z => w_X11_fault cB cI cJ a_this a_cards a_county a_holes a_text a_letter a_where a_rank a_value a_hour a_readLetter a_readWhere a_readRank a_readValue a_readHour a_listName a_listDay a_voterName a_voterDay a_voterCounty a_heaps a_speed a_four a_byRules a_hours a_rest a_yet a_put v_kept v_length v_items (z.2.1) (z.2.2.1) v_lists v_voters v_needed (z.2.2.2.1) (z.2.2.2.2.1) (z.2.2.2.2.2.1) (z.2.2.2.2.2.2.1) (z.2.2.2.2.2.2.2) v_text)) hP hD hS
    · have hf := wk_itF hf c1
      refine lv_aload_n hx hb dX11_fault_21 rfl (lv_at hl 0 rfl) ?_
      refine va_get (D := D) (ci := 11) (v := .int v_at) (C := RX11) (T := TX11) (N := 35) hx hb hts in_X11_fault_X11 hown hK hP 0 rfl rfl 18 (by decide) (hts (.fieldLink RX11 142 "HangingCardsModel" "at" "I") (List.mem_of_getElem? (i := 1) rfl)) (fun _ h9 => h9) rfl dX11_fault_22 ?_
      refine lv_istore_n (lv' := [(1, .int v_at), (0, .ref a_this)]) hx hb dX11_fault_25 rfl hl (by decide) rfl (fun ls hl => ?_)
      refine lv_aload_n hx hb dX11_fault_26 rfl (lv_at hl 1 rfl) ?_
      obtain ⟨r2, o2_0, o2_1, o2_2, o2_3, o2_4, o2_5, o2_6, hc2, hf⟩ := wk_b8E hf
      refine wk_callVi2 C hP hD hS (c_X11_reads l D cB cI cJ N a_this a_cards a_county a_holes a_text a_letter a_where a_rank a_value a_hour a_readLetter a_readWhere a_readRank a_readValue a_readHour a_listName a_listDay a_voterName a_voterDay a_voterCounty a_heaps a_speed a_four a_byRules a_hours a_rest a_yet a_put v_kept v_length v_items v_readItems v_at v_lists v_voters v_needed v_readHour v_readLetter v_readRank v_readValue v_readWhere v_text hc2) (cwV 0 hts gX11_fault_X11_reads rfl rfl rfl hd_X11_reads ⟨Nat.le_of_ble_eq_true rfl, Nat.le_of_ble_eq_true rfl⟩) hl.1 ⟨Nat.zero_le _, Nat.zero_le _⟩ [0, 1, 2, 3, 4, 5, 6] [] 7 (by decide +kernel) rfl (Wn := w_X11_fault cB cI cJ a_this a_cards a_county a_holes a_text a_letter a_where a_rank a_value a_hour a_readLetter a_readWhere a_readRank a_readValue a_readHour a_listName a_listDay a_voterName a_voterDay a_voterCounty a_heaps a_speed a_four a_byRules a_hours a_rest a_yet a_put v_kept v_length v_items o2_0 o2_1 v_lists v_voters v_needed o2_2 o2_3 o2_4 o2_5 o2_6 v_text) rfl rfl rfl rfl rfl rfl (ci := 11) rfl rfl (q0 := 0) rfl rfl rfl (Nat.le_of_ble_eq_true rfl) dX11_fault_27 (fun H locs hP hD hS => ?_)
      refine lv_if_ne (tgt := 35) hx hb dX11_fault_30 (by decide) (fun c3 => ?_) (fun c3 => ?_)
      · have hf := wk_itF hf c3
        refine lv_goto (tgt := 10) hx hb dX11_fault_35 (by decide) ?_
        exact ih10 _ _ _ _ _ _ _ hf _ _ _ hP hD hS (lv_sub hl [1] rfl)
      · have hf := wk_itT hf c3
        refine lv_iload_n hx hb dX11_fault_33 rfl (lv_at hl 0 rfl) ?_
        exact hret _ _ _ _ _ _ dX11_fault_34 (wk_rt hf (fun z => z.1)) (wk_rt hf (fun z => w_X11_fault cB cI cJ a_this a_cards a_county a_holes a_text a_letter a_where a_rank a_value a_hour a_readLetter a_readWhere a_readRank a_readValue a_readHour a_listName a_listDay a_voterName a_voterDay a_voterCounty a_heaps a_speed a_four a_byRules a_hours a_rest a_yet a_put v_kept v_length v_items (z.2.1) (z.2.2.1) v_lists v_voters v_needed (z.2.2.2.1) (z.2.2.2.2.1) (z.2.2.2.2.2.1) (z.2.2.2.2.2.2.1) (z.2.2.2.2.2.2.2) v_text)) hP hD hS)
  unfold f_X11_fault at hf
  refine lv_aload_n hx hb dX11_fault_0 rfl (lv_at hl 0 rfl) ?_
  refine lv_iconst (v := (0 : Int32)) hx hb dX11_fault_1 (by decide) ?_
  refine va_put (D := D) (ci := 11) (v := .int (0 : Int32)) (ty := .int) (C := RX11) (T := TX11) (N := 35) hx hb hts in_X11_fault_X11 tyX11 tyX11_ok nmX11 hown hK hP hD hS 0 rfl rfl 18 (by decide) (hts (.fieldLink RX11 142 "HangingCardsModel" "at" "I") (List.mem_of_getElem? (i := 1) rfl)) (fun _ h9 => h9) rfl (by decide +kernel) rfl rfl (Nat.le_of_ble_eq_true rfl) dX11_fault_2 (fun H locs hP hD hS => ?_)
  have hP : va_P D vwCl (w_X11_fault cB cI cJ a_this a_cards a_county a_holes a_text a_letter a_where a_rank a_value a_hour a_readLetter a_readWhere a_readRank a_readValue a_readHour a_listName a_listDay a_voterName a_voterDay a_voterCounty a_heaps a_speed a_four a_byRules a_hours a_rest a_yet a_put v_kept v_length v_items v_readItems (0 : Int32) v_lists v_voters v_needed v_readHour v_readLetter v_readRank v_readValue v_readWhere v_text) H := hP
  have hD : va_D A (w_X11_fault cB cI cJ a_this a_cards a_county a_holes a_text a_letter a_where a_rank a_value a_hour a_readLetter a_readWhere a_readRank a_readValue a_readHour a_listName a_listDay a_voterName a_voterDay a_voterCounty a_heaps a_speed a_four a_byRules a_hours a_rest a_yet a_put v_kept v_length v_items v_readItems (0 : Int32) v_lists v_voters v_needed v_readHour v_readLetter v_readRank v_readValue v_readWhere v_text) := hD
  refine lv_aload_n hx hb dX11_fault_5 rfl (lv_at hl 0 rfl) ?_
  refine lv_iconst (v := (0 : Int32)) hx hb dX11_fault_6 (by decide) ?_
  refine va_put (D := D) (ci := 11) (v := .int (0 : Int32)) (ty := .int) (C := RX11) (T := TX11) (N := 35) hx hb hts in_X11_fault_X11 tyX11 tyX11_ok nmX11 hown hK hP hD hS 0 rfl rfl 12 (by decide) (hts (.fieldLink RX11 161 "HangingCardsModel" "readItems" "I") (List.mem_of_getElem? (i := 2) rfl)) (fun _ h9 => h9) rfl (by decide +kernel) rfl rfl (Nat.le_of_ble_eq_true rfl) dX11_fault_7 (fun H locs hP hD hS => ?_)
  have hP : va_P D vwCl (w_X11_fault cB cI cJ a_this a_cards a_county a_holes a_text a_letter a_where a_rank a_value a_hour a_readLetter a_readWhere a_readRank a_readValue a_readHour a_listName a_listDay a_voterName a_voterDay a_voterCounty a_heaps a_speed a_four a_byRules a_hours a_rest a_yet a_put v_kept v_length v_items (0 : Int32) (0 : Int32) v_lists v_voters v_needed v_readHour v_readLetter v_readRank v_readValue v_readWhere v_text) H := hP
  have hD : va_D A (w_X11_fault cB cI cJ a_this a_cards a_county a_holes a_text a_letter a_where a_rank a_value a_hour a_readLetter a_readWhere a_readRank a_readValue a_readHour a_listName a_listDay a_voterName a_voterDay a_voterCounty a_heaps a_speed a_four a_byRules a_hours a_rest a_yet a_put v_kept v_length v_items (0 : Int32) (0 : Int32) v_lists v_voters v_needed v_readHour v_readLetter v_readRank v_readValue v_readWhere v_text) := hD
  exact L10 N _ _ _ _ _ _ _ hf _ _ _ hP hD hS (lv_sub hl [0] rfl)
abbrev w_X11_force (cB cI cJ : ClassId) (a_this : Nat) (a_cards : Nat) (a_county : Nat) (a_holes : Nat) (a_text : Nat) (a_letter : Nat) (a_where : Nat) (a_rank : Nat) (a_value : Nat) (a_hour : Nat) (a_readLetter : Nat) (a_readWhere : Nat) (a_readRank : Nat) (a_readValue : Nat) (a_readHour : Nat) (a_listName : Nat) (a_listDay : Nat) (a_voterName : Nat) (a_voterDay : Nat) (a_voterCounty : Nat) (a_heaps : Nat) (a_speed : Nat) (a_four : Nat) (a_byRules : Nat) (a_hours : Nat) (a_rest : Nat) (a_yet : Nat) (a_put : Nat) (v_kept : Int32) (v_length : Int32) (v_items : Int32) (v_readItems : Int32) (v_at : Int32) (v_lists : Int32) (v_voters : Int32) (v_needed : Int32) (v_hour : Nat → Int32) (v_letter : Nat → Int32) (v_rank : Nat → Int32) (v_readHour : Nat → Int32) (v_readLetter : Nat → Int32) (v_readRank : Nat → Int32) (v_readValue : Nat → Int32) (v_readWhere : Nat → Int32) (v_text : Nat → Int32) (v_value : Nat → Int32) (v_where : Nat → Int32) : va_W := [(a_this, .inr (11, [.ref a_cards, .ref a_county, .ref a_holes, .int v_kept, .int v_length, .ref a_text, .int v_items, .ref a_letter, .ref a_where, .ref a_rank, .ref a_value, .ref a_hour, .int v_readItems, .ref a_readLetter, .ref a_readWhere, .ref a_readRank, .ref a_readValue, .ref a_readHour, .int v_at, .int v_lists, .ref a_listName, .ref a_listDay, .int v_voters, .ref a_voterName, .ref a_voterDay, .ref a_voterCounty, .int v_needed, .ref a_heaps, .ref a_speed, .ref a_four, .ref a_byRules, .ref a_hours, .ref a_rest, .ref a_yet, .ref a_put])), (a_hour, .inl (cI, 40, .inl v_hour)), (a_letter, .inl (cI, 40, .inl v_letter)), (a_rank, .inl (cI, 40, .inl v_rank)), (a_readHour, .inl (cI, 40, .inl v_readHour)), (a_readLetter, .inl (cI, 40, .inl v_readLetter)), (a_readRank, .inl (cI, 40, .inl v_readRank)), (a_readValue, .inl (cI, 40, .inl v_readValue)), (a_readWhere, .inl (cI, 40, .inl v_readWhere)), (a_text, .inl (cB, 200, .inl v_text)), (a_value, .inl (cI, 40, .inl v_value)), (a_where, .inl (cI, 40, .inl v_where))]
theorem hd_X11_force : yX11_force.cls = RX11 ∧ yX11_force.cls ≠ "java/lang/invoke/MethodHandle" ∧ yX11_force.cls ≠ "java/lang/invoke/VarHandle" ∧ (parseMethodDescriptor yX11_force.desc).map (fun d => d.parameters.length) = some 0 := by decide +kernel
abbrev rm_X11_force : Room := { frames := 5, cells := 0, slots := 0, locals := 116 }
theorem in_X11_force_X11 : ∀ w ∈ wsX110, w ∈ wsX11_force := fun w h => List.mem_cons_of_mem _ (List.mem_append_right _ h)
set_option maxHeartbeats 4000000 in
set_option maxRecDepth 100000 in
theorem c_X11_force (l : Launch) (D : va_G) (cB cI cJ : ClassId) (N : Nat) (a_this : Nat) (a_cards : Nat) (a_county : Nat) (a_holes : Nat) (a_text : Nat) (a_letter : Nat) (a_where : Nat) (a_rank : Nat) (a_value : Nat) (a_hour : Nat) (a_readLetter : Nat) (a_readWhere : Nat) (a_readRank : Nat) (a_readValue : Nat) (a_readHour : Nat) (a_listName : Nat) (a_listDay : Nat) (a_voterName : Nat) (a_voterDay : Nat) (a_voterCounty : Nat) (a_heaps : Nat) (a_speed : Nat) (a_four : Nat) (a_byRules : Nat) (a_hours : Nat) (a_rest : Nat) (a_yet : Nat) (a_put : Nat) (v_kept : Int32) (v_length : Int32) (v_items : Int32) (v_readItems : Int32) (v_at : Int32) (v_lists : Int32) (v_voters : Int32) (v_needed : Int32) (v_hour : Nat → Int32) (v_letter : Nat → Int32) (v_rank : Nat → Int32) (v_readHour : Nat → Int32) (v_readLetter : Nat → Int32) (v_readRank : Nat → Int32) (v_readValue : Nat → Int32) (v_readWhere : Nat → Int32) (v_text : Nat → Int32) (v_value : Nat → Int32) (v_where : Nat → Int32) {r : Int32} {o_items : Int32} {o_readItems : Int32} {o_at : Int32} {o_hour : Nat → Int32} {o_letter : Nat → Int32} {o_rank : Nat → Int32} {o_readHour : Nat → Int32} {o_readLetter : Nat → Int32} {o_readRank : Nat → Int32} {o_readValue : Nat → Int32} {o_readWhere : Nat → Int32} {o_value : Nat → Int32} {o_where : Nat → Int32} (hf : f_X11_force N v_length v_text v_items v_readItems v_at v_hour v_letter v_rank v_readHour v_readLetter v_readRank v_readValue v_readWhere v_value v_where = some (r, o_items, o_readItems, o_at, o_hour, o_letter, o_rank, o_readHour, o_readLetter, o_readRank, o_readValue, o_readWhere, o_value, o_where)) : MTi l yX11_force wsX11_force rm_X11_force D (wk_T cB cI cJ) [.ref a_this] (w_X11_force cB cI cJ a_this a_cards a_county a_holes a_text a_letter a_where a_rank a_value a_hour a_readLetter a_readWhere a_readRank a_readValue a_readHour a_listName a_listDay a_voterName a_voterDay a_voterCounty a_heaps a_speed a_four a_byRules a_hours a_rest a_yet a_put v_kept v_length v_items v_readItems v_at v_lists v_voters v_needed v_hour v_letter v_rank v_readHour v_readLetter v_readRank v_readValue v_readWhere v_text v_value v_where) (w_X11_force cB cI cJ a_this a_cards a_county a_holes a_text a_letter a_where a_rank a_value a_hour a_readLetter a_readWhere a_readRank a_readValue a_readHour a_listName a_listDay a_voterName a_voterDay a_voterCounty a_heaps a_speed a_four a_byRules a_hours a_rest a_yet a_put v_kept v_length o_items o_readItems o_at v_lists v_voters v_needed o_hour o_letter o_rank o_readHour o_readLetter o_readRank o_readValue o_readWhere v_text o_value o_where) r := by
  refine MTi.of (cc := cX11_force) (nL := 2) (rt := .int) (own := RX11) pn_X11 rfl rfl (Nat.le_of_ble_eq_true rfl) rfl ?_
  intro p e s m args below meth c A ls Q C hP hD hS hl hret
  obtain ⟨hx, hb, hml, hts, hown, hK, hN, hA, hlk⟩ := id C
  have hl : lv_has ls 2 [(0, .ref a_this)] := hl
  have L22 := wk_loopI (F := (fun k22 : Int32 → Int32 → Int32 → (Nat → Int32) → (Nat → Int32) → (Nat → Int32) → (Nat → Int32) → (Nat → Int32) → (Nat → Int32) → (Nat → Int32) → (Nat → Int32) → (Nat → Int32) → (Nat → Int32) → Int32 → Option (Int32 × Int32 × Int32 × Int32 × (Nat → Int32) × (Nat → Int32) × (Nat → Int32) × (Nat → Int32) × (Nat → Int32) × (Nat → Int32) × (Nat → Int32) × (Nat → Int32) × (Nat → Int32) × (Nat → Int32)) => B_X11_force_22 N v_length v_text k22)) (bot := fun _ _ _ _ _ _ _ _ _ _ _ _ _ _ => none) (fun k22 : Int32 → Int32 → Int32 → (Nat → Int32) → (Nat → Int32) → (Nat → Int32) → (Nat → Int32) → (Nat → Int32) → (Nat → Int32) → (Nat → Int32) → (Nat → Int32) → (Nat → Int32) → (Nat → Int32) → Int32 → Option (Int32 × Int32 × Int32 × Int32 × (Nat → Int32) × (Nat → Int32) × (Nat → Int32) × (Nat → Int32) × (Nat → Int32) × (Nat → Int32) × (Nat → Int32) × (Nat → Int32) × (Nat → Int32) × (Nat → Int32)) => ∀ (v_items : Int32) (v_readItems : Int32) (v_at : Int32) (v_hour : Nat → Int32) (v_letter : Nat → Int32) (v_rank : Nat → Int32) (v_readHour : Nat → Int32) (v_readLetter : Nat → Int32) (v_readRank : Nat → Int32) (v_readValue : Nat → Int32) (v_readWhere : Nat → Int32) (v_value : Nat → Int32) (v_where : Nat → Int32) (x1 : Int32), k22 v_items v_readItems v_at v_hour v_letter v_rank v_readHour v_readLetter v_readRank v_readValue v_readWhere v_value v_where x1 = some (r, o_items, o_readItems, o_at, o_hour, o_letter, o_rank, o_readHour, o_readLetter, o_readRank, o_readValue, o_readWhere, o_value, o_where) → ∀ (H : Heap) (locs : List Loc) (ls : Array Slot), va_P D vwCl (w_X11_force cB cI cJ a_this a_cards a_county a_holes a_text a_letter a_where a_rank a_value a_hour a_readLetter a_readWhere a_readRank a_readValue a_readHour a_listName a_listDay a_voterName a_voterDay a_voterCounty a_heaps a_speed a_four a_byRules a_hours a_rest a_yet a_put v_kept v_length v_items v_readItems v_at v_lists v_voters v_needed v_hour v_letter v_rank v_readHour v_readLetter v_readRank v_readValue v_readWhere v_text v_value v_where) H → va_D A (w_X11_force cB cI cJ a_this a_cards a_county a_holes a_text a_letter a_where a_rank a_value a_hour a_readLetter a_readWhere a_readRank a_readValue a_readHour a_listName a_listDay a_voterName a_voterDay a_voterCounty a_heaps a_speed a_four a_byRules a_hours a_rest a_yet a_put v_kept v_length v_items v_readItems v_at v_lists v_voters v_needed v_hour v_letter v_rank v_readHour v_readLetter v_readRank v_readValue v_readWhere v_text v_value v_where) → va_S A s.heap H locs → lv_has ls 2 [(0, .ref a_this), (1, .int x1)] → W p l e rm_X11_force s m args below meth c H locs 0 0 Q (F0 m 22 ls [])) (by intro v_items v_readItems v_at v_hour v_letter v_rank v_readHour v_readLetter v_readRank v_readValue v_readWhere v_value v_where x1 hf; exact wk_no hf) (by
    intro k22 ih22
    intro v_items v_readItems v_at v_hour v_letter v_rank v_readHour v_readLetter v_readRank v_readValue v_readWhere v_value v_where x1 hf H locs ls hP hD hS hl
    have hf : B_X11_force_22 N v_length v_text k22 v_items v_readItems v_at v_hour v_letter v_rank v_readHour v_readLetter v_readRank v_readValue v_readWhere v_value v_where x1 = some (r, o_items, o_readItems, o_at, o_hour, o_letter, o_rank, o_readHour, o_readLetter, o_readRank, o_readValue, o_readWhere, o_value, o_where) := hf
    unfold B_X11_force_22 at hf
    refine lv_iload_n hx hb dX11_force_22 rfl (lv_at hl 1 rfl) ?_
    refine lv_aload_n hx hb dX11_force_23 rfl (lv_at hl 0 rfl) ?_
    refine va_get (D := D) (ci := 11) (v := .int v_items) (C := RX11) (T := TX11) (N := 35) hx hb hts in_X11_force_X11 hown hK hP 0 rfl rfl 6 (by decide) (hts (.fieldLink RX11 171 "HangingCardsModel" "items" "I") (List.mem_of_getElem? (i := 2) rfl)) (fun _ h9 => h9) rfl dX11_force_24 ?_
    refine lv_icmp_ge (tgt := 96) hx hb dX11_force_27 (by decide) (fun c1 => ?_) (fun c1 => ?_)
    · have hf := wk_itT hf c1
      refine lv_aload_n hx hb dX11_force_96 rfl (lv_at hl 0 rfl) ?_
      refine va_get (D := D) (ci := 11) (v := .int v_items) (C := RX11) (T := TX11) (N := 35) hx hb hts in_X11_force_X11 hown hK hP 0 rfl rfl 6 (by decide) (hts (.fieldLink RX11 171 "HangingCardsModel" "items" "I") (List.mem_of_getElem? (i := 2) rfl)) (fun _ h9 => h9) rfl dX11_force_97 ?_
      exact hret _ _ _ _ _ _ dX11_force_100 (wk_rt hf (fun z => z.1)) (wk_rt hf (fun z => w_X11_force cB cI cJ a_this a_cards a_county a_holes a_text a_letter a_where a_rank a_value a_hour a_readLetter a_readWhere a_readRank a_readValue a_readHour a_listName a_listDay a_voterName a_voterDay a_voterCounty a_heaps a_speed a_four a_byRules a_hours a_rest a_yet a_put v_kept v_length (z.2.1) (z.2.2.1) (z.2.2.2.1) v_lists v_voters v_needed (z.2.2.2.2.1) (z.2.2.2.2.2.1) (z.2.2.2.2.2.2.1) (z.2.2.2.2.2.2.2.1) (z.2.2.2.2.2.2.2.2.1) (z.2.2.2.2.2.2.2.2.2.1) (z.2.2.2.2.2.2.2.2.2.2.1) (z.2.2.2.2.2.2.2.2.2.2.2.1) v_text (z.2.2.2.2.2.2.2.2.2.2.2.2.1) (z.2.2.2.2.2.2.2.2.2.2.2.2.2))) hP hD hS
    · have hf := wk_itF hf c1
      refine lv_aload_n hx hb dX11_force_30 rfl (lv_at hl 0 rfl) ?_
      refine va_get (D := D) (ci := 11) (v := .ref a_letter) (C := RX11) (T := TX11) (N := 35) hx hb hts in_X11_force_X11 hown hK hP 0 rfl rfl 7 (by decide) (hts (.fieldLink RX11 23 "HangingCardsModel" "letter" "[I") (List.mem_of_getElem? (i := 3) rfl)) (fun _ h9 => h9) rfl dX11_force_31 ?_
      refine lv_iload_n hx hb dX11_force_34 rfl (lv_at hl 1 rfl) ?_
      refine lv_aload_n hx hb dX11_force_35 rfl (lv_at hl 0 rfl) ?_
      refine va_get (D := D) (ci := 11) (v := .ref a_readLetter) (C := RX11) (T := TX11) (N := 35) hx hb hts in_X11_force_X11 hown hK hP 0 rfl rfl 13 (by decide) (hts (.fieldLink RX11 38 "HangingCardsModel" "readLetter" "[I") (List.mem_of_getElem? (i := 4) rfl)) (fun _ h9 => h9) rfl dX11_force_36 ?_
      refine lv_iload_n hx hb dX11_force_39 rfl (lv_at hl 1 rfl) ?_
      obtain ⟨hi2, hf⟩ := wk_ckE hf
      refine va_iald hx hb hK hP 5 0 rfl rfl hi2 dX11_force_40 ?_
      obtain ⟨hi3, hf⟩ := wk_ckE hf
      refine va_iast hx hb hK hP hD hS 2 0 rfl rfl hi3 dX11_force_41 (fun H locs hP hD hS => ?_)
      have hP : va_P D vwCl (w_X11_force cB cI cJ a_this a_cards a_county a_holes a_text a_letter a_where a_rank a_value a_hour a_readLetter a_readWhere a_readRank a_readValue a_readHour a_listName a_listDay a_voterName a_voterDay a_voterCounty a_heaps a_speed a_four a_byRules a_hours a_rest a_yet a_put v_kept v_length v_items v_readItems v_at v_lists v_voters v_needed v_hour (upd v_letter x1.toNatClampNeg (v_readLetter x1.toNatClampNeg)) v_rank v_readHour v_readLetter v_readRank v_readValue v_readWhere v_text v_value v_where) H := hP
      have hD : va_D A (w_X11_force cB cI cJ a_this a_cards a_county a_holes a_text a_letter a_where a_rank a_value a_hour a_readLetter a_readWhere a_readRank a_readValue a_readHour a_listName a_listDay a_voterName a_voterDay a_voterCounty a_heaps a_speed a_four a_byRules a_hours a_rest a_yet a_put v_kept v_length v_items v_readItems v_at v_lists v_voters v_needed v_hour (upd v_letter x1.toNatClampNeg (v_readLetter x1.toNatClampNeg)) v_rank v_readHour v_readLetter v_readRank v_readValue v_readWhere v_text v_value v_where) := hD
      refine lv_aload_n hx hb dX11_force_42 rfl (lv_at hl 0 rfl) ?_
      refine va_get (D := D) (ci := 11) (v := .ref a_where) (C := RX11) (T := TX11) (N := 35) hx hb hts in_X11_force_X11 hown hK hP 0 rfl rfl 8 (by decide) (hts (.fieldLink RX11 26 "HangingCardsModel" "where" "[I") (List.mem_of_getElem? (i := 5) rfl)) (fun _ h9 => h9) rfl dX11_force_43 ?_
      refine lv_iload_n hx hb dX11_force_46 rfl (lv_at hl 1 rfl) ?_
      refine lv_aload_n hx hb dX11_force_47 rfl (lv_at hl 0 rfl) ?_
      refine va_get (D := D) (ci := 11) (v := .ref a_readWhere) (C := RX11) (T := TX11) (N := 35) hx hb hts in_X11_force_X11 hown hK hP 0 rfl rfl 14 (by decide) (hts (.fieldLink RX11 41 "HangingCardsModel" "readWhere" "[I") (List.mem_of_getElem? (i := 6) rfl)) (fun _ h9 => h9) rfl dX11_force_48 ?_
      refine lv_iload_n hx hb dX11_force_51 rfl (lv_at hl 1 rfl) ?_
      obtain ⟨hi4, hf⟩ := wk_ckE hf
      refine va_iald hx hb hK hP 8 0 rfl rfl hi4 dX11_force_52 ?_
      obtain ⟨hi5, hf⟩ := wk_ckE hf
      refine va_iast hx hb hK hP hD hS 11 0 rfl rfl hi5 dX11_force_53 (fun H locs hP hD hS => ?_)
      have hP : va_P D vwCl (w_X11_force cB cI cJ a_this a_cards a_county a_holes a_text a_letter a_where a_rank a_value a_hour a_readLetter a_readWhere a_readRank a_readValue a_readHour a_listName a_listDay a_voterName a_voterDay a_voterCounty a_heaps a_speed a_four a_byRules a_hours a_rest a_yet a_put v_kept v_length v_items v_readItems v_at v_lists v_voters v_needed v_hour (upd v_letter x1.toNatClampNeg (v_readLetter x1.toNatClampNeg)) v_rank v_readHour v_readLetter v_readRank v_readValue v_readWhere v_text v_value (upd v_where x1.toNatClampNeg (v_readWhere x1.toNatClampNeg))) H := hP
      have hD : va_D A (w_X11_force cB cI cJ a_this a_cards a_county a_holes a_text a_letter a_where a_rank a_value a_hour a_readLetter a_readWhere a_readRank a_readValue a_readHour a_listName a_listDay a_voterName a_voterDay a_voterCounty a_heaps a_speed a_four a_byRules a_hours a_rest a_yet a_put v_kept v_length v_items v_readItems v_at v_lists v_voters v_needed v_hour (upd v_letter x1.toNatClampNeg (v_readLetter x1.toNatClampNeg)) v_rank v_readHour v_readLetter v_readRank v_readValue v_readWhere v_text v_value (upd v_where x1.toNatClampNeg (v_readWhere x1.toNatClampNeg))) := hD
      refine lv_aload_n hx hb dX11_force_54 rfl (lv_at hl 0 rfl) ?_
      refine va_get (D := D) (ci := 11) (v := .ref a_rank) (C := RX11) (T := TX11) (N := 35) hx hb hts in_X11_force_X11 hown hK hP 0 rfl rfl 9 (by decide) (hts (.fieldLink RX11 29 "HangingCardsModel" "rank" "[I") (List.mem_of_getElem? (i := 7) rfl)) (fun _ h9 => h9) rfl dX11_force_55 ?_
      refine lv_iload_n hx hb dX11_force_58 rfl (lv_at hl 1 rfl) ?_
      refine lv_aload_n hx hb dX11_force_59 rfl (lv_at hl 0 rfl) ?_
      refine va_get (D := D) (ci := 11) (v := .ref a_readRank) (C := RX11) (T := TX11) (N := 35) hx hb hts in_X11_force_X11 hown hK hP 0 rfl rfl 15 (by decide) (hts (.fieldLink RX11 44 "HangingCardsModel" "readRank" "[I") (List.mem_of_getElem? (i := 8) rfl)) (fun _ h9 => h9) rfl dX11_force_60 ?_
      refine lv_iload_n hx hb dX11_force_63 rfl (lv_at hl 1 rfl) ?_
      obtain ⟨hi6, hf⟩ := wk_ckE hf
      refine va_iald hx hb hK hP 6 0 rfl rfl hi6 dX11_force_64 ?_
      obtain ⟨hi7, hf⟩ := wk_ckE hf
      refine va_iast hx hb hK hP hD hS 3 0 rfl rfl hi7 dX11_force_65 (fun H locs hP hD hS => ?_)
      have hP : va_P D vwCl (w_X11_force cB cI cJ a_this a_cards a_county a_holes a_text a_letter a_where a_rank a_value a_hour a_readLetter a_readWhere a_readRank a_readValue a_readHour a_listName a_listDay a_voterName a_voterDay a_voterCounty a_heaps a_speed a_four a_byRules a_hours a_rest a_yet a_put v_kept v_length v_items v_readItems v_at v_lists v_voters v_needed v_hour (upd v_letter x1.toNatClampNeg (v_readLetter x1.toNatClampNeg)) (upd v_rank x1.toNatClampNeg (v_readRank x1.toNatClampNeg)) v_readHour v_readLetter v_readRank v_readValue v_readWhere v_text v_value (upd v_where x1.toNatClampNeg (v_readWhere x1.toNatClampNeg))) H := hP
      have hD : va_D A (w_X11_force cB cI cJ a_this a_cards a_county a_holes a_text a_letter a_where a_rank a_value a_hour a_readLetter a_readWhere a_readRank a_readValue a_readHour a_listName a_listDay a_voterName a_voterDay a_voterCounty a_heaps a_speed a_four a_byRules a_hours a_rest a_yet a_put v_kept v_length v_items v_readItems v_at v_lists v_voters v_needed v_hour (upd v_letter x1.toNatClampNeg (v_readLetter x1.toNatClampNeg)) (upd v_rank x1.toNatClampNeg (v_readRank x1.toNatClampNeg)) v_readHour v_readLetter v_readRank v_readValue v_readWhere v_text v_value (upd v_where x1.toNatClampNeg (v_readWhere x1.toNatClampNeg))) := hD
      refine lv_aload_n hx hb dX11_force_66 rfl (lv_at hl 0 rfl) ?_
      refine va_get (D := D) (ci := 11) (v := .ref a_value) (C := RX11) (T := TX11) (N := 35) hx hb hts in_X11_force_X11 hown hK hP 0 rfl rfl 10 (by decide) (hts (.fieldLink RX11 32 "HangingCardsModel" "value" "[I") (List.mem_of_getElem? (i := 9) rfl)) (fun _ h9 => h9) rfl dX11_force_67 ?_
      refine lv_iload_n hx hb dX11_force_70 rfl (lv_at hl 1 rfl) ?_
      refine lv_aload_n hx hb dX11_force_71 rfl (lv_at hl 0 rfl) ?_
      refine va_get (D := D) (ci := 11) (v := .ref a_readValue) (C := RX11) (T := TX11) (N := 35) hx hb hts in_X11_force_X11 hown hK hP 0 rfl rfl 16 (by decide) (hts (.fieldLink RX11 47 "HangingCardsModel" "readValue" "[I") (List.mem_of_getElem? (i := 10) rfl)) (fun _ h9 => h9) rfl dX11_force_72 ?_
      refine lv_iload_n hx hb dX11_force_75 rfl (lv_at hl 1 rfl) ?_
      obtain ⟨hi8, hf⟩ := wk_ckE hf
      refine va_iald hx hb hK hP 7 0 rfl rfl hi8 dX11_force_76 ?_
      obtain ⟨hi9, hf⟩ := wk_ckE hf
      refine va_iast hx hb hK hP hD hS 10 0 rfl rfl hi9 dX11_force_77 (fun H locs hP hD hS => ?_)
      have hP : va_P D vwCl (w_X11_force cB cI cJ a_this a_cards a_county a_holes a_text a_letter a_where a_rank a_value a_hour a_readLetter a_readWhere a_readRank a_readValue a_readHour a_listName a_listDay a_voterName a_voterDay a_voterCounty a_heaps a_speed a_four a_byRules a_hours a_rest a_yet a_put v_kept v_length v_items v_readItems v_at v_lists v_voters v_needed v_hour (upd v_letter x1.toNatClampNeg (v_readLetter x1.toNatClampNeg)) (upd v_rank x1.toNatClampNeg (v_readRank x1.toNatClampNeg)) v_readHour v_readLetter v_readRank v_readValue v_readWhere v_text (upd v_value x1.toNatClampNeg (v_readValue x1.toNatClampNeg)) (upd v_where x1.toNatClampNeg (v_readWhere x1.toNatClampNeg))) H := hP
      have hD : va_D A (w_X11_force cB cI cJ a_this a_cards a_county a_holes a_text a_letter a_where a_rank a_value a_hour a_readLetter a_readWhere a_readRank a_readValue a_readHour a_listName a_listDay a_voterName a_voterDay a_voterCounty a_heaps a_speed a_four a_byRules a_hours a_rest a_yet a_put v_kept v_length v_items v_readItems v_at v_lists v_voters v_needed v_hour (upd v_letter x1.toNatClampNeg (v_readLetter x1.toNatClampNeg)) (upd v_rank x1.toNatClampNeg (v_readRank x1.toNatClampNeg)) v_readHour v_readLetter v_readRank v_readValue v_readWhere v_text (upd v_value x1.toNatClampNeg (v_readValue x1.toNatClampNeg)) (upd v_where x1.toNatClampNeg (v_readWhere x1.toNatClampNeg))) := hD
      refine lv_aload_n hx hb dX11_force_78 rfl (lv_at hl 0 rfl) ?_
      refine va_get (D := D) (ci := 11) (v := .ref a_hour) (C := RX11) (T := TX11) (N := 35) hx hb hts in_X11_force_X11 hown hK hP 0 rfl rfl 11 (by decide) (hts (.fieldLink RX11 35 "HangingCardsModel" "hour" "[I") (List.mem_of_getElem? (i := 11) rfl)) (fun _ h9 => h9) rfl dX11_force_79 ?_
      refine lv_iload_n hx hb dX11_force_82 rfl (lv_at hl 1 rfl) ?_
      refine lv_aload_n hx hb dX11_force_83 rfl (lv_at hl 0 rfl) ?_
      refine va_get (D := D) (ci := 11) (v := .ref a_readHour) (C := RX11) (T := TX11) (N := 35) hx hb hts in_X11_force_X11 hown hK hP 0 rfl rfl 17 (by decide) (hts (.fieldLink RX11 50 "HangingCardsModel" "readHour" "[I") (List.mem_of_getElem? (i := 12) rfl)) (fun _ h9 => h9) rfl dX11_force_84 ?_
      refine lv_iload_n hx hb dX11_force_87 rfl (lv_at hl 1 rfl) ?_
      obtain ⟨hi10, hf⟩ := wk_ckE hf
      refine va_iald hx hb hK hP 4 0 rfl rfl hi10 dX11_force_88 ?_
      obtain ⟨hi11, hf⟩ := wk_ckE hf
      refine va_iast hx hb hK hP hD hS 1 0 rfl rfl hi11 dX11_force_89 (fun H locs hP hD hS => ?_)
      have hP : va_P D vwCl (w_X11_force cB cI cJ a_this a_cards a_county a_holes a_text a_letter a_where a_rank a_value a_hour a_readLetter a_readWhere a_readRank a_readValue a_readHour a_listName a_listDay a_voterName a_voterDay a_voterCounty a_heaps a_speed a_four a_byRules a_hours a_rest a_yet a_put v_kept v_length v_items v_readItems v_at v_lists v_voters v_needed (upd v_hour x1.toNatClampNeg (v_readHour x1.toNatClampNeg)) (upd v_letter x1.toNatClampNeg (v_readLetter x1.toNatClampNeg)) (upd v_rank x1.toNatClampNeg (v_readRank x1.toNatClampNeg)) v_readHour v_readLetter v_readRank v_readValue v_readWhere v_text (upd v_value x1.toNatClampNeg (v_readValue x1.toNatClampNeg)) (upd v_where x1.toNatClampNeg (v_readWhere x1.toNatClampNeg))) H := hP
      have hD : va_D A (w_X11_force cB cI cJ a_this a_cards a_county a_holes a_text a_letter a_where a_rank a_value a_hour a_readLetter a_readWhere a_readRank a_readValue a_readHour a_listName a_listDay a_voterName a_voterDay a_voterCounty a_heaps a_speed a_four a_byRules a_hours a_rest a_yet a_put v_kept v_length v_items v_readItems v_at v_lists v_voters v_needed (upd v_hour x1.toNatClampNeg (v_readHour x1.toNatClampNeg)) (upd v_letter x1.toNatClampNeg (v_readLetter x1.toNatClampNeg)) (upd v_rank x1.toNatClampNeg (v_readRank x1.toNatClampNeg)) v_readHour v_readLetter v_readRank v_readValue v_readWhere v_text (upd v_value x1.toNatClampNeg (v_readValue x1.toNatClampNeg)) (upd v_where x1.toNatClampNeg (v_readWhere x1.toNatClampNeg))) := hD
      obtain ⟨y12, ey12⟩ : ∃ y : Int32, y = x1 + (1 : Int32) := ⟨_, rfl⟩
      have hf := wk_nmE hf ey12
      refine lv_iinc (v := y12) (lv' := [(1, .int y12), (0, .ref a_this)]) hx hb dX11_force_90 hl (k := 1) rfl (by rw [ey12]; rfl) (by decide) rfl (fun ls hl => ?_)
      refine lv_goto (tgt := 22) hx hb dX11_force_93 (by decide) ?_
      exact ih22 _ _ _ _ _ _ _ _ _ _ _ _ _ _ hf _ _ _ hP hD hS (lv_sub hl [1, 0] rfl))
  unfold f_X11_force at hf
  refine lv_aload_n hx hb dX11_force_0 rfl (lv_at hl 0 rfl) ?_
  obtain ⟨r13, o13_0, o13_1, o13_2, o13_3, o13_4, o13_5, o13_6, hc13, hf⟩ := wk_b8E hf
  refine wk_callVi2 C hP hD hS (c_X11_fault l D cB cI cJ N a_this a_cards a_county a_holes a_text a_letter a_where a_rank a_value a_hour a_readLetter a_readWhere a_readRank a_readValue a_readHour a_listName a_listDay a_voterName a_voterDay a_voterCounty a_heaps a_speed a_four a_byRules a_hours a_rest a_yet a_put v_kept v_length v_items v_readItems v_at v_lists v_voters v_needed v_readHour v_readLetter v_readRank v_readValue v_readWhere v_text hc13) (cwV 0 hts gX11_force_X11_fault rfl rfl rfl hd_X11_fault ⟨Nat.le_of_ble_eq_true rfl, Nat.le_of_ble_eq_true rfl⟩) hl.1 ⟨Nat.zero_le _, Nat.zero_le _⟩ [0, 4, 5, 6, 7, 8, 9] [1, 2, 3, 10, 11] 12 (by decide +kernel) rfl (Wn := w_X11_force cB cI cJ a_this a_cards a_county a_holes a_text a_letter a_where a_rank a_value a_hour a_readLetter a_readWhere a_readRank a_readValue a_readHour a_listName a_listDay a_voterName a_voterDay a_voterCounty a_heaps a_speed a_four a_byRules a_hours a_rest a_yet a_put v_kept v_length v_items o13_0 o13_1 v_lists v_voters v_needed v_hour v_letter v_rank o13_2 o13_3 o13_4 o13_5 o13_6 v_text v_value v_where) rfl rfl rfl rfl rfl rfl (ci := 11) rfl rfl (q0 := 0) rfl rfl rfl (Nat.le_of_ble_eq_true rfl) dX11_force_1 (fun H locs hP hD hS => ?_)
  refine lv_bipush (v := (-4 : Int32)) hx hb dX11_force_4 (by decide) ?_
  refine lv_icmp_eq (tgt := 12) hx hb dX11_force_6 (by decide) (fun c14 => ?_) (fun c14 => ?_)
  · have hf := wk_itT hf c14
    refine lv_aload_n hx hb dX11_force_12 rfl (lv_at hl 0 rfl) ?_
    refine lv_aload_n hx hb dX11_force_13 rfl (lv_at hl 0 rfl) ?_
    refine va_get (D := D) (ci := 11) (v := .int o13_0) (C := RX11) (T := TX11) (N := 35) hx hb hts in_X11_force_X11 hown hK hP 0 rfl rfl 12 (by decide) (hts (.fieldLink RX11 161 "HangingCardsModel" "readItems" "I") (List.mem_of_getElem? (i := 1) rfl)) (fun _ h9 => h9) rfl dX11_force_14 ?_
    refine va_put (D := D) (ci := 11) (v := .int o13_0) (ty := .int) (C := RX11) (T := TX11) (N := 35) hx hb hts in_X11_force_X11 tyX11 tyX11_ok nmX11 hown hK hP hD hS 0 rfl rfl 6 (by decide) (hts (.fieldLink RX11 171 "HangingCardsModel" "items" "I") (List.mem_of_getElem? (i := 2) rfl)) (fun _ h9 => h9) rfl (by decide +kernel) rfl rfl (Nat.le_of_ble_eq_true rfl) dX11_force_17 (fun H locs hP hD hS => ?_)
    have hP : va_P D vwCl (w_X11_force cB cI cJ a_this a_cards a_county a_holes a_text a_letter a_where a_rank a_value a_hour a_readLetter a_readWhere a_readRank a_readValue a_readHour a_listName a_listDay a_voterName a_voterDay a_voterCounty a_heaps a_speed a_four a_byRules a_hours a_rest a_yet a_put v_kept v_length o13_0 o13_0 o13_1 v_lists v_voters v_needed v_hour v_letter v_rank o13_2 o13_3 o13_4 o13_5 o13_6 v_text v_value v_where) H := hP
    have hD : va_D A (w_X11_force cB cI cJ a_this a_cards a_county a_holes a_text a_letter a_where a_rank a_value a_hour a_readLetter a_readWhere a_readRank a_readValue a_readHour a_listName a_listDay a_voterName a_voterDay a_voterCounty a_heaps a_speed a_four a_byRules a_hours a_rest a_yet a_put v_kept v_length o13_0 o13_0 o13_1 v_lists v_voters v_needed v_hour v_letter v_rank o13_2 o13_3 o13_4 o13_5 o13_6 v_text v_value v_where) := hD
    refine lv_iconst (v := (0 : Int32)) hx hb dX11_force_20 (by decide) ?_
    refine lv_istore_n (lv' := [(1, .int (0 : Int32)), (0, .ref a_this)]) hx hb dX11_force_21 rfl hl (by decide) rfl (fun ls hl => ?_)
    exact L22 N _ _ _ _ _ _ _ _ _ _ _ _ _ _ hf _ _ _ hP hD hS (lv_sub hl [1, 0] rfl)
  · have hf := wk_itF hf c14
    refine lv_bipush (v := (-2 : Int32)) hx hb dX11_force_9 (by decide) ?_
    exact hret _ _ _ _ _ _ dX11_force_11 (wk_rt hf (fun z => z.1)) (wk_rt hf (fun z => w_X11_force cB cI cJ a_this a_cards a_county a_holes a_text a_letter a_where a_rank a_value a_hour a_readLetter a_readWhere a_readRank a_readValue a_readHour a_listName a_listDay a_voterName a_voterDay a_voterCounty a_heaps a_speed a_four a_byRules a_hours a_rest a_yet a_put v_kept v_length (z.2.1) (z.2.2.1) (z.2.2.2.1) v_lists v_voters v_needed (z.2.2.2.2.1) (z.2.2.2.2.2.1) (z.2.2.2.2.2.2.1) (z.2.2.2.2.2.2.2.1) (z.2.2.2.2.2.2.2.2.1) (z.2.2.2.2.2.2.2.2.2.1) (z.2.2.2.2.2.2.2.2.2.2.1) (z.2.2.2.2.2.2.2.2.2.2.2.1) v_text (z.2.2.2.2.2.2.2.2.2.2.2.2.1) (z.2.2.2.2.2.2.2.2.2.2.2.2.2))) hP hD hS
abbrev w_X11_rule (cB cI cJ : ClassId) (a_this : Nat) (a_cards : Nat) (a_county : Nat) (a_holes : Nat) (a_text : Nat) (a_letter : Nat) (a_where : Nat) (a_rank : Nat) (a_value : Nat) (a_hour : Nat) (a_readLetter : Nat) (a_readWhere : Nat) (a_readRank : Nat) (a_readValue : Nat) (a_readHour : Nat) (a_listName : Nat) (a_listDay : Nat) (a_voterName : Nat) (a_voterDay : Nat) (a_voterCounty : Nat) (a_heaps : Nat) (a_speed : Nat) (a_four : Nat) (a_byRules : Nat) (a_hours : Nat) (a_rest : Nat) (a_yet : Nat) (a_put : Nat) (v_kept : Int32) (v_length : Int32) (v_items : Int32) (v_readItems : Int32) (v_at : Int32) (v_lists : Int32) (v_voters : Int32) (v_needed : Int32) (v_hour : Nat → Int32) (v_letter : Nat → Int32) (v_rank : Nat → Int32) (v_value : Nat → Int32) (v_where : Nat → Int32) : va_W := [(a_this, .inr (11, [.ref a_cards, .ref a_county, .ref a_holes, .int v_kept, .int v_length, .ref a_text, .int v_items, .ref a_letter, .ref a_where, .ref a_rank, .ref a_value, .ref a_hour, .int v_readItems, .ref a_readLetter, .ref a_readWhere, .ref a_readRank, .ref a_readValue, .ref a_readHour, .int v_at, .int v_lists, .ref a_listName, .ref a_listDay, .int v_voters, .ref a_voterName, .ref a_voterDay, .ref a_voterCounty, .int v_needed, .ref a_heaps, .ref a_speed, .ref a_four, .ref a_byRules, .ref a_hours, .ref a_rest, .ref a_yet, .ref a_put])), (a_hour, .inl (cI, 40, .inl v_hour)), (a_letter, .inl (cI, 40, .inl v_letter)), (a_rank, .inl (cI, 40, .inl v_rank)), (a_value, .inl (cI, 40, .inl v_value)), (a_where, .inl (cI, 40, .inl v_where))]
theorem hd_X11_rule : yX11_rule.cls = RX11 ∧ yX11_rule.cls ≠ "java/lang/invoke/MethodHandle" ∧ yX11_rule.cls ≠ "java/lang/invoke/VarHandle" ∧ (parseMethodDescriptor yX11_rule.desc).map (fun d => d.parameters.length) = some 3 := by decide +kernel
abbrev rm_X11_rule : Room := { frames := 2, cells := 0, slots := 0, locals := 50 }
set_option maxHeartbeats 4000000 in
set_option maxRecDepth 100000 in
theorem c_X11_rule (l : Launch) (D : va_G) (cB cI cJ : ClassId) (N : Nat) (a_this : Nat) (a_cards : Nat) (a_county : Nat) (a_holes : Nat) (a_text : Nat) (a_letter : Nat) (a_where : Nat) (a_rank : Nat) (a_value : Nat) (a_hour : Nat) (a_readLetter : Nat) (a_readWhere : Nat) (a_readRank : Nat) (a_readValue : Nat) (a_readHour : Nat) (a_listName : Nat) (a_listDay : Nat) (a_voterName : Nat) (a_voterDay : Nat) (a_voterCounty : Nat) (a_heaps : Nat) (a_speed : Nat) (a_four : Nat) (a_byRules : Nat) (a_hours : Nat) (a_rest : Nat) (a_yet : Nat) (a_put : Nat) (v_kept : Int32) (v_length : Int32) (v_items : Int32) (v_readItems : Int32) (v_at : Int32) (v_lists : Int32) (v_voters : Int32) (v_needed : Int32) (v_hour : Nat → Int32) (v_letter : Nat → Int32) (v_rank : Nat → Int32) (v_value : Nat → Int32) (v_where : Nat → Int32) (x1 : Int32) (x2 : Int32) (x3 : Int32) {r : Int32} (hf : f_X11_rule N v_items v_hour v_letter v_rank v_value v_where x1 x2 x3 = some r) : MTi l yX11_rule wsX11_rule rm_X11_rule D (wk_T cB cI cJ) [.ref a_this, .int x1, .int x2, .int x3] (w_X11_rule cB cI cJ a_this a_cards a_county a_holes a_text a_letter a_where a_rank a_value a_hour a_readLetter a_readWhere a_readRank a_readValue a_readHour a_listName a_listDay a_voterName a_voterDay a_voterCounty a_heaps a_speed a_four a_byRules a_hours a_rest a_yet a_put v_kept v_length v_items v_readItems v_at v_lists v_voters v_needed v_hour v_letter v_rank v_value v_where) (w_X11_rule cB cI cJ a_this a_cards a_county a_holes a_text a_letter a_where a_rank a_value a_hour a_readLetter a_readWhere a_readRank a_readValue a_readHour a_listName a_listDay a_voterName a_voterDay a_voterCounty a_heaps a_speed a_four a_byRules a_hours a_rest a_yet a_put v_kept v_length v_items v_readItems v_at v_lists v_voters v_needed v_hour v_letter v_rank v_value v_where) r := by
  refine MTi.of (cc := cX11_rule) (nL := 4) (rt := .int) (own := RX11) pn_X11 rfl rfl (Nat.le_of_ble_eq_true rfl) rfl ?_
  intro p e s m args below meth c A ls Q C hP hD hS hl hret
  obtain ⟨hx, hb, hml, hts, hown, hK, hN, hA, hlk⟩ := id C
  have hl : lv_has ls 4 [(0, .ref a_this), (1, .int x1), (2, .int x2), (3, .int x3)] := hl
  unfold f_X11_rule at hf
  refine lv_iload_n hx hb dX11_rule_0 rfl (lv_at hl 1 rfl) ?_
  refine lv_i2l (v := (x1.toInt64)) hx hb dX11_rule_1 rfl ?_
  refine lv_lconst (v := (0 : Int64)) hx hb dX11_rule_2 (by decide) ?_
  refine lv_ldc2 (v := (3 : Int64)) hx hb hown (hts (.constantLong RX11 117 (3)) (List.mem_of_getElem? (i := 1) rfl)) dX11_rule_3 ?_
  obtain ⟨r1, hc1, hf⟩ := wk_b1E hf
  refine wk_callSi2 C hP hD hS (c_X11_in l D cB cI cJ N (x1.toInt64) (0 : Int64) (3 : Int64) hc1) (va_cwS 3 hts gX11_rule_X11_in rfl rfl rfl hd_X11_in.2 ⟨Nat.le_of_ble_eq_true rfl, Nat.le_of_ble_eq_true rfl⟩) hl.1 ⟨Nat.zero_le _, Nat.zero_le _⟩ [] [0, 1, 2, 3, 4, 5] 6 (by decide +kernel) rfl (Wn := w_X11_rule cB cI cJ a_this a_cards a_county a_holes a_text a_letter a_where a_rank a_value a_hour a_readLetter a_readWhere a_readRank a_readValue a_readHour a_listName a_listDay a_voterName a_voterDay a_voterCounty a_heaps a_speed a_four a_byRules a_hours a_rest a_yet a_put v_kept v_length v_items v_readItems v_at v_lists v_voters v_needed v_hour v_letter v_rank v_value v_where) rfl rfl rfl rfl rfl rfl rfl rfl (Nat.le_of_ble_eq_true rfl) dX11_rule_6 (fun H locs hP hD hS => ?_)
  refine lv_if_eq (tgt := 41) hx hb dX11_rule_9 (by decide) (fun c2 => ?_) (fun c2 => ?_)
  · have hf := wk_itT hf c2
    refine lv_iconst (v := (-1 : Int32)) hx hb dX11_rule_41 (by decide) ?_
    exact hret _ _ _ _ _ _ dX11_rule_42 (wk_rt hf (fun z => z)) rfl hP hD hS
  · have hf := wk_itF hf c2
    refine lv_iload_n hx hb dX11_rule_12 rfl (lv_at hl 2 rfl) ?_
    refine lv_i2l (v := (x2.toInt64)) hx hb dX11_rule_13 rfl ?_
    refine lv_lconst (v := (0 : Int64)) hx hb dX11_rule_14 (by decide) ?_
    refine lv_ldc2 (v := (4 : Int64)) hx hb hown (hts (.constantLong RX11 101 (4)) (List.mem_of_getElem? (i := 2) rfl)) dX11_rule_15 ?_
    obtain ⟨r3, hc3, hf⟩ := wk_b1E hf
    refine wk_callSi2 C hP hD hS (c_X11_in l D cB cI cJ N (x2.toInt64) (0 : Int64) (4 : Int64) hc3) (va_cwS 3 hts gX11_rule_X11_in rfl rfl rfl hd_X11_in.2 ⟨Nat.le_of_ble_eq_true rfl, Nat.le_of_ble_eq_true rfl⟩) hl.1 ⟨Nat.zero_le _, Nat.zero_le _⟩ [] [0, 1, 2, 3, 4, 5] 6 (by decide +kernel) rfl (Wn := w_X11_rule cB cI cJ a_this a_cards a_county a_holes a_text a_letter a_where a_rank a_value a_hour a_readLetter a_readWhere a_readRank a_readValue a_readHour a_listName a_listDay a_voterName a_voterDay a_voterCounty a_heaps a_speed a_four a_byRules a_hours a_rest a_yet a_put v_kept v_length v_items v_readItems v_at v_lists v_voters v_needed v_hour v_letter v_rank v_value v_where) rfl rfl rfl rfl rfl rfl rfl rfl (Nat.le_of_ble_eq_true rfl) dX11_rule_18 (fun H locs hP hD hS => ?_)
    refine lv_if_eq (tgt := 41) hx hb dX11_rule_21 (by decide) (fun c4 => ?_) (fun c4 => ?_)
    · have hf := wk_itT hf c4
      refine lv_iconst (v := (-1 : Int32)) hx hb dX11_rule_41 (by decide) ?_
      exact hret _ _ _ _ _ _ dX11_rule_42 (wk_rt hf (fun z => z)) rfl hP hD hS
    · have hf := wk_itF hf c4
      refine lv_iload_n hx hb dX11_rule_24 rfl (lv_at hl 3 rfl) ?_
      obtain ⟨r5, hc5, hf⟩ := wk_b1E hf
      refine wk_callSi2 C hP hD hS (c_X11_isHour l D cB cI cJ N x3 hc5) (va_cwS 1 hts gX11_rule_X11_isHour rfl rfl rfl hd_X11_isHour.2 ⟨Nat.le_of_ble_eq_true rfl, Nat.le_of_ble_eq_true rfl⟩) hl.1 ⟨Nat.zero_le _, Nat.zero_le _⟩ [] [0, 1, 2, 3, 4, 5] 6 (by decide +kernel) rfl (Wn := w_X11_rule cB cI cJ a_this a_cards a_county a_holes a_text a_letter a_where a_rank a_value a_hour a_readLetter a_readWhere a_readRank a_readValue a_readHour a_listName a_listDay a_voterName a_voterDay a_voterCounty a_heaps a_speed a_four a_byRules a_hours a_rest a_yet a_put v_kept v_length v_items v_readItems v_at v_lists v_voters v_needed v_hour v_letter v_rank v_value v_where) rfl rfl rfl rfl rfl rfl rfl rfl (Nat.le_of_ble_eq_true rfl) dX11_rule_25 (fun H locs hP hD hS => ?_)
      refine lv_if_eq (tgt := 41) hx hb dX11_rule_28 (by decide) (fun c6 => ?_) (fun c6 => ?_)
      · have hf := wk_itT hf c6
        refine lv_iconst (v := (-1 : Int32)) hx hb dX11_rule_41 (by decide) ?_
        exact hret _ _ _ _ _ _ dX11_rule_42 (wk_rt hf (fun z => z)) rfl hP hD hS
      · have hf := wk_itF hf c6
        refine lv_aload_n hx hb dX11_rule_31 rfl (lv_at hl 0 rfl) ?_
        refine lv_iload_n hx hb dX11_rule_32 rfl (lv_at hl 1 rfl) ?_
        refine lv_iload_n hx hb dX11_rule_33 rfl (lv_at hl 2 rfl) ?_
        refine lv_iload_n hx hb dX11_rule_34 rfl (lv_at hl 3 rfl) ?_
        obtain ⟨r7, hc7, hf⟩ := wk_b1E hf
        refine wk_callVi2 C hP hD hS (c_X11_ruleOf l D cB cI cJ N a_this a_cards a_county a_holes a_text a_letter a_where a_rank a_value a_hour a_readLetter a_readWhere a_readRank a_readValue a_readHour a_listName a_listDay a_voterName a_voterDay a_voterCounty a_heaps a_speed a_four a_byRules a_hours a_rest a_yet a_put v_kept v_length v_items v_readItems v_at v_lists v_voters v_needed v_hour v_letter v_rank v_value v_where x1 x2 x3 hc7) (cwV 3 hts gX11_rule_X11_ruleOf rfl rfl rfl hd_X11_ruleOf ⟨Nat.le_of_ble_eq_true rfl, Nat.le_of_ble_eq_true rfl⟩) hl.1 ⟨Nat.zero_le _, Nat.zero_le _⟩ [0, 1, 2, 3, 4, 5] [] 6 (by decide +kernel) rfl (Wn := w_X11_rule cB cI cJ a_this a_cards a_county a_holes a_text a_letter a_where a_rank a_value a_hour a_readLetter a_readWhere a_readRank a_readValue a_readHour a_listName a_listDay a_voterName a_voterDay a_voterCounty a_heaps a_speed a_four a_byRules a_hours a_rest a_yet a_put v_kept v_length v_items v_readItems v_at v_lists v_voters v_needed v_hour v_letter v_rank v_value v_where) rfl rfl rfl rfl rfl rfl (ci := 11) rfl rfl (q0 := 0) rfl rfl rfl (Nat.le_of_ble_eq_true rfl) dX11_rule_35 (fun H locs hP hD hS => ?_)
        refine lv_goto (tgt := 42) hx hb dX11_rule_38 (by decide) ?_
        exact hret _ _ _ _ _ _ dX11_rule_42 (wk_rt hf (fun z => z)) rfl hP hD hS
abbrev w_X11_why (cB cI cJ : ClassId) (a_this : Nat) (a_cards : Nat) (a_county : Nat) (a_holes : Nat) (a_text : Nat) (a_letter : Nat) (a_where : Nat) (a_rank : Nat) (a_value : Nat) (a_hour : Nat) (a_readLetter : Nat) (a_readWhere : Nat) (a_readRank : Nat) (a_readValue : Nat) (a_readHour : Nat) (a_listName : Nat) (a_listDay : Nat) (a_voterName : Nat) (a_voterDay : Nat) (a_voterCounty : Nat) (a_heaps : Nat) (a_speed : Nat) (a_four : Nat) (a_byRules : Nat) (a_hours : Nat) (a_rest : Nat) (a_yet : Nat) (a_put : Nat) (v_kept : Int32) (v_length : Int32) (v_items : Int32) (v_readItems : Int32) (v_at : Int32) (v_lists : Int32) (v_voters : Int32) (v_needed : Int32) (v_hour : Nat → Int32) (v_letter : Nat → Int32) (v_rank : Nat → Int32) (v_where : Nat → Int32) : va_W := [(a_this, .inr (11, [.ref a_cards, .ref a_county, .ref a_holes, .int v_kept, .int v_length, .ref a_text, .int v_items, .ref a_letter, .ref a_where, .ref a_rank, .ref a_value, .ref a_hour, .int v_readItems, .ref a_readLetter, .ref a_readWhere, .ref a_readRank, .ref a_readValue, .ref a_readHour, .int v_at, .int v_lists, .ref a_listName, .ref a_listDay, .int v_voters, .ref a_voterName, .ref a_voterDay, .ref a_voterCounty, .int v_needed, .ref a_heaps, .ref a_speed, .ref a_four, .ref a_byRules, .ref a_hours, .ref a_rest, .ref a_yet, .ref a_put])), (a_hour, .inl (cI, 40, .inl v_hour)), (a_letter, .inl (cI, 40, .inl v_letter)), (a_rank, .inl (cI, 40, .inl v_rank)), (a_where, .inl (cI, 40, .inl v_where))]
theorem hd_X11_why : yX11_why.cls = RX11 ∧ yX11_why.cls ≠ "java/lang/invoke/MethodHandle" ∧ yX11_why.cls ≠ "java/lang/invoke/VarHandle" ∧ (parseMethodDescriptor yX11_why.desc).map (fun d => d.parameters.length) = some 3 := by decide +kernel
abbrev rm_X11_why : Room := { frames := 2, cells := 0, slots := 0, locals := 45 }
set_option maxHeartbeats 4000000 in
set_option maxRecDepth 100000 in
theorem c_X11_why (l : Launch) (D : va_G) (cB cI cJ : ClassId) (N : Nat) (a_this : Nat) (a_cards : Nat) (a_county : Nat) (a_holes : Nat) (a_text : Nat) (a_letter : Nat) (a_where : Nat) (a_rank : Nat) (a_value : Nat) (a_hour : Nat) (a_readLetter : Nat) (a_readWhere : Nat) (a_readRank : Nat) (a_readValue : Nat) (a_readHour : Nat) (a_listName : Nat) (a_listDay : Nat) (a_voterName : Nat) (a_voterDay : Nat) (a_voterCounty : Nat) (a_heaps : Nat) (a_speed : Nat) (a_four : Nat) (a_byRules : Nat) (a_hours : Nat) (a_rest : Nat) (a_yet : Nat) (a_put : Nat) (v_kept : Int32) (v_length : Int32) (v_items : Int32) (v_readItems : Int32) (v_at : Int32) (v_lists : Int32) (v_voters : Int32) (v_needed : Int32) (v_hour : Nat → Int32) (v_letter : Nat → Int32) (v_rank : Nat → Int32) (v_where : Nat → Int32) (x1 : Int32) (x2 : Int32) (x3 : Int32) {r : Int32} (hf : f_X11_why N v_items v_hour v_letter v_rank v_where x1 x2 x3 = some r) : MTi l yX11_why wsX11_why rm_X11_why D (wk_T cB cI cJ) [.ref a_this, .int x1, .int x2, .int x3] (w_X11_why cB cI cJ a_this a_cards a_county a_holes a_text a_letter a_where a_rank a_value a_hour a_readLetter a_readWhere a_readRank a_readValue a_readHour a_listName a_listDay a_voterName a_voterDay a_voterCounty a_heaps a_speed a_four a_byRules a_hours a_rest a_yet a_put v_kept v_length v_items v_readItems v_at v_lists v_voters v_needed v_hour v_letter v_rank v_where) (w_X11_why cB cI cJ a_this a_cards a_county a_holes a_text a_letter a_where a_rank a_value a_hour a_readLetter a_readWhere a_readRank a_readValue a_readHour a_listName a_listDay a_voterName a_voterDay a_voterCounty a_heaps a_speed a_four a_byRules a_hours a_rest a_yet a_put v_kept v_length v_items v_readItems v_at v_lists v_voters v_needed v_hour v_letter v_rank v_where) r := by
  refine MTi.of (cc := cX11_why) (nL := 4) (rt := .int) (own := RX11) pn_X11 rfl rfl (Nat.le_of_ble_eq_true rfl) rfl ?_
  intro p e s m args below meth c A ls Q C hP hD hS hl hret
  obtain ⟨hx, hb, hml, hts, hown, hK, hN, hA, hlk⟩ := id C
  have hl : lv_has ls 4 [(0, .ref a_this), (1, .int x1), (2, .int x2), (3, .int x3)] := hl
  unfold f_X11_why at hf
  refine lv_iload_n hx hb dX11_why_0 rfl (lv_at hl 1 rfl) ?_
  refine lv_i2l (v := (x1.toInt64)) hx hb dX11_why_1 rfl ?_
  refine lv_lconst (v := (0 : Int64)) hx hb dX11_why_2 (by decide) ?_
  refine lv_ldc2 (v := (3 : Int64)) hx hb hown (hts (.constantLong RX11 117 (3)) (List.mem_of_getElem? (i := 1) rfl)) dX11_why_3 ?_
  obtain ⟨r1, hc1, hf⟩ := wk_b1E hf
  refine wk_callSi2 C hP hD hS (c_X11_in l D cB cI cJ N (x1.toInt64) (0 : Int64) (3 : Int64) hc1) (va_cwS 3 hts gX11_why_X11_in rfl rfl rfl hd_X11_in.2 ⟨Nat.le_of_ble_eq_true rfl, Nat.le_of_ble_eq_true rfl⟩) hl.1 ⟨Nat.zero_le _, Nat.zero_le _⟩ [] [0, 1, 2, 3, 4] 5 (by decide +kernel) rfl (Wn := w_X11_why cB cI cJ a_this a_cards a_county a_holes a_text a_letter a_where a_rank a_value a_hour a_readLetter a_readWhere a_readRank a_readValue a_readHour a_listName a_listDay a_voterName a_voterDay a_voterCounty a_heaps a_speed a_four a_byRules a_hours a_rest a_yet a_put v_kept v_length v_items v_readItems v_at v_lists v_voters v_needed v_hour v_letter v_rank v_where) rfl rfl rfl rfl rfl rfl rfl rfl (Nat.le_of_ble_eq_true rfl) dX11_why_6 (fun H locs hP hD hS => ?_)
  refine lv_if_eq (tgt := 41) hx hb dX11_why_9 (by decide) (fun c2 => ?_) (fun c2 => ?_)
  · have hf := wk_itT hf c2
    refine lv_iconst (v := (-1 : Int32)) hx hb dX11_why_41 (by decide) ?_
    exact hret _ _ _ _ _ _ dX11_why_42 (wk_rt hf (fun z => z)) rfl hP hD hS
  · have hf := wk_itF hf c2
    refine lv_iload_n hx hb dX11_why_12 rfl (lv_at hl 2 rfl) ?_
    refine lv_i2l (v := (x2.toInt64)) hx hb dX11_why_13 rfl ?_
    refine lv_lconst (v := (0 : Int64)) hx hb dX11_why_14 (by decide) ?_
    refine lv_ldc2 (v := (4 : Int64)) hx hb hown (hts (.constantLong RX11 101 (4)) (List.mem_of_getElem? (i := 2) rfl)) dX11_why_15 ?_
    obtain ⟨r3, hc3, hf⟩ := wk_b1E hf
    refine wk_callSi2 C hP hD hS (c_X11_in l D cB cI cJ N (x2.toInt64) (0 : Int64) (4 : Int64) hc3) (va_cwS 3 hts gX11_why_X11_in rfl rfl rfl hd_X11_in.2 ⟨Nat.le_of_ble_eq_true rfl, Nat.le_of_ble_eq_true rfl⟩) hl.1 ⟨Nat.zero_le _, Nat.zero_le _⟩ [] [0, 1, 2, 3, 4] 5 (by decide +kernel) rfl (Wn := w_X11_why cB cI cJ a_this a_cards a_county a_holes a_text a_letter a_where a_rank a_value a_hour a_readLetter a_readWhere a_readRank a_readValue a_readHour a_listName a_listDay a_voterName a_voterDay a_voterCounty a_heaps a_speed a_four a_byRules a_hours a_rest a_yet a_put v_kept v_length v_items v_readItems v_at v_lists v_voters v_needed v_hour v_letter v_rank v_where) rfl rfl rfl rfl rfl rfl rfl rfl (Nat.le_of_ble_eq_true rfl) dX11_why_18 (fun H locs hP hD hS => ?_)
    refine lv_if_eq (tgt := 41) hx hb dX11_why_21 (by decide) (fun c4 => ?_) (fun c4 => ?_)
    · have hf := wk_itT hf c4
      refine lv_iconst (v := (-1 : Int32)) hx hb dX11_why_41 (by decide) ?_
      exact hret _ _ _ _ _ _ dX11_why_42 (wk_rt hf (fun z => z)) rfl hP hD hS
    · have hf := wk_itF hf c4
      refine lv_iload_n hx hb dX11_why_24 rfl (lv_at hl 3 rfl) ?_
      obtain ⟨r5, hc5, hf⟩ := wk_b1E hf
      refine wk_callSi2 C hP hD hS (c_X11_isHour l D cB cI cJ N x3 hc5) (va_cwS 1 hts gX11_why_X11_isHour rfl rfl rfl hd_X11_isHour.2 ⟨Nat.le_of_ble_eq_true rfl, Nat.le_of_ble_eq_true rfl⟩) hl.1 ⟨Nat.zero_le _, Nat.zero_le _⟩ [] [0, 1, 2, 3, 4] 5 (by decide +kernel) rfl (Wn := w_X11_why cB cI cJ a_this a_cards a_county a_holes a_text a_letter a_where a_rank a_value a_hour a_readLetter a_readWhere a_readRank a_readValue a_readHour a_listName a_listDay a_voterName a_voterDay a_voterCounty a_heaps a_speed a_four a_byRules a_hours a_rest a_yet a_put v_kept v_length v_items v_readItems v_at v_lists v_voters v_needed v_hour v_letter v_rank v_where) rfl rfl rfl rfl rfl rfl rfl rfl (Nat.le_of_ble_eq_true rfl) dX11_why_25 (fun H locs hP hD hS => ?_)
      refine lv_if_eq (tgt := 41) hx hb dX11_why_28 (by decide) (fun c6 => ?_) (fun c6 => ?_)
      · have hf := wk_itT hf c6
        refine lv_iconst (v := (-1 : Int32)) hx hb dX11_why_41 (by decide) ?_
        exact hret _ _ _ _ _ _ dX11_why_42 (wk_rt hf (fun z => z)) rfl hP hD hS
      · have hf := wk_itF hf c6
        refine lv_aload_n hx hb dX11_why_31 rfl (lv_at hl 0 rfl) ?_
        refine lv_iload_n hx hb dX11_why_32 rfl (lv_at hl 1 rfl) ?_
        refine lv_iload_n hx hb dX11_why_33 rfl (lv_at hl 2 rfl) ?_
        refine lv_iload_n hx hb dX11_why_34 rfl (lv_at hl 3 rfl) ?_
        obtain ⟨r7, hc7, hf⟩ := wk_b1E hf
        refine wk_callVi2 C hP hD hS (c_X11_lineOf l D cB cI cJ N a_this a_cards a_county a_holes a_text a_letter a_where a_rank a_value a_hour a_readLetter a_readWhere a_readRank a_readValue a_readHour a_listName a_listDay a_voterName a_voterDay a_voterCounty a_heaps a_speed a_four a_byRules a_hours a_rest a_yet a_put v_kept v_length v_items v_readItems v_at v_lists v_voters v_needed v_hour v_letter v_rank v_where x1 x2 x3 hc7) (cwV 3 hts gX11_why_X11_lineOf rfl rfl rfl hd_X11_lineOf ⟨Nat.le_of_ble_eq_true rfl, Nat.le_of_ble_eq_true rfl⟩) hl.1 ⟨Nat.zero_le _, Nat.zero_le _⟩ [0, 1, 2, 3, 4] [] 5 (by decide +kernel) rfl (Wn := w_X11_why cB cI cJ a_this a_cards a_county a_holes a_text a_letter a_where a_rank a_value a_hour a_readLetter a_readWhere a_readRank a_readValue a_readHour a_listName a_listDay a_voterName a_voterDay a_voterCounty a_heaps a_speed a_four a_byRules a_hours a_rest a_yet a_put v_kept v_length v_items v_readItems v_at v_lists v_voters v_needed v_hour v_letter v_rank v_where) rfl rfl rfl rfl rfl rfl (ci := 11) rfl rfl (q0 := 0) rfl rfl rfl (Nat.le_of_ble_eq_true rfl) dX11_why_35 (fun H locs hP hD hS => ?_)
        refine lv_goto (tgt := 42) hx hb dX11_why_38 (by decide) ?_
        exact hret _ _ _ _ _ _ dX11_why_42 (wk_rt hf (fun z => z)) rfl hP hD hS
abbrev w_X11_clash (cB cI cJ : ClassId) (a_this : Nat) (a_cards : Nat) (a_county : Nat) (a_holes : Nat) (a_text : Nat) (a_letter : Nat) (a_where : Nat) (a_rank : Nat) (a_value : Nat) (a_hour : Nat) (a_readLetter : Nat) (a_readWhere : Nat) (a_readRank : Nat) (a_readValue : Nat) (a_readHour : Nat) (a_listName : Nat) (a_listDay : Nat) (a_voterName : Nat) (a_voterDay : Nat) (a_voterCounty : Nat) (a_heaps : Nat) (a_speed : Nat) (a_four : Nat) (a_byRules : Nat) (a_hours : Nat) (a_rest : Nat) (a_yet : Nat) (a_put : Nat) (v_kept : Int32) (v_length : Int32) (v_items : Int32) (v_readItems : Int32) (v_at : Int32) (v_lists : Int32) (v_voters : Int32) (v_needed : Int32) (v_hour : Nat → Int32) (v_letter : Nat → Int32) (v_rank : Nat → Int32) (v_value : Nat → Int32) (v_where : Nat → Int32) : va_W := [(a_this, .inr (11, [.ref a_cards, .ref a_county, .ref a_holes, .int v_kept, .int v_length, .ref a_text, .int v_items, .ref a_letter, .ref a_where, .ref a_rank, .ref a_value, .ref a_hour, .int v_readItems, .ref a_readLetter, .ref a_readWhere, .ref a_readRank, .ref a_readValue, .ref a_readHour, .int v_at, .int v_lists, .ref a_listName, .ref a_listDay, .int v_voters, .ref a_voterName, .ref a_voterDay, .ref a_voterCounty, .int v_needed, .ref a_heaps, .ref a_speed, .ref a_four, .ref a_byRules, .ref a_hours, .ref a_rest, .ref a_yet, .ref a_put])), (a_hour, .inl (cI, 40, .inl v_hour)), (a_letter, .inl (cI, 40, .inl v_letter)), (a_rank, .inl (cI, 40, .inl v_rank)), (a_value, .inl (cI, 40, .inl v_value)), (a_where, .inl (cI, 40, .inl v_where))]
theorem hd_X11_clash : yX11_clash.cls = RX11 ∧ yX11_clash.cls ≠ "java/lang/invoke/MethodHandle" ∧ yX11_clash.cls ≠ "java/lang/invoke/VarHandle" ∧ (parseMethodDescriptor yX11_clash.desc).map (fun d => d.parameters.length) = some 0 := by decide +kernel
abbrev rm_X11_clash : Room := { frames := 0, cells := 0, slots := 0, locals := 0 }
theorem in_X11_clash_X11 : ∀ w ∈ wsX110, w ∈ wsX11_clash := fun w h => List.mem_cons_of_mem _ (List.mem_append_right _ h)
set_option maxHeartbeats 4000000 in
set_option maxRecDepth 100000 in
theorem c_X11_clash (l : Launch) (D : va_G) (cB cI cJ : ClassId) (N : Nat) (a_this : Nat) (a_cards : Nat) (a_county : Nat) (a_holes : Nat) (a_text : Nat) (a_letter : Nat) (a_where : Nat) (a_rank : Nat) (a_value : Nat) (a_hour : Nat) (a_readLetter : Nat) (a_readWhere : Nat) (a_readRank : Nat) (a_readValue : Nat) (a_readHour : Nat) (a_listName : Nat) (a_listDay : Nat) (a_voterName : Nat) (a_voterDay : Nat) (a_voterCounty : Nat) (a_heaps : Nat) (a_speed : Nat) (a_four : Nat) (a_byRules : Nat) (a_hours : Nat) (a_rest : Nat) (a_yet : Nat) (a_put : Nat) (v_kept : Int32) (v_length : Int32) (v_items : Int32) (v_readItems : Int32) (v_at : Int32) (v_lists : Int32) (v_voters : Int32) (v_needed : Int32) (v_hour : Nat → Int32) (v_letter : Nat → Int32) (v_rank : Nat → Int32) (v_value : Nat → Int32) (v_where : Nat → Int32) {r : Int32} (hf : f_X11_clash N v_items v_hour v_letter v_rank v_value v_where = some r) : MTi l yX11_clash wsX11_clash rm_X11_clash D (wk_T cB cI cJ) [.ref a_this] (w_X11_clash cB cI cJ a_this a_cards a_county a_holes a_text a_letter a_where a_rank a_value a_hour a_readLetter a_readWhere a_readRank a_readValue a_readHour a_listName a_listDay a_voterName a_voterDay a_voterCounty a_heaps a_speed a_four a_byRules a_hours a_rest a_yet a_put v_kept v_length v_items v_readItems v_at v_lists v_voters v_needed v_hour v_letter v_rank v_value v_where) (w_X11_clash cB cI cJ a_this a_cards a_county a_holes a_text a_letter a_where a_rank a_value a_hour a_readLetter a_readWhere a_readRank a_readValue a_readHour a_listName a_listDay a_voterName a_voterDay a_voterCounty a_heaps a_speed a_four a_byRules a_hours a_rest a_yet a_put v_kept v_length v_items v_readItems v_at v_lists v_voters v_needed v_hour v_letter v_rank v_value v_where) r := by
  refine MTi.of (cc := cX11_clash) (nL := 4) (rt := .int) (own := RX11) pn_X11 rfl rfl (Nat.le_of_ble_eq_true rfl) rfl ?_
  intro p e s m args below meth c A ls Q C hP hD hS hl hret
  obtain ⟨hx, hb, hml, hts, hown, hK, hN, hA, hlk⟩ := id C
  have hl : lv_has ls 4 [(0, .ref a_this)] := hl
  have L2 := wk_loopI (F := (fun k2 : Int32 → Option Int32 => B_X11_clash_2 N v_items v_hour v_letter v_rank v_value v_where k2)) (bot := fun _ => none) (fun k2 : Int32 → Option Int32 => ∀ (x1 : Int32), k2 x1 = some r → ∀ (H : Heap) (locs : List Loc) (ls : Array Slot), va_P D vwCl (w_X11_clash cB cI cJ a_this a_cards a_county a_holes a_text a_letter a_where a_rank a_value a_hour a_readLetter a_readWhere a_readRank a_readValue a_readHour a_listName a_listDay a_voterName a_voterDay a_voterCounty a_heaps a_speed a_four a_byRules a_hours a_rest a_yet a_put v_kept v_length v_items v_readItems v_at v_lists v_voters v_needed v_hour v_letter v_rank v_value v_where) H → va_D A (w_X11_clash cB cI cJ a_this a_cards a_county a_holes a_text a_letter a_where a_rank a_value a_hour a_readLetter a_readWhere a_readRank a_readValue a_readHour a_listName a_listDay a_voterName a_voterDay a_voterCounty a_heaps a_speed a_four a_byRules a_hours a_rest a_yet a_put v_kept v_length v_items v_readItems v_at v_lists v_voters v_needed v_hour v_letter v_rank v_value v_where) → va_S A s.heap H locs → lv_has ls 4 [(0, .ref a_this), (1, .int x1)] → W p l e rm_X11_clash s m args below meth c H locs 0 0 Q (F0 m 2 ls [])) (by intro x1 hf; exact wk_no hf) (by
    intro k2 ih2
    have L14 := wk_loopI (F := (fun k14 : Int32 → Int32 → Option Int32 => B_X11_clash_14 N v_items v_hour v_letter v_rank v_value v_where k2 k14)) (bot := fun _ _ => none) (fun k14 : Int32 → Int32 → Option Int32 => ∀ (x1 : Int32) (x2 : Int32), k14 x1 x2 = some r → ∀ (H : Heap) (locs : List Loc) (ls : Array Slot), va_P D vwCl (w_X11_clash cB cI cJ a_this a_cards a_county a_holes a_text a_letter a_where a_rank a_value a_hour a_readLetter a_readWhere a_readRank a_readValue a_readHour a_listName a_listDay a_voterName a_voterDay a_voterCounty a_heaps a_speed a_four a_byRules a_hours a_rest a_yet a_put v_kept v_length v_items v_readItems v_at v_lists v_voters v_needed v_hour v_letter v_rank v_value v_where) H → va_D A (w_X11_clash cB cI cJ a_this a_cards a_county a_holes a_text a_letter a_where a_rank a_value a_hour a_readLetter a_readWhere a_readRank a_readValue a_readHour a_listName a_listDay a_voterName a_voterDay a_voterCounty a_heaps a_speed a_four a_byRules a_hours a_rest a_yet a_put v_kept v_length v_items v_readItems v_at v_lists v_voters v_needed v_hour v_letter v_rank v_value v_where) → va_S A s.heap H locs → lv_has ls 4 [(0, .ref a_this), (1, .int x1), (2, .int x2)] → W p l e rm_X11_clash s m args below meth c H locs 0 0 Q (F0 m 14 ls [])) (by intro x1 x2 hf; exact wk_no hf) (by
      intro k14 ih14
      have J92 : ∀ (x1 : Int32) (x2 : Int32) (s0 : Int32), B_X11_clash_92 N v_items v_hour v_letter v_rank v_value v_where k2 k14 x1 x2 s0 = some r → ∀ (H : Heap) (locs : List Loc) (ls : Array Slot), va_P D vwCl (w_X11_clash cB cI cJ a_this a_cards a_county a_holes a_text a_letter a_where a_rank a_value a_hour a_readLetter a_readWhere a_readRank a_readValue a_readHour a_listName a_listDay a_voterName a_voterDay a_voterCounty a_heaps a_speed a_four a_byRules a_hours a_rest a_yet a_put v_kept v_length v_items v_readItems v_at v_lists v_voters v_needed v_hour v_letter v_rank v_value v_where) H → va_D A (w_X11_clash cB cI cJ a_this a_cards a_county a_holes a_text a_letter a_where a_rank a_value a_hour a_readLetter a_readWhere a_readRank a_readValue a_readHour a_listName a_listDay a_voterName a_voterDay a_voterCounty a_heaps a_speed a_four a_byRules a_hours a_rest a_yet a_put v_kept v_length v_items v_readItems v_at v_lists v_voters v_needed v_hour v_letter v_rank v_value v_where) → va_S A s.heap H locs → lv_has ls 4 [(0, .ref a_this), (1, .int x1), (2, .int x2)] → W p l e rm_X11_clash s m args below meth c H locs 0 0 Q (F0 m 92 ls [.int s0]) := by
        intro x1 x2 s0 hf H locs ls hP hD hS hl
        unfold B_X11_clash_92 at hf
        refine lv_istore_n (lv' := [(3, .int s0), (0, .ref a_this), (1, .int x1), (2, .int x2)]) hx hb dX11_clash_92 rfl hl (by decide) rfl (fun ls hl => ?_)
        refine lv_iload_n hx hb dX11_clash_93 rfl (lv_at hl 0 rfl) ?_
        refine lv_if_eq (tgt := 139) hx hb dX11_clash_94 (by decide) (fun c1 => ?_) (fun c1 => ?_)
        · have hf := wk_itT hf c1
          obtain ⟨y2, ey2⟩ : ∃ y : Int32, y = x2 + (1 : Int32) := ⟨_, rfl⟩
          have hf := wk_nmE hf ey2
          refine lv_iinc (v := y2) (lv' := [(2, .int y2), (3, .int s0), (0, .ref a_this), (1, .int x1)]) hx hb dX11_clash_139 hl (k := 3) rfl (by rw [ey2]; rfl) (by decide) rfl (fun ls hl => ?_)
          refine lv_goto (tgt := 14) hx hb dX11_clash_142 (by decide) ?_
          exact ih14 _ _ hf _ _ _ hP hD hS (lv_sub hl [2, 3, 0] rfl)
        · have hf := wk_itF hf c1
          refine lv_aload_n hx hb dX11_clash_97 rfl (lv_at hl 1 rfl) ?_
          refine va_get (D := D) (ci := 11) (v := .ref a_where) (C := RX11) (T := TX11) (N := 35) hx hb hts in_X11_clash_X11 hown hK hP 0 rfl rfl 8 (by decide) (hts (.fieldLink RX11 26 "HangingCardsModel" "where" "[I") (List.mem_of_getElem? (i := 6) rfl)) (fun _ h9 => h9) rfl dX11_clash_98 ?_
          refine lv_iload_n hx hb dX11_clash_101 rfl (lv_at hl 2 rfl) ?_
          obtain ⟨hi3, hf⟩ := wk_ckE hf
          refine va_iald hx hb hK hP 5 0 rfl rfl hi3 dX11_clash_102 ?_
          refine lv_aload_n hx hb dX11_clash_103 rfl (lv_at hl 1 rfl) ?_
          refine va_get (D := D) (ci := 11) (v := .ref a_where) (C := RX11) (T := TX11) (N := 35) hx hb hts in_X11_clash_X11 hown hK hP 0 rfl rfl 8 (by decide) (hts (.fieldLink RX11 26 "HangingCardsModel" "where" "[I") (List.mem_of_getElem? (i := 6) rfl)) (fun _ h9 => h9) rfl dX11_clash_104 ?_
          refine lv_iload_n hx hb dX11_clash_107 rfl (lv_at hl 3 rfl) ?_
          obtain ⟨hi4, hf⟩ := wk_ckE hf
          refine va_iald hx hb hK hP 5 0 rfl rfl hi4 dX11_clash_108 ?_
          refine lv_icmp_eq (tgt := 132) hx hb dX11_clash_109 (by decide) (fun c5 => ?_) (fun c5 => ?_)
          · have hf := wk_itT hf c5
            refine lv_bipush (v := (100 : Int32)) hx hb dX11_clash_132 (by decide) ?_
            refine lv_iload_n hx hb dX11_clash_134 rfl (lv_at hl 2 rfl) ?_
            refine lv_imul hx hb dX11_clash_135 ?_
            refine lv_iload_n hx hb dX11_clash_136 rfl (lv_at hl 3 rfl) ?_
            refine lv_iadd hx hb dX11_clash_137 ?_
            exact hret _ _ _ _ _ _ dX11_clash_138 (wk_rt hf (fun z => z)) rfl hP hD hS
          · have hf := wk_itF hf c5
            refine lv_aload_n hx hb dX11_clash_112 rfl (lv_at hl 1 rfl) ?_
            refine va_get (D := D) (ci := 11) (v := .ref a_where) (C := RX11) (T := TX11) (N := 35) hx hb hts in_X11_clash_X11 hown hK hP 0 rfl rfl 8 (by decide) (hts (.fieldLink RX11 26 "HangingCardsModel" "where" "[I") (List.mem_of_getElem? (i := 6) rfl)) (fun _ h9 => h9) rfl dX11_clash_113 ?_
            refine lv_iload_n hx hb dX11_clash_116 rfl (lv_at hl 2 rfl) ?_
            obtain ⟨hi6, hf⟩ := wk_ckE hf
            refine va_iald hx hb hK hP 5 0 rfl rfl hi6 dX11_clash_117 ?_
            refine lv_iconst (v := (5 : Int32)) hx hb dX11_clash_118 (by decide) ?_
            refine lv_icmp_eq (tgt := 132) hx hb dX11_clash_119 (by decide) (fun c7 => ?_) (fun c7 => ?_)
            · have hf := wk_itT hf c7
              refine lv_bipush (v := (100 : Int32)) hx hb dX11_clash_132 (by decide) ?_
              refine lv_iload_n hx hb dX11_clash_134 rfl (lv_at hl 2 rfl) ?_
              refine lv_imul hx hb dX11_clash_135 ?_
              refine lv_iload_n hx hb dX11_clash_136 rfl (lv_at hl 3 rfl) ?_
              refine lv_iadd hx hb dX11_clash_137 ?_
              exact hret _ _ _ _ _ _ dX11_clash_138 (wk_rt hf (fun z => z)) rfl hP hD hS
            · have hf := wk_itF hf c7
              refine lv_aload_n hx hb dX11_clash_122 rfl (lv_at hl 1 rfl) ?_
              refine va_get (D := D) (ci := 11) (v := .ref a_where) (C := RX11) (T := TX11) (N := 35) hx hb hts in_X11_clash_X11 hown hK hP 0 rfl rfl 8 (by decide) (hts (.fieldLink RX11 26 "HangingCardsModel" "where" "[I") (List.mem_of_getElem? (i := 6) rfl)) (fun _ h9 => h9) rfl dX11_clash_123 ?_
              refine lv_iload_n hx hb dX11_clash_126 rfl (lv_at hl 3 rfl) ?_
              obtain ⟨hi8, hf⟩ := wk_ckE hf
              refine va_iald hx hb hK hP 5 0 rfl rfl hi8 dX11_clash_127 ?_
              refine lv_iconst (v := (5 : Int32)) hx hb dX11_clash_128 (by decide) ?_
              refine lv_icmp_ne (tgt := 139) hx hb dX11_clash_129 (by decide) (fun c9 => ?_) (fun c9 => ?_)
              · have hf := wk_itF hf c9
                obtain ⟨y10, ey10⟩ : ∃ y : Int32, y = x2 + (1 : Int32) := ⟨_, rfl⟩
                have hf := wk_nmE hf ey10
                refine lv_iinc (v := y10) (lv' := [(2, .int y10), (3, .int s0), (0, .ref a_this), (1, .int x1)]) hx hb dX11_clash_139 hl (k := 3) rfl (by rw [ey10]; rfl) (by decide) rfl (fun ls hl => ?_)
                refine lv_goto (tgt := 14) hx hb dX11_clash_142 (by decide) ?_
                exact ih14 _ _ hf _ _ _ hP hD hS (lv_sub hl [2, 3, 0] rfl)
              · have hf := wk_itT hf c9
                refine lv_bipush (v := (100 : Int32)) hx hb dX11_clash_132 (by decide) ?_
                refine lv_iload_n hx hb dX11_clash_134 rfl (lv_at hl 2 rfl) ?_
                refine lv_imul hx hb dX11_clash_135 ?_
                refine lv_iload_n hx hb dX11_clash_136 rfl (lv_at hl 3 rfl) ?_
                refine lv_iadd hx hb dX11_clash_137 ?_
                exact hret _ _ _ _ _ _ dX11_clash_138 (wk_rt hf (fun z => z)) rfl hP hD hS
      intro x1 x2 hf H locs ls hP hD hS hl
      have hf : B_X11_clash_14 N v_items v_hour v_letter v_rank v_value v_where k2 k14 x1 x2 = some r := hf
      unfold B_X11_clash_14 at hf
      refine lv_iload_n hx hb dX11_clash_14 rfl (lv_at hl 2 rfl) ?_
      refine lv_aload_n hx hb dX11_clash_15 rfl (lv_at hl 0 rfl) ?_
      refine va_get (D := D) (ci := 11) (v := .int v_items) (C := RX11) (T := TX11) (N := 35) hx hb hts in_X11_clash_X11 hown hK hP 0 rfl rfl 6 (by decide) (hts (.fieldLink RX11 171 "HangingCardsModel" "items" "I") (List.mem_of_getElem? (i := 1) rfl)) (fun _ h9 => h9) rfl dX11_clash_16 ?_
      refine lv_icmp_ge (tgt := 145) hx hb dX11_clash_19 (by decide) (fun c11 => ?_) (fun c11 => ?_)
      · have hf := wk_itT hf c11
        obtain ⟨y12, ey12⟩ : ∃ y : Int32, y = x1 + (1 : Int32) := ⟨_, rfl⟩
        have hf := wk_nmE hf ey12
        refine lv_iinc (v := y12) (lv' := [(1, .int y12), (0, .ref a_this), (2, .int x2)]) hx hb dX11_clash_145 hl (k := 1) rfl (by rw [ey12]; rfl) (by decide) rfl (fun ls hl => ?_)
        refine lv_goto (tgt := 2) hx hb dX11_clash_148 (by decide) ?_
        exact ih2 _ hf _ _ _ hP hD hS (lv_sub hl [1, 0] rfl)
      · have hf := wk_itF hf c11
        refine lv_aload_n hx hb dX11_clash_22 rfl (lv_at hl 0 rfl) ?_
        refine va_get (D := D) (ci := 11) (v := .ref a_letter) (C := RX11) (T := TX11) (N := 35) hx hb hts in_X11_clash_X11 hown hK hP 0 rfl rfl 7 (by decide) (hts (.fieldLink RX11 23 "HangingCardsModel" "letter" "[I") (List.mem_of_getElem? (i := 2) rfl)) (fun _ h9 => h9) rfl dX11_clash_23 ?_
        refine lv_iload_n hx hb dX11_clash_26 rfl (lv_at hl 1 rfl) ?_
        obtain ⟨hi13, hf⟩ := wk_ckE hf
        refine va_iald hx hb hK hP 2 0 rfl rfl hi13 dX11_clash_27 ?_
        refine lv_iconst (v := (3 : Int32)) hx hb dX11_clash_28 (by decide) ?_
        refine lv_icmp_ne (tgt := 91) hx hb dX11_clash_29 (by decide) (fun c14 => ?_) (fun c14 => ?_)
        · have hf := wk_itF hf c14
          refine lv_iconst (v := (0 : Int32)) hx hb dX11_clash_91 (by decide) ?_
          exact J92 _ _ _ hf _ _ _ hP hD hS (lv_sub hl [0, 1, 2] rfl)
        · have hf := wk_itT hf c14
          refine lv_aload_n hx hb dX11_clash_32 rfl (lv_at hl 0 rfl) ?_
          refine va_get (D := D) (ci := 11) (v := .ref a_letter) (C := RX11) (T := TX11) (N := 35) hx hb hts in_X11_clash_X11 hown hK hP 0 rfl rfl 7 (by decide) (hts (.fieldLink RX11 23 "HangingCardsModel" "letter" "[I") (List.mem_of_getElem? (i := 2) rfl)) (fun _ h9 => h9) rfl dX11_clash_33 ?_
          refine lv_iload_n hx hb dX11_clash_36 rfl (lv_at hl 2 rfl) ?_
          obtain ⟨hi15, hf⟩ := wk_ckE hf
          refine va_iald hx hb hK hP 2 0 rfl rfl hi15 dX11_clash_37 ?_
          refine lv_iconst (v := (3 : Int32)) hx hb dX11_clash_38 (by decide) ?_
          refine lv_icmp_ne (tgt := 91) hx hb dX11_clash_39 (by decide) (fun c16 => ?_) (fun c16 => ?_)
          · have hf := wk_itF hf c16
            refine lv_iconst (v := (0 : Int32)) hx hb dX11_clash_91 (by decide) ?_
            exact J92 _ _ _ hf _ _ _ hP hD hS (lv_sub hl [0, 1, 2] rfl)
          · have hf := wk_itT hf c16
            refine lv_aload_n hx hb dX11_clash_42 rfl (lv_at hl 0 rfl) ?_
            refine va_get (D := D) (ci := 11) (v := .ref a_rank) (C := RX11) (T := TX11) (N := 35) hx hb hts in_X11_clash_X11 hown hK hP 0 rfl rfl 9 (by decide) (hts (.fieldLink RX11 29 "HangingCardsModel" "rank" "[I") (List.mem_of_getElem? (i := 3) rfl)) (fun _ h9 => h9) rfl dX11_clash_43 ?_
            refine lv_iload_n hx hb dX11_clash_46 rfl (lv_at hl 1 rfl) ?_
            obtain ⟨hi17, hf⟩ := wk_ckE hf
            refine va_iald hx hb hK hP 3 0 rfl rfl hi17 dX11_clash_47 ?_
            refine lv_aload_n hx hb dX11_clash_48 rfl (lv_at hl 0 rfl) ?_
            refine va_get (D := D) (ci := 11) (v := .ref a_rank) (C := RX11) (T := TX11) (N := 35) hx hb hts in_X11_clash_X11 hown hK hP 0 rfl rfl 9 (by decide) (hts (.fieldLink RX11 29 "HangingCardsModel" "rank" "[I") (List.mem_of_getElem? (i := 3) rfl)) (fun _ h9 => h9) rfl dX11_clash_49 ?_
            refine lv_iload_n hx hb dX11_clash_52 rfl (lv_at hl 2 rfl) ?_
            obtain ⟨hi18, hf⟩ := wk_ckE hf
            refine va_iald hx hb hK hP 3 0 rfl rfl hi18 dX11_clash_53 ?_
            refine lv_icmp_ne (tgt := 91) hx hb dX11_clash_54 (by decide) (fun c19 => ?_) (fun c19 => ?_)
            · have hf := wk_itF hf c19
              refine lv_iconst (v := (0 : Int32)) hx hb dX11_clash_91 (by decide) ?_
              exact J92 _ _ _ hf _ _ _ hP hD hS (lv_sub hl [0, 1, 2] rfl)
            · have hf := wk_itT hf c19
              refine lv_aload_n hx hb dX11_clash_57 rfl (lv_at hl 0 rfl) ?_
              refine va_get (D := D) (ci := 11) (v := .ref a_hour) (C := RX11) (T := TX11) (N := 35) hx hb hts in_X11_clash_X11 hown hK hP 0 rfl rfl 11 (by decide) (hts (.fieldLink RX11 35 "HangingCardsModel" "hour" "[I") (List.mem_of_getElem? (i := 4) rfl)) (fun _ h9 => h9) rfl dX11_clash_58 ?_
              refine lv_iload_n hx hb dX11_clash_61 rfl (lv_at hl 1 rfl) ?_
              obtain ⟨hi20, hf⟩ := wk_ckE hf
              refine va_iald hx hb hK hP 1 0 rfl rfl hi20 dX11_clash_62 ?_
              refine lv_aload_n hx hb dX11_clash_63 rfl (lv_at hl 0 rfl) ?_
              refine va_get (D := D) (ci := 11) (v := .ref a_hour) (C := RX11) (T := TX11) (N := 35) hx hb hts in_X11_clash_X11 hown hK hP 0 rfl rfl 11 (by decide) (hts (.fieldLink RX11 35 "HangingCardsModel" "hour" "[I") (List.mem_of_getElem? (i := 4) rfl)) (fun _ h9 => h9) rfl dX11_clash_64 ?_
              refine lv_iload_n hx hb dX11_clash_67 rfl (lv_at hl 2 rfl) ?_
              obtain ⟨hi21, hf⟩ := wk_ckE hf
              refine va_iald hx hb hK hP 1 0 rfl rfl hi21 dX11_clash_68 ?_
              refine lv_icmp_ne (tgt := 91) hx hb dX11_clash_69 (by decide) (fun c22 => ?_) (fun c22 => ?_)
              · have hf := wk_itF hf c22
                refine lv_iconst (v := (0 : Int32)) hx hb dX11_clash_91 (by decide) ?_
                exact J92 _ _ _ hf _ _ _ hP hD hS (lv_sub hl [0, 1, 2] rfl)
              · have hf := wk_itT hf c22
                refine lv_aload_n hx hb dX11_clash_72 rfl (lv_at hl 0 rfl) ?_
                refine va_get (D := D) (ci := 11) (v := .ref a_value) (C := RX11) (T := TX11) (N := 35) hx hb hts in_X11_clash_X11 hown hK hP 0 rfl rfl 10 (by decide) (hts (.fieldLink RX11 32 "HangingCardsModel" "value" "[I") (List.mem_of_getElem? (i := 5) rfl)) (fun _ h9 => h9) rfl dX11_clash_73 ?_
                refine lv_iload_n hx hb dX11_clash_76 rfl (lv_at hl 1 rfl) ?_
                obtain ⟨hi23, hf⟩ := wk_ckE hf
                refine va_iald hx hb hK hP 4 0 rfl rfl hi23 dX11_clash_77 ?_
                refine lv_aload_n hx hb dX11_clash_78 rfl (lv_at hl 0 rfl) ?_
                refine va_get (D := D) (ci := 11) (v := .ref a_value) (C := RX11) (T := TX11) (N := 35) hx hb hts in_X11_clash_X11 hown hK hP 0 rfl rfl 10 (by decide) (hts (.fieldLink RX11 32 "HangingCardsModel" "value" "[I") (List.mem_of_getElem? (i := 5) rfl)) (fun _ h9 => h9) rfl dX11_clash_79 ?_
                refine lv_iload_n hx hb dX11_clash_82 rfl (lv_at hl 2 rfl) ?_
                obtain ⟨hi24, hf⟩ := wk_ckE hf
                refine va_iald hx hb hK hP 4 0 rfl rfl hi24 dX11_clash_83 ?_
                refine lv_icmp_eq (tgt := 91) hx hb dX11_clash_84 (by decide) (fun c25 => ?_) (fun c25 => ?_)
                · have hf := wk_itT hf c25
                  refine lv_iconst (v := (0 : Int32)) hx hb dX11_clash_91 (by decide) ?_
                  exact J92 _ _ _ hf _ _ _ hP hD hS (lv_sub hl [0, 1, 2] rfl)
                · have hf := wk_itF hf c25
                  refine lv_iconst (v := (1 : Int32)) hx hb dX11_clash_87 (by decide) ?_
                  refine lv_goto (tgt := 92) hx hb dX11_clash_88 (by decide) ?_
                  exact J92 _ _ _ hf _ _ _ hP hD hS (lv_sub hl [0, 1, 2] rfl))
    intro x1 hf H locs ls hP hD hS hl
    have hf : B_X11_clash_2 N v_items v_hour v_letter v_rank v_value v_where k2 x1 = some r := hf
    unfold B_X11_clash_2 at hf
    refine lv_iload_n hx hb dX11_clash_2 rfl (lv_at hl 1 rfl) ?_
    refine lv_aload_n hx hb dX11_clash_3 rfl (lv_at hl 0 rfl) ?_
    refine va_get (D := D) (ci := 11) (v := .int v_items) (C := RX11) (T := TX11) (N := 35) hx hb hts in_X11_clash_X11 hown hK hP 0 rfl rfl 6 (by decide) (hts (.fieldLink RX11 171 "HangingCardsModel" "items" "I") (List.mem_of_getElem? (i := 1) rfl)) (fun _ h9 => h9) rfl dX11_clash_4 ?_
    refine lv_icmp_ge (tgt := 151) hx hb dX11_clash_7 (by decide) (fun c26 => ?_) (fun c26 => ?_)
    · have hf := wk_itT hf c26
      refine lv_bipush (v := (-4 : Int32)) hx hb dX11_clash_151 (by decide) ?_
      exact hret _ _ _ _ _ _ dX11_clash_153 (wk_rt hf (fun z => z)) rfl hP hD hS
    · have hf := wk_itF hf c26
      refine lv_iload_n hx hb dX11_clash_10 rfl (lv_at hl 1 rfl) ?_
      refine lv_iconst (v := (1 : Int32)) hx hb dX11_clash_11 (by decide) ?_
      refine lv_iadd hx hb dX11_clash_12 ?_
      refine lv_topi (fun y27 ey27 => ?_)
      have hf := wk_nmE hf ey27
      refine lv_istore_n (lv' := [(2, .int y27), (0, .ref a_this), (1, .int x1)]) hx hb dX11_clash_13 rfl hl (by decide) rfl (fun ls hl => ?_)
      exact L14 N _ _ hf _ _ _ hP hD hS (lv_sub hl [1, 2, 0] rfl))
  unfold f_X11_clash at hf
  refine lv_iconst (v := (0 : Int32)) hx hb dX11_clash_0 (by decide) ?_
  refine lv_istore_n (lv' := [(1, .int (0 : Int32)), (0, .ref a_this)]) hx hb dX11_clash_1 rfl hl (by decide) rfl (fun ls hl => ?_)
  exact L2 N _ hf _ _ _ hP hD hS (lv_sub hl [1, 0] rfl)
