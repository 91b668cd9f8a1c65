abbrev w_X11_isOf (cB cI cJ : ClassId) : va_W := []
theorem hd_X11_isOf : yX11_isOf.cls = RX11 ∧ yX11_isOf.cls ≠ "java/lang/invoke/MethodHandle" ∧ yX11_isOf.cls ≠ "java/lang/invoke/VarHandle" ∧ (parseMethodDescriptor yX11_isOf.desc).map (fun d => d.parameters.length) = some 4 := by decide +kernel
abbrev rm_X11_isOf : Room := { frames := 1, cells := 0, slots := 0, locals := 25 }
set_option maxHeartbeats 4000000 in
set_option maxRecDepth 100000 in
theorem c_X11_isOf (l : Launch) (D : va_G) (cB cI cJ : ClassId) (N : Nat) (x0 : Int32) (x1 : Int32) (x2 : Int32) (x3 : Int32) {r : Bool} (hf : f_X11_isOf N x0 x1 x2 x3 = some r) : MTi l yX11_isOf wsX11_isOf rm_X11_isOf D (wk_T cB cI cJ) [.int x0, .int x1, .int x2, .int x3] (w_X11_isOf cB cI cJ) (w_X11_isOf cB cI cJ) (wk_bI r) := by
  refine MTi.of (cc := cX11_isOf) (nL := 7) (rt := .boolean) (own := RX11) pn_X11 rfl rfl (Nat.le_of_ble_eq_true rfl) (wk_nz r) ?_
  intro p e s m args below meth c A ls Q C hP hD hS hl hret
  obtain ⟨hx, hb, hml, hts, hown, hK, hN, hA, hlk⟩ := id C
  have hl : lv_has ls 7 [(0, .int x0), (1, .int x1), (2, .int x2), (3, .int x3)] := hl
  have L6 := wk_loopI (F := (fun k6 : Int32 → Int32 → Int32 → Int32 → Int32 → Int32 → Option Bool => B_X11_isOf_6 N k6)) (bot := fun _ _ _ _ _ _ => none) (fun k6 : Int32 → Int32 → Int32 → Int32 → Int32 → Int32 → Option Bool => ∀ (x0 : Int32) (x1 : Int32) (x2 : Int32) (x3 : Int32) (x4 : Int32) (x5 : Int32), k6 x0 x1 x2 x3 x4 x5 = some r → ∀ (H : Heap) (locs : List Loc) (ls : Array Slot), va_P D vwCl (w_X11_isOf cB cI cJ) H → va_D A (w_X11_isOf cB cI cJ) → va_S A s.heap H locs → lv_has ls 7 [(0, .int x0), (1, .int x1), (2, .int x2), (3, .int x3), (4, .int x4), (5, .int x5)] → W p l e rm_X11_isOf s m args below meth c H locs 0 0 Q (F0 m 6 ls [])) (by intro x0 x1 x2 x3 x4 x5 hf; exact wk_no hf) (by
    intro k6 ih6
    intro x0 x1 x2 x3 x4 x5 hf H locs ls hP hD hS hl
    have hf : B_X11_isOf_6 N k6 x0 x1 x2 x3 x4 x5 = some r := hf
    unfold B_X11_isOf_6 at hf
    refine lv_iload hx hb dX11_isOf_6 (lv_at hl 5 rfl) ?_
    refine lv_iconst (v := (5 : Int32)) hx hb dX11_isOf_8 (by decide) ?_
    refine lv_icmp_ge (tgt := 83) hx hb dX11_isOf_9 (by decide) (fun c1 => ?_) (fun c1 => ?_)
    · have hf := wk_itT hf c1
      refine lv_iload hx hb dX11_isOf_83 (lv_at hl 4 rfl) ?_
      obtain ⟨b2, hb2, hf⟩ := wk_b1E hf
      exact hret _ _ _ _ _ _ dX11_isOf_85 ((wk_zrT hb2).trans (wk_rt hf (fun z => wk_bI z))) rfl hP hD hS
    · have hf := wk_itF hf c1
      refine lv_iload_n hx hb dX11_isOf_12 rfl (lv_at hl 0 rfl) ?_
      refine lv_iconst (v := (3 : Int32)) hx hb dX11_isOf_13 (by decide) ?_
      refine lv_iload hx hb dX11_isOf_14 (lv_at hl 5 rfl) ?_
      refine lv_imul hx hb dX11_isOf_16 ?_
      refine lv_ishr hx hb dX11_isOf_17 ?_
      refine lv_bipush (v := (7 : Int32)) hx hb dX11_isOf_18 (by decide) ?_
      refine lv_iand hx hb dX11_isOf_20 ?_
      refine lv_topi (fun y3 ey3 => ?_)
      have hf := wk_nmE hf ey3
      refine lv_istore (lv' := [(6, .int y3), (0, .int x0), (1, .int x1), (2, .int x2), (3, .int x3), (4, .int x4), (5, .int x5)]) hx hb dX11_isOf_21 hl (by decide) rfl (fun ls hl => ?_)
      refine lv_iload hx hb dX11_isOf_23 (lv_at hl 5 rfl) ?_
      refine lv_if_eq (tgt := 74) hx hb dX11_isOf_25 (by decide) (fun c4 => ?_) (fun c4 => ?_)
      · have hf := wk_itT hf c4
        refine lv_iconst (v := (0 : Int32)) hx hb dX11_isOf_74 (by decide) ?_
        refine lv_istore (lv' := [(4, .int (0 : Int32)), (6, .int y3), (0, .int x0), (1, .int x1), (2, .int x2), (3, .int x3), (5, .int x5)]) hx hb dX11_isOf_75 hl (by decide) rfl (fun ls hl => ?_)
        obtain ⟨y5, ey5⟩ : ∃ y : Int32, y = x5 + (1 : Int32) := ⟨_, rfl⟩
        have hf := wk_nmE hf ey5
        refine lv_iinc (v := y5) (lv' := [(5, .int y5), (4, .int (0 : Int32)), (6, .int y3), (0, .int x0), (1, .int x1), (2, .int x2), (3, .int x3)]) hx hb dX11_isOf_77 hl (k := 6) rfl (by rw [ey5]; rfl) (by decide) rfl (fun ls hl => ?_)
        refine lv_goto (tgt := 6) hx hb dX11_isOf_80 (by decide) ?_
        exact ih6 _ _ _ _ _ _ hf _ _ _ hP hD hS (lv_sub hl [3, 4, 5, 6, 1, 0] rfl)
      · have hf := wk_itF hf c4
        refine lv_iload_n hx hb dX11_isOf_28 rfl (lv_at hl 3 rfl) ?_
        refine lv_iload hx hb dX11_isOf_29 (lv_at hl 6 rfl) ?_
        obtain ⟨r6, hc6, hf⟩ := wk_b1E hf
        refine wk_callSi2 C hP hD hS (c_X11_has l D cB cI cJ N x2 x5 hc6) (va_cwS 2 hts gX11_isOf_X11_has rfl rfl rfl hd_X11_has.2 ⟨Nat.le_of_ble_eq_true rfl, Nat.le_of_ble_eq_true rfl⟩) hl.1 ⟨Nat.zero_le _, Nat.zero_le _⟩ [] [] 0 (by decide +kernel) rfl (Wn := w_X11_isOf cB cI cJ) rfl rfl rfl rfl rfl rfl rfl rfl (Nat.le_of_ble_eq_true rfl) dX11_isOf_31 (fun H locs hP hD hS => ?_)
        refine lv_if_eq (tgt := 64) hx hb dX11_isOf_34 (by decide) (fun c7 => ?_) (fun c7 => ?_)
        · have hf := wk_itT hf c7
          refine lv_iload hx hb dX11_isOf_64 (lv_at hl 0 rfl) ?_
          refine lv_iload_n hx hb dX11_isOf_66 rfl (lv_at hl 4 rfl) ?_
          refine lv_icmp_ne (tgt := 74) hx hb dX11_isOf_67 (by decide) (fun c8 => ?_) (fun c8 => ?_)
          · have hf := wk_itF hf c8
            refine lv_iconst (v := (0 : Int32)) hx hb dX11_isOf_74 (by decide) ?_
            refine lv_istore (lv' := [(4, .int (0 : Int32)), (6, .int y3), (0, .int x0), (1, .int x1), (2, .int x2), (3, .int x3), (5, .int x5)]) hx hb dX11_isOf_75 hl (by decide) rfl (fun ls hl => ?_)
            obtain ⟨y9, ey9⟩ : ∃ y : Int32, y = x5 + (1 : Int32) := ⟨_, rfl⟩
            have hf := wk_nmE hf ey9
            refine lv_iinc (v := y9) (lv' := [(5, .int y9), (4, .int (0 : Int32)), (6, .int y3), (0, .int x0), (1, .int x1), (2, .int x2), (3, .int x3)]) hx hb dX11_isOf_77 hl (k := 6) rfl (by rw [ey9]; rfl) (by decide) rfl (fun ls hl => ?_)
            refine lv_goto (tgt := 6) hx hb dX11_isOf_80 (by decide) ?_
            exact ih6 _ _ _ _ _ _ hf _ _ _ hP hD hS (lv_sub hl [3, 4, 5, 6, 1, 0] rfl)
          · have hf := wk_itT hf c8
            refine lv_iconst (v := (1 : Int32)) hx hb dX11_isOf_70 (by decide) ?_
            refine lv_goto (tgt := 75) hx hb dX11_isOf_71 (by decide) ?_
            refine lv_istore (lv' := [(4, .int (1 : Int32)), (6, .int y3), (0, .int x0), (1, .int x1), (2, .int x2), (3, .int x3), (5, .int x5)]) hx hb dX11_isOf_75 hl (by decide) rfl (fun ls hl => ?_)
            obtain ⟨y10, ey10⟩ : ∃ y : Int32, y = x5 + (1 : Int32) := ⟨_, rfl⟩
            have hf := wk_nmE hf ey10
            refine lv_iinc (v := y10) (lv' := [(5, .int y10), (4, .int (1 : Int32)), (6, .int y3), (0, .int x0), (1, .int x1), (2, .int x2), (3, .int x3)]) hx hb dX11_isOf_77 hl (k := 6) rfl (by rw [ey10]; rfl) (by decide) rfl (fun ls hl => ?_)
            refine lv_goto (tgt := 6) hx hb dX11_isOf_80 (by decide) ?_
            exact ih6 _ _ _ _ _ _ hf _ _ _ hP hD hS (lv_sub hl [3, 4, 5, 6, 1, 0] rfl)
        · have hf := wk_itF hf c7
          refine lv_iload hx hb dX11_isOf_37 (lv_at hl 0 rfl) ?_
          refine lv_i2l (v := (y3.toInt64)) hx hb dX11_isOf_39 rfl ?_
          refine lv_lconst (v := (1 : Int64)) hx hb dX11_isOf_40 (by decide) ?_
          refine lv_ldc2 (v := (5 : Int64)) hx hb hown (hts (.constantLong RX11 157 (5)) (List.mem_of_getElem? (i := 1) rfl)) dX11_isOf_41 ?_
          obtain ⟨r11, hc11, hf⟩ := wk_b1E hf
          refine wk_callSi2 C hP hD hS (c_X11_in l D cB cI cJ N (y3.toInt64) (1 : Int64) (5 : Int64) hc11) (va_cwS 3 hts gX11_isOf_X11_in rfl rfl rfl hd_X11_in.2 ⟨Nat.le_of_ble_eq_true rfl, Nat.le_of_ble_eq_true rfl⟩) hl.1 ⟨Nat.zero_le _, Nat.zero_le _⟩ [] [] 0 (by decide +kernel) rfl (Wn := w_X11_isOf cB cI cJ) rfl rfl rfl rfl rfl rfl rfl rfl (Nat.le_of_ble_eq_true rfl) dX11_isOf_44 (fun H locs hP hD hS => ?_)
          refine lv_if_eq (tgt := 74) hx hb dX11_isOf_47 (by decide) (fun c12 => ?_) (fun c12 => ?_)
          · have hf := wk_itT hf c12
            refine lv_iconst (v := (0 : Int32)) hx hb dX11_isOf_74 (by decide) ?_
            refine lv_istore (lv' := [(4, .int (0 : Int32)), (6, .int y3), (0, .int x0), (1, .int x1), (2, .int x2), (3, .int x3), (5, .int x5)]) hx hb dX11_isOf_75 hl (by decide) rfl (fun ls hl => ?_)
            obtain ⟨y13, ey13⟩ : ∃ y : Int32, y = x5 + (1 : Int32) := ⟨_, rfl⟩
            have hf := wk_nmE hf ey13
            refine lv_iinc (v := y13) (lv' := [(5, .int y13), (4, .int (0 : Int32)), (6, .int y3), (0, .int x0), (1, .int x1), (2, .int x2), (3, .int x3)]) hx hb dX11_isOf_77 hl (k := 6) rfl (by rw [ey13]; rfl) (by decide) rfl (fun ls hl => ?_)
            refine lv_goto (tgt := 6) hx hb dX11_isOf_80 (by decide) ?_
            exact ih6 _ _ _ _ _ _ hf _ _ _ hP hD hS (lv_sub hl [3, 4, 5, 6, 1, 0] rfl)
          · have hf := wk_itF hf c12
            refine lv_iload_n hx hb dX11_isOf_50 rfl (lv_at hl 2 rfl) ?_
            refine lv_iload hx hb dX11_isOf_51 (lv_at hl 0 rfl) ?_
            refine lv_iconst (v := (1 : Int32)) hx hb dX11_isOf_53 (by decide) ?_
            refine lv_isub hx hb dX11_isOf_54 ?_
            obtain ⟨r14, hc14, hf⟩ := wk_b1E hf
            refine wk_callSi2 C hP hD hS (c_X11_has l D cB cI cJ N x1 (y3 - (1 : Int32)) hc14) (va_cwS 2 hts gX11_isOf_X11_has rfl rfl rfl hd_X11_has.2 ⟨Nat.le_of_ble_eq_true rfl, Nat.le_of_ble_eq_true rfl⟩) hl.1 ⟨Nat.zero_le _, Nat.zero_le _⟩ [] [] 0 (by decide +kernel) rfl (Wn := w_X11_isOf cB cI cJ) rfl rfl rfl rfl rfl rfl rfl rfl (Nat.le_of_ble_eq_true rfl) dX11_isOf_55 (fun H locs hP hD hS => ?_)
            refine lv_if_eq (tgt := 74) hx hb dX11_isOf_58 (by decide) (fun c15 => ?_) (fun c15 => ?_)
            · have hf := wk_itT hf c15
              refine lv_iconst (v := (0 : Int32)) hx hb dX11_isOf_74 (by decide) ?_
              refine lv_istore (lv' := [(4, .int (0 : Int32)), (6, .int y3), (0, .int x0), (1, .int x1), (2, .int x2), (3, .int x3), (5, .int x5)]) hx hb dX11_isOf_75 hl (by decide) rfl (fun ls hl => ?_)
              obtain ⟨y16, ey16⟩ : ∃ y : Int32, y = x5 + (1 : Int32) := ⟨_, rfl⟩
              have hf := wk_nmE hf ey16
              refine lv_iinc (v := y16) (lv' := [(5, .int y16), (4, .int (0 : Int32)), (6, .int y3), (0, .int x0), (1, .int x1), (2, .int x2), (3, .int x3)]) hx hb dX11_isOf_77 hl (k := 6) rfl (by rw [ey16]; rfl) (by decide) rfl (fun ls hl => ?_)
              refine lv_goto (tgt := 6) hx hb dX11_isOf_80 (by decide) ?_
              exact ih6 _ _ _ _ _ _ hf _ _ _ hP hD hS (lv_sub hl [3, 4, 5, 6, 1, 0] rfl)
            · have hf := wk_itF hf c15
              refine lv_goto (tgt := 70) hx hb dX11_isOf_61 (by decide) ?_
              refine lv_iconst (v := (1 : Int32)) hx hb dX11_isOf_70 (by decide) ?_
              refine lv_goto (tgt := 75) hx hb dX11_isOf_71 (by decide) ?_
              refine lv_istore (lv' := [(4, .int (1 : Int32)), (6, .int y3), (0, .int x0), (1, .int x1), (2, .int x2), (3, .int x3), (5, .int x5)]) hx hb dX11_isOf_75 hl (by decide) rfl (fun ls hl => ?_)
              obtain ⟨y17, ey17⟩ : ∃ y : Int32, y = x5 + (1 : Int32) := ⟨_, rfl⟩
              have hf := wk_nmE hf ey17
              refine lv_iinc (v := y17) (lv' := [(5, .int y17), (4, .int (1 : Int32)), (6, .int y3), (0, .int x0), (1, .int x1), (2, .int x2), (3, .int x3)]) hx hb dX11_isOf_77 hl (k := 6) rfl (by rw [ey17]; rfl) (by decide) rfl (fun ls hl => ?_)
              refine lv_goto (tgt := 6) hx hb dX11_isOf_80 (by decide) ?_
              exact ih6 _ _ _ _ _ _ hf _ _ _ hP hD hS (lv_sub hl [3, 4, 5, 6, 1, 0] rfl))
  unfold f_X11_isOf at hf
  refine lv_iconst (v := (1 : Int32)) hx hb dX11_isOf_0 (by decide) ?_
  refine lv_istore (lv' := [(4, .int (1 : Int32)), (0, .int x0), (1, .int x1), (2, .int x2), (3, .int x3)]) hx hb dX11_isOf_1 hl (by decide) rfl (fun ls hl => ?_)
  refine lv_iconst (v := (0 : Int32)) hx hb dX11_isOf_3 (by decide) ?_
  refine lv_istore (lv' := [(5, .int (0 : Int32)), (4, .int (1 : Int32)), (0, .int x0), (1, .int x1), (2, .int x2), (3, .int x3)]) hx hb dX11_isOf_4 hl (by decide) rfl (fun ls hl => ?_)
  exact L6 N _ _ _ _ _ _ hf _ _ _ hP hD hS (lv_sub hl [2, 3, 4, 5, 1, 0] rfl)
abbrev w_X11_byRule (cB cI cJ : ClassId) (a_this : Nat) (a_cards : Nat) (a_county : Nat) (a_holes : Nat) (a_text : Nat) (a_letter : Nat) (a_where : Nat) (a_rank : Nat) (a_value : Nat) (a_hour : Nat) (a_readLetter : Nat) (a_readWhere : Nat) (a_readRank : Nat) (a_readValue : Nat) (a_readHour : Nat) (a_listName : Nat) (a_listDay : Nat) (a_voterName : Nat) (a_voterDay : Nat) (a_voterCounty : Nat) (a_heaps : Nat) (a_speed : Nat) (a_four : Nat) (a_byRules : Nat) (a_hours : Nat) (a_rest : Nat) (a_yet : Nat) (a_put : Nat) (v_kept : Int32) (v_length : Int32) (v_items : Int32) (v_readItems : Int32) (v_at : Int32) (v_lists : Int32) (v_voters : Int32) (v_needed : Int32) (v_byRules : Nat → Int32) (v_cards : Nat → Int32) (v_county : Nat → Int32) (v_four : Nat → Int32) (v_holes : Nat → Int32) : va_W := [(a_this, .inr (11, [.ref a_cards, .ref a_county, .ref a_holes, .int v_kept, .int v_length, .ref a_text, .int v_items, .ref a_letter, .ref a_where, .ref a_rank, .ref a_value, .ref a_hour, .int v_readItems, .ref a_readLetter, .ref a_readWhere, .ref a_readRank, .ref a_readValue, .ref a_readHour, .int v_at, .int v_lists, .ref a_listName, .ref a_listDay, .int v_voters, .ref a_voterName, .ref a_voterDay, .ref a_voterCounty, .int v_needed, .ref a_heaps, .ref a_speed, .ref a_four, .ref a_byRules, .ref a_hours, .ref a_rest, .ref a_yet, .ref a_put])), (a_byRules, .inl (cI, 120, .inl v_byRules)), (a_cards, .inl (cI, 3, .inl v_cards)), (a_county, .inl (cI, 120, .inl v_county)), (a_four, .inl (cI, 4, .inl v_four)), (a_holes, .inl (cI, 1440, .inl v_holes))]
theorem hd_X11_byRule : yX11_byRule.cls = RX11 ∧ yX11_byRule.cls ≠ "java/lang/invoke/MethodHandle" ∧ yX11_byRule.cls ≠ "java/lang/invoke/VarHandle" ∧ (parseMethodDescriptor yX11_byRule.desc).map (fun d => d.parameters.length) = some 2 := by decide +kernel
abbrev rm_X11_byRule : Room := { frames := 2, cells := 0, slots := 0, locals := 52 }
set_option maxHeartbeats 4000000 in
set_option maxRecDepth 100000 in
theorem c_X11_byRule (l : Launch) (D : va_G) (cB cI cJ : ClassId) (N : Nat) (a_this : Nat) (a_cards : Nat) (a_county : Nat) (a_holes : Nat) (a_text : Nat) (a_letter : Nat) (a_where : Nat) (a_rank : Nat) (a_value : Nat) (a_hour : Nat) (a_readLetter : Nat) (a_readWhere : Nat) (a_readRank : Nat) (a_readValue : Nat) (a_readHour : Nat) (a_listName : Nat) (a_listDay : Nat) (a_voterName : Nat) (a_voterDay : Nat) (a_voterCounty : Nat) (a_heaps : Nat) (a_speed : Nat) (a_four : Nat) (a_byRules : Nat) (a_hours : Nat) (a_rest : Nat) (a_yet : Nat) (a_put : Nat) (v_kept : Int32) (v_length : Int32) (v_items : Int32) (v_readItems : Int32) (v_at : Int32) (v_lists : Int32) (v_voters : Int32) (v_needed : Int32) (v_byRules : Nat → Int32) (v_cards : Nat → Int32) (v_county : Nat → Int32) (v_four : Nat → Int32) (v_holes : Nat → Int32) (x1 : Int32) (x2 : Int32) {r : Int32} {o_byRules : Nat → Int32} {o_four : Nat → Int32} (hf : f_X11_byRule N v_cards v_county v_holes v_byRules v_four x1 x2 = some (r, o_byRules, o_four)) : MTi l yX11_byRule wsX11_byRule rm_X11_byRule D (wk_T cB cI cJ) [.ref a_this, .int x1, .int x2] (w_X11_byRule cB cI cJ a_this a_cards a_county a_holes a_text a_letter a_where a_rank a_value a_hour a_readLetter a_readWhere a_readRank a_readValue a_readHour a_listName a_listDay a_voterName a_voterDay a_voterCounty a_heaps a_speed a_four a_byRules a_hours a_rest a_yet a_put v_kept v_length v_items v_readItems v_at v_lists v_voters v_needed v_byRules v_cards v_county v_four v_holes) (w_X11_byRule cB cI cJ a_this a_cards a_county a_holes a_text a_letter a_where a_rank a_value a_hour a_readLetter a_readWhere a_readRank a_readValue a_readHour a_listName a_listDay a_voterName a_voterDay a_voterCounty a_heaps a_speed a_four a_byRules a_hours a_rest a_yet a_put v_kept v_length v_items v_readItems v_at v_lists v_voters v_needed o_byRules v_cards v_county o_four v_holes) r := by
  refine MTi.of (cc := cX11_byRule) (nL := 3) (rt := .int) (own := RX11) pn_X11 rfl rfl (Nat.le_of_ble_eq_true rfl) rfl ?_
  intro p e s m args below meth c A ls Q C hP hD hS hl hret
  obtain ⟨hx, hb, hml, hts, hown, hK, hN, hA, hlk⟩ := id C
  have hl : lv_has ls 3 [(0, .ref a_this), (1, .int x1), (2, .int x2)] := hl
  unfold f_X11_byRule at hf
  refine lv_iload_n hx hb dX11_byRule_0 rfl (lv_at hl 1 rfl) ?_
  refine lv_i2l (v := (x1.toInt64)) hx hb dX11_byRule_1 rfl ?_
  refine lv_lconst (v := (0 : Int64)) hx hb dX11_byRule_2 (by decide) ?_
  refine lv_ldc2 (v := (2 : Int64)) hx hb hown (hts (.constantLong RX11 115 (2)) (List.mem_of_getElem? (i := 1) rfl)) dX11_byRule_3 ?_
  obtain ⟨r1, hc1, hf⟩ := wk_b1E hf
  refine wk_callSi2 C hP hD hS (c_X11_in l D cB cI cJ N (x1.toInt64) (0 : Int64) (2 : Int64) hc1) (va_cwS 3 hts gX11_byRule_X11_in rfl rfl rfl hd_X11_in.2 ⟨Nat.le_of_ble_eq_true rfl, Nat.le_of_ble_eq_true rfl⟩) hl.1 ⟨Nat.zero_le _, Nat.zero_le _⟩ [] [0, 1, 2, 3, 4, 5] 6 (by decide +kernel) rfl (Wn := w_X11_byRule cB cI cJ a_this a_cards a_county a_holes a_text a_letter a_where a_rank a_value a_hour a_readLetter a_readWhere a_readRank a_readValue a_readHour a_listName a_listDay a_voterName a_voterDay a_voterCounty a_heaps a_speed a_four a_byRules a_hours a_rest a_yet a_put v_kept v_length v_items v_readItems v_at v_lists v_voters v_needed v_byRules v_cards v_county v_four v_holes) rfl rfl rfl rfl rfl rfl rfl rfl (Nat.le_of_ble_eq_true rfl) dX11_byRule_6 (fun H locs hP hD hS => ?_)
  refine lv_if_eq (tgt := 24) hx hb dX11_byRule_9 (by decide) (fun c2 => ?_) (fun c2 => ?_)
  · have hf := wk_itT hf c2
    refine lv_iconst (v := (-1 : Int32)) hx hb dX11_byRule_24 (by decide) ?_
    exact hret _ _ _ _ _ _ dX11_byRule_25 (wk_rt hf (fun z => z.1)) (wk_rt hf (fun z => w_X11_byRule cB cI cJ a_this a_cards a_county a_holes a_text a_letter a_where a_rank a_value a_hour a_readLetter a_readWhere a_readRank a_readValue a_readHour a_listName a_listDay a_voterName a_voterDay a_voterCounty a_heaps a_speed a_four a_byRules a_hours a_rest a_yet a_put v_kept v_length v_items v_readItems v_at v_lists v_voters v_needed (z.2.1) v_cards v_county (z.2.2) v_holes)) hP hD hS
  · have hf := wk_itF hf c2
    refine lv_iload_n hx hb dX11_byRule_12 rfl (lv_at hl 2 rfl) ?_
    refine lv_i2l (v := (x2.toInt64)) hx hb dX11_byRule_13 rfl ?_
    refine lv_lconst (v := (1 : Int64)) hx hb dX11_byRule_14 (by decide) ?_
    refine lv_ldc2 (v := (5 : Int64)) hx hb hown (hts (.constantLong RX11 157 (5)) (List.mem_of_getElem? (i := 2) rfl)) dX11_byRule_15 ?_
    obtain ⟨r3, hc3, hf⟩ := wk_b1E hf
    refine wk_callSi2 C hP hD hS (c_X11_in l D cB cI cJ N (x2.toInt64) (1 : Int64) (5 : Int64) hc3) (va_cwS 3 hts gX11_byRule_X11_in rfl rfl rfl hd_X11_in.2 ⟨Nat.le_of_ble_eq_true rfl, Nat.le_of_ble_eq_true rfl⟩) hl.1 ⟨Nat.zero_le _, Nat.zero_le _⟩ [] [0, 1, 2, 3, 4, 5] 6 (by decide +kernel) rfl (Wn := w_X11_byRule cB cI cJ a_this a_cards a_county a_holes a_text a_letter a_where a_rank a_value a_hour a_readLetter a_readWhere a_readRank a_readValue a_readHour a_listName a_listDay a_voterName a_voterDay a_voterCounty a_heaps a_speed a_four a_byRules a_hours a_rest a_yet a_put v_kept v_length v_items v_readItems v_at v_lists v_voters v_needed v_byRules v_cards v_county v_four v_holes) rfl rfl rfl rfl rfl rfl rfl rfl (Nat.le_of_ble_eq_true rfl) dX11_byRule_18 (fun H locs hP hD hS => ?_)
    refine lv_if_ne (tgt := 26) hx hb dX11_byRule_21 (by decide) (fun c4 => ?_) (fun c4 => ?_)
    · have hf := wk_itF hf c4
      refine lv_aload_n hx hb dX11_byRule_26 rfl (lv_at hl 0 rfl) ?_
      refine lv_iload_n hx hb dX11_byRule_27 rfl (lv_at hl 1 rfl) ?_
      obtain ⟨o5_0, hc5, hf⟩ := wk_b1E hf
      refine wk_callVv2 C hP hD hS (c_X11_counts l D cB cI cJ N a_this a_cards a_county a_holes a_text a_letter a_where a_rank a_value a_hour a_readLetter a_readWhere a_readRank a_readValue a_readHour a_listName a_listDay a_voterName a_voterDay a_voterCounty a_heaps a_speed a_four a_byRules a_hours a_rest a_yet a_put v_kept v_length v_items v_readItems v_at v_lists v_voters v_needed v_byRules v_cards v_county v_holes x1 hc5) (cwV 1 hts gX11_byRule_X11_counts rfl rfl rfl hd_X11_counts ⟨Nat.le_of_ble_eq_true rfl, Nat.le_of_ble_eq_true rfl⟩) hl.1 ⟨Nat.zero_le _, Nat.zero_le _⟩ [0, 1, 2, 3, 5] [4] 6 (by decide +kernel) rfl (Wn := w_X11_byRule cB cI cJ a_this a_cards a_county a_holes a_text a_letter a_where a_rank a_value a_hour a_readLetter a_readWhere a_readRank a_readValue a_readHour a_listName a_listDay a_voterName a_voterDay a_voterCounty a_heaps a_speed a_four a_byRules a_hours a_rest a_yet a_put v_kept v_length v_items v_readItems v_at v_lists v_voters v_needed o5_0 v_cards v_county v_four v_holes) rfl rfl rfl rfl rfl rfl (ci := 11) rfl rfl (q0 := 0) rfl rfl rfl (Nat.le_of_ble_eq_true rfl) dX11_byRule_28 (fun H locs hP hD hS => ?_)
      refine lv_aload_n hx hb dX11_byRule_31 rfl (lv_at hl 0 rfl) ?_
      refine lv_iload_n hx hb dX11_byRule_32 rfl (lv_at hl 2 rfl) ?_
      refine lv_sipush (v := (4681 : Int32)) hx hb dX11_byRule_33 (by decide) ?_
      refine lv_imul hx hb dX11_byRule_36 ?_
      obtain ⟨o6_0, hc6, hf⟩ := wk_b1E hf
      refine wk_callVv2 C hP hD hS (c_X11_mixes l D cB cI cJ N a_this a_cards a_county a_holes a_text a_letter a_where a_rank a_value a_hour a_readLetter a_readWhere a_readRank a_readValue a_readHour a_listName a_listDay a_voterName a_voterDay a_voterCounty a_heaps a_speed a_four a_byRules a_hours a_rest a_yet a_put v_kept v_length v_items v_readItems v_at v_lists v_voters v_needed o5_0 v_four (x2 * (4681 : Int32)) hc6) (cwV 1 hts gX11_byRule_X11_mixes rfl rfl rfl hd_X11_mixes ⟨Nat.le_of_ble_eq_true rfl, Nat.le_of_ble_eq_true rfl⟩) hl.1 ⟨Nat.zero_le _, Nat.zero_le _⟩ [0, 1, 4] [2, 3, 5] 6 (by decide +kernel) rfl (Wn := w_X11_byRule cB cI cJ a_this a_cards a_county a_holes a_text a_letter a_where a_rank a_value a_hour a_readLetter a_readWhere a_readRank a_readValue a_readHour a_listName a_listDay a_voterName a_voterDay a_voterCounty a_heaps a_speed a_four a_byRules a_hours a_rest a_yet a_put v_kept v_length v_items v_readItems v_at v_lists v_voters v_needed o5_0 v_cards v_county o6_0 v_holes) rfl rfl rfl rfl rfl rfl (ci := 11) rfl rfl (q0 := 0) rfl rfl rfl (Nat.le_of_ble_eq_true rfl) dX11_byRule_37 (fun H locs hP hD hS => ?_)
      refine lv_aload_n hx hb dX11_byRule_40 rfl (lv_at hl 0 rfl) ?_
      obtain ⟨r7, hc7, hf⟩ := wk_b1E hf
      refine wk_callVi2 C hP hD hS (c_X11_most l D cB cI cJ N a_this a_cards a_county a_holes a_text a_letter a_where a_rank a_value a_hour a_readLetter a_readWhere a_readRank a_readValue a_readHour a_listName a_listDay a_voterName a_voterDay a_voterCounty a_heaps a_speed a_four a_byRules a_hours a_rest a_yet a_put v_kept v_length v_items v_readItems v_at v_lists v_voters v_needed o6_0 hc7) (cwV 0 hts gX11_byRule_X11_most rfl rfl rfl hd_X11_most ⟨Nat.le_of_ble_eq_true rfl, Nat.le_of_ble_eq_true rfl⟩) hl.1 ⟨Nat.zero_le _, Nat.zero_le _⟩ [0, 4] [1, 2, 3, 5] 6 (by decide +kernel) rfl (Wn := w_X11_byRule cB cI cJ a_this a_cards a_county a_holes a_text a_letter a_where a_rank a_value a_hour a_readLetter a_readWhere a_readRank a_readValue a_readHour a_listName a_listDay a_voterName a_voterDay a_voterCounty a_heaps a_speed a_four a_byRules a_hours a_rest a_yet a_put v_kept v_length v_items v_readItems v_at v_lists v_voters v_needed o5_0 v_cards v_county o6_0 v_holes) rfl rfl rfl rfl rfl rfl (ci := 11) rfl rfl (q0 := 0) rfl rfl rfl (Nat.le_of_ble_eq_true rfl) dX11_byRule_41 (fun H locs hP hD hS => ?_)
      exact hret _ _ _ _ _ _ dX11_byRule_44 (wk_rt hf (fun z => z.1)) (wk_rt hf (fun z => w_X11_byRule cB cI cJ a_this a_cards a_county a_holes a_text a_letter a_where a_rank a_value a_hour a_readLetter a_readWhere a_readRank a_readValue a_readHour a_listName a_listDay a_voterName a_voterDay a_voterCounty a_heaps a_speed a_four a_byRules a_hours a_rest a_yet a_put v_kept v_length v_items v_readItems v_at v_lists v_voters v_needed (z.2.1) v_cards v_county (z.2.2) v_holes)) hP hD hS
    · have hf := wk_itT hf c4
      refine lv_iconst (v := (-1 : Int32)) hx hb dX11_byRule_24 (by decide) ?_
      exact hret _ _ _ _ _ _ dX11_byRule_25 (wk_rt hf (fun z => z.1)) (wk_rt hf (fun z => w_X11_byRule cB cI cJ a_this a_cards a_county a_holes a_text a_letter a_where a_rank a_value a_hour a_readLetter a_readWhere a_readRank a_readValue a_readHour a_listName a_listDay a_voterName a_voterDay a_voterCounty a_heaps a_speed a_four a_byRules a_hours a_rest a_yet a_put v_kept v_length v_items v_readItems v_at v_lists v_voters v_needed (z.2.1) v_cards v_county (z.2.2) v_holes)) hP hD hS
abbrev w_X11_mixed (cB cI cJ : ClassId) (a_this : Nat) (a_cards : Nat) (a_county : Nat) (a_holes : Nat) (a_text : Nat) (a_letter : Nat) (a_where : Nat) (a_rank : Nat) (a_value : Nat) (a_hour : Nat) (a_readLetter : Nat) (a_readWhere : Nat) (a_readRank : Nat) (a_readValue : Nat) (a_readHour : Nat) (a_listName : Nat) (a_listDay : Nat) (a_voterName : Nat) (a_voterDay : Nat) (a_voterCounty : Nat) (a_heaps : Nat) (a_speed : Nat) (a_four : Nat) (a_byRules : Nat) (a_hours : Nat) (a_rest : Nat) (a_yet : Nat) (a_put : Nat) (v_kept : Int32) (v_length : Int32) (v_items : Int32) (v_readItems : Int32) (v_at : Int32) (v_lists : Int32) (v_voters : Int32) (v_needed : Int32) (v_byRules : Nat → Int32) (v_cards : Nat → Int32) (v_county : Nat → Int32) (v_four : Nat → Int32) (v_holes : Nat → Int32) : va_W := [(a_this, .inr (11, [.ref a_cards, .ref a_county, .ref a_holes, .int v_kept, .int v_length, .ref a_text, .int v_items, .ref a_letter, .ref a_where, .ref a_rank, .ref a_value, .ref a_hour, .int v_readItems, .ref a_readLetter, .ref a_readWhere, .ref a_readRank, .ref a_readValue, .ref a_readHour, .int v_at, .int v_lists, .ref a_listName, .ref a_listDay, .int v_voters, .ref a_voterName, .ref a_voterDay, .ref a_voterCounty, .int v_needed, .ref a_heaps, .ref a_speed, .ref a_four, .ref a_byRules, .ref a_hours, .ref a_rest, .ref a_yet, .ref a_put])), (a_byRules, .inl (cI, 120, .inl v_byRules)), (a_cards, .inl (cI, 3, .inl v_cards)), (a_county, .inl (cI, 120, .inl v_county)), (a_four, .inl (cI, 4, .inl v_four)), (a_holes, .inl (cI, 1440, .inl v_holes))]
theorem hd_X11_mixed : yX11_mixed.cls = RX11 ∧ yX11_mixed.cls ≠ "java/lang/invoke/MethodHandle" ∧ yX11_mixed.cls ≠ "java/lang/invoke/VarHandle" ∧ (parseMethodDescriptor yX11_mixed.desc).map (fun d => d.parameters.length) = some 3 := by decide +kernel
abbrev rm_X11_mixed : Room := { frames := 2, cells := 0, slots := 0, locals := 52 }
theorem in_X11_mixed_X11 : ∀ w ∈ wsX110, w ∈ wsX11_mixed := fun w h => List.mem_cons_of_mem _ (List.mem_append_right _ h)
set_option maxHeartbeats 4000000 in
set_option maxRecDepth 100000 in
theorem c_X11_mixed (l : Launch) (D : va_G) (cB cI cJ : ClassId) (N : Nat) (a_this : Nat) (a_cards : Nat) (a_county : Nat) (a_holes : Nat) (a_text : Nat) (a_letter : Nat) (a_where : Nat) (a_rank : Nat) (a_value : Nat) (a_hour : Nat) (a_readLetter : Nat) (a_readWhere : Nat) (a_readRank : Nat) (a_readValue : Nat) (a_readHour : Nat) (a_listName : Nat) (a_listDay : Nat) (a_voterName : Nat) (a_voterDay : Nat) (a_voterCounty : Nat) (a_heaps : Nat) (a_speed : Nat) (a_four : Nat) (a_byRules : Nat) (a_hours : Nat) (a_rest : Nat) (a_yet : Nat) (a_put : Nat) (v_kept : Int32) (v_length : Int32) (v_items : Int32) (v_readItems : Int32) (v_at : Int32) (v_lists : Int32) (v_voters : Int32) (v_needed : Int32) (v_byRules : Nat → Int32) (v_cards : Nat → Int32) (v_county : Nat → Int32) (v_four : Nat → Int32) (v_holes : Nat → Int32) (x1 : Int32) (x2 : Int32) (x3 : Int32) {r : Int32} {o_byRules : Nat → Int32} {o_four : Nat → Int32} (hf : f_X11_mixed N v_cards v_county v_holes v_byRules v_four x1 x2 x3 = some (r, o_byRules, o_four)) : MTi l yX11_mixed wsX11_mixed rm_X11_mixed D (wk_T cB cI cJ) [.ref a_this, .int x1, .int x2, .int x3] (w_X11_mixed cB cI cJ a_this a_cards a_county a_holes a_text a_letter a_where a_rank a_value a_hour a_readLetter a_readWhere a_readRank a_readValue a_readHour a_listName a_listDay a_voterName a_voterDay a_voterCounty a_heaps a_speed a_four a_byRules a_hours a_rest a_yet a_put v_kept v_length v_items v_readItems v_at v_lists v_voters v_needed v_byRules v_cards v_county v_four v_holes) (w_X11_mixed cB cI cJ a_this a_cards a_county a_holes a_text a_letter a_where a_rank a_value a_hour a_readLetter a_readWhere a_readRank a_readValue a_readHour a_listName a_listDay a_voterName a_voterDay a_voterCounty a_heaps a_speed a_four a_byRules a_hours a_rest a_yet a_put v_kept v_length v_items v_readItems v_at v_lists v_voters v_needed o_byRules v_cards v_county o_four v_holes) r := by
  refine MTi.of (cc := cX11_mixed) (nL := 10) (rt := .int) (own := RX11) pn_X11 rfl rfl (Nat.le_of_ble_eq_true rfl) rfl ?_
  intro p e s m args below meth c A ls Q C hP hD hS hl hret
  obtain ⟨hx, hb, hml, hts, hown, hK, hN, hA, hlk⟩ := id C
  have hl : lv_has ls 10 [(0, .ref a_this), (1, .int x1), (2, .int x2), (3, .int x3)] := hl
  have L58 := wk_loopI (F := (fun k58 : (Nat → Int32) → (Nat → Int32) → Int32 → Int32 → Int32 → Int32 → Int32 → Option (Int32 × (Nat → Int32) × (Nat → Int32)) => B_X11_mixed_58 N v_cards v_county v_holes k58)) (bot := fun _ _ _ _ _ _ _ => none) (fun k58 : (Nat → Int32) → (Nat → Int32) → Int32 → Int32 → Int32 → Int32 → Int32 → Option (Int32 × (Nat → Int32) × (Nat → Int32)) => ∀ (v_byRules : Nat → Int32) (v_four : Nat → Int32) (x2 : Int32) (x3 : Int32) (x4 : Int32) (x5 : Int32) (x6 : Int32), k58 v_byRules v_four x2 x3 x4 x5 x6 = some (r, o_byRules, o_four) → ∀ (H : Heap) (locs : List Loc) (ls : Array Slot), va_P D vwCl (w_X11_mixed cB cI cJ a_this a_cards a_county a_holes a_text a_letter a_where a_rank a_value a_hour a_readLetter a_readWhere a_readRank a_readValue a_readHour a_listName a_listDay a_voterName a_voterDay a_voterCounty a_heaps a_speed a_four a_byRules a_hours a_rest a_yet a_put v_kept v_length v_items v_readItems v_at v_lists v_voters v_needed v_byRules v_cards v_county v_four v_holes) H → va_D A (w_X11_mixed cB cI cJ a_this a_cards a_county a_holes a_text a_letter a_where a_rank a_value a_hour a_readLetter a_readWhere a_readRank a_readValue a_readHour a_listName a_listDay a_voterName a_voterDay a_voterCounty a_heaps a_speed a_four a_byRules a_hours a_rest a_yet a_put v_kept v_length v_items v_readItems v_at v_lists v_voters v_needed v_byRules v_cards v_county v_four v_holes) → va_S A s.heap H locs → lv_has ls 10 [(0, .ref a_this), (2, .int x2), (3, .int x3), (4, .int x4), (5, .int x5), (6, .int x6)] → W p l e rm_X11_mixed s m args below meth c H locs 0 0 Q (F0 m 58 ls [])) (by intro v_byRules v_four x2 x3 x4 x5 x6 hf; exact wk_no hf) (by
    intro k58 ih58
    have J181 : ∀ (v_byRules : Nat → Int32) (v_four : Nat → Int32) (x2 : Int32) (x3 : Int32) (x4 : Int32) (x5 : Int32) (x6 : Int32) (s0 : Int32), B_X11_mixed_181 N v_cards v_county v_holes k58 v_byRules v_four x2 x3 x4 x5 x6 s0 = some (r, o_byRules, o_four) → ∀ (H : Heap) (locs : List Loc) (ls : Array Slot), va_P D vwCl (w_X11_mixed cB cI cJ a_this a_cards a_county a_holes a_text a_letter a_where a_rank a_value a_hour a_readLetter a_readWhere a_readRank a_readValue a_readHour a_listName a_listDay a_voterName a_voterDay a_voterCounty a_heaps a_speed a_four a_byRules a_hours a_rest a_yet a_put v_kept v_length v_items v_readItems v_at v_lists v_voters v_needed v_byRules v_cards v_county v_four v_holes) H → va_D A (w_X11_mixed cB cI cJ a_this a_cards a_county a_holes a_text a_letter a_where a_rank a_value a_hour a_readLetter a_readWhere a_readRank a_readValue a_readHour a_listName a_listDay a_voterName a_voterDay a_voterCounty a_heaps a_speed a_four a_byRules a_hours a_rest a_yet a_put v_kept v_length v_items v_readItems v_at v_lists v_voters v_needed v_byRules v_cards v_county v_four v_holes) → va_S A s.heap H locs → lv_has ls 10 [(0, .ref a_this), (2, .int x2), (3, .int x3), (4, .int x4), (5, .int x5), (6, .int x6)] → W p l e rm_X11_mixed s m args below meth c H locs 0 0 Q (F0 m 181 ls [.int s0]) := by
      intro v_byRules v_four x2 x3 x4 x5 x6 s0 hf H locs ls hP hD hS hl
      unfold B_X11_mixed_181 at hf
      refine lv_istore (lv' := [(9, .int s0), (0, .ref a_this), (2, .int x2), (3, .int x3), (4, .int x4), (5, .int x5), (6, .int x6)]) hx hb dX11_mixed_181 hl (by decide) rfl (fun ls hl => ?_)
      refine lv_iload hx hb dX11_mixed_183 (lv_at hl 0 rfl) ?_
      refine lv_iload hx hb dX11_mixed_185 (lv_at hl 5 rfl) ?_
      refine lv_icmp_le (tgt := 195) hx hb dX11_mixed_187 (by decide) (fun c1 => ?_) (fun c1 => ?_)
      · have hf := wk_itT hf c1
        refine lv_iload hx hb dX11_mixed_195 (lv_at hl 5 rfl) ?_
        refine lv_istore (lv' := [(5, .int x5), (9, .int s0), (0, .ref a_this), (2, .int x2), (3, .int x3), (4, .int x4), (6, .int x6)]) hx hb dX11_mixed_197 hl (by decide) rfl (fun ls hl => ?_)
        obtain ⟨y2, ey2⟩ : ∃ y : Int32, y = x6 + (1 : Int32) := ⟨_, rfl⟩
        have hf := wk_nmE hf ey2
        refine lv_iinc (v := y2) (lv' := [(6, .int y2), (5, .int x5), (9, .int s0), (0, .ref a_this), (2, .int x2), (3, .int x3), (4, .int x4)]) hx hb dX11_mixed_199 hl (k := 6) rfl (by rw [ey2]; rfl) (by decide) rfl (fun ls hl => ?_)
        refine lv_goto (tgt := 58) hx hb dX11_mixed_202 (by decide) ?_
        exact ih58 _ _ _ _ _ _ _ hf _ _ _ hP hD hS (lv_sub hl [3, 4, 5, 6, 1, 0] rfl)
      · have hf := wk_itF hf c1
        refine lv_iload hx hb dX11_mixed_190 (lv_at hl 0 rfl) ?_
        refine lv_goto (tgt := 197) hx hb dX11_mixed_192 (by decide) ?_
        refine lv_istore (lv' := [(5, .int s0), (9, .int s0), (0, .ref a_this), (2, .int x2), (3, .int x3), (4, .int x4), (6, .int x6)]) hx hb dX11_mixed_197 hl (by decide) rfl (fun ls hl => ?_)
        obtain ⟨y3, ey3⟩ : ∃ y : Int32, y = x6 + (1 : Int32) := ⟨_, rfl⟩
        have hf := wk_nmE hf ey3
        refine lv_iinc (v := y3) (lv' := [(6, .int y3), (5, .int s0), (9, .int s0), (0, .ref a_this), (2, .int x2), (3, .int x3), (4, .int x4)]) hx hb dX11_mixed_199 hl (k := 6) rfl (by rw [ey3]; rfl) (by decide) rfl (fun ls hl => ?_)
        refine lv_goto (tgt := 58) hx hb dX11_mixed_202 (by decide) ?_
        exact ih58 _ _ _ _ _ _ _ hf _ _ _ hP hD hS (lv_sub hl [3, 4, 5, 6, 1, 0] rfl)
    have J164 : ∀ (v_byRules : Nat → Int32) (v_four : Nat → Int32) (x2 : Int32) (x3 : Int32) (x4 : Int32) (x5 : Int32) (x6 : Int32) (x8 : Int32), B_X11_mixed_164 N v_cards v_county v_holes k58 v_byRules v_four x2 x3 x4 x5 x6 x8 = some (r, o_byRules, o_four) → ∀ (H : Heap) (locs : List Loc) (ls : Array Slot), va_P D vwCl (w_X11_mixed cB cI cJ a_this a_cards a_county a_holes a_text a_letter a_where a_rank a_value a_hour a_readLetter a_readWhere a_readRank a_readValue a_readHour a_listName a_listDay a_voterName a_voterDay a_voterCounty a_heaps a_speed a_four a_byRules a_hours a_rest a_yet a_put v_kept v_length v_items v_readItems v_at v_lists v_voters v_needed v_byRules v_cards v_county v_four v_holes) H → va_D A (w_X11_mixed cB cI cJ a_this a_cards a_county a_holes a_text a_letter a_where a_rank a_value a_hour a_readLetter a_readWhere a_readRank a_readValue a_readHour a_listName a_listDay a_voterName a_voterDay a_voterCounty a_heaps a_speed a_four a_byRules a_hours a_rest a_yet a_put v_kept v_length v_items v_readItems v_at v_lists v_voters v_needed v_byRules v_cards v_county v_four v_holes) → va_S A s.heap H locs → lv_has ls 10 [(0, .ref a_this), (2, .int x2), (3, .int x3), (4, .int x4), (5, .int x5), (6, .int x6), (8, .int x8)] → W p l e rm_X11_mixed s m args below meth c H locs 0 0 Q (F0 m 164 ls []) := by
      intro v_byRules v_four x2 x3 x4 x5 x6 x8 hf H locs ls hP hD hS hl
      unfold B_X11_mixed_164 at hf
      refine lv_iload_n hx hb dX11_mixed_164 rfl (lv_at hl 2 rfl) ?_
      refine lv_if_ge (tgt := 172) hx hb dX11_mixed_165 (by decide) (fun c4 => ?_) (fun c4 => ?_)
      · have hf := wk_itT hf c4
        refine lv_aload_n hx hb dX11_mixed_172 rfl (lv_at hl 0 rfl) ?_
        refine va_get (D := D) (ci := 11) (v := .ref a_four) (C := RX11) (T := TX11) (N := 35) hx hb hts in_X11_mixed_X11 hown hK hP 0 rfl rfl 29 (by decide) (hts (.fieldLink RX11 79 "HangingCardsModel" "four" "[I") (List.mem_of_getElem? (i := 6) rfl)) (fun _ h9 => h9) rfl dX11_mixed_173 ?_
        refine lv_iload_n hx hb dX11_mixed_176 rfl (lv_at hl 2 rfl) ?_
        obtain ⟨hi5, hf⟩ := wk_ckE hf
        refine va_iald hx hb hK hP 4 0 rfl rfl hi5 dX11_mixed_177 ?_
        refine lv_iload hx hb dX11_mixed_178 (lv_at hl 6 rfl) ?_
        refine lv_isub hx hb dX11_mixed_180 ?_
        exact J181 _ _ _ _ _ _ _ _ hf _ _ _ hP hD hS (lv_sub hl [0, 1, 2, 3, 4, 5] rfl)
      · have hf := wk_itF hf c4
        refine lv_iconst (v := (0 : Int32)) hx hb dX11_mixed_168 (by decide) ?_
        refine lv_goto (tgt := 181) hx hb dX11_mixed_169 (by decide) ?_
        exact J181 _ _ _ _ _ _ _ _ hf _ _ _ hP hD hS (lv_sub hl [0, 1, 2, 3, 4, 5] rfl)
    have L116 := wk_loopI (F := (fun k116 : (Nat → Int32) → (Nat → Int32) → Int32 → Int32 → Int32 → Int32 → Int32 → Int32 → Int32 → Option (Int32 × (Nat → Int32) × (Nat → Int32)) => B_X11_mixed_116 N v_cards v_county v_holes k58 k116)) (bot := fun _ _ _ _ _ _ _ _ _ => none) (fun k116 : (Nat → Int32) → (Nat → Int32) → Int32 → Int32 → Int32 → Int32 → Int32 → Int32 → Int32 → Option (Int32 × (Nat → Int32) × (Nat → Int32)) => ∀ (v_byRules : Nat → Int32) (v_four : Nat → Int32) (x2 : Int32) (x3 : Int32) (x4 : Int32) (x5 : Int32) (x6 : Int32) (x8 : Int32) (x9 : Int32), k116 v_byRules v_four x2 x3 x4 x5 x6 x8 x9 = some (r, o_byRules, o_four) → ∀ (H : Heap) (locs : List Loc) (ls : Array Slot), va_P D vwCl (w_X11_mixed cB cI cJ a_this a_cards a_county a_holes a_text a_letter a_where a_rank a_value a_hour a_readLetter a_readWhere a_readRank a_readValue a_readHour a_listName a_listDay a_voterName a_voterDay a_voterCounty a_heaps a_speed a_four a_byRules a_hours a_rest a_yet a_put v_kept v_length v_items v_readItems v_at v_lists v_voters v_needed v_byRules v_cards v_county v_four v_holes) H → va_D A (w_X11_mixed cB cI cJ a_this a_cards a_county a_holes a_text a_letter a_where a_rank a_value a_hour a_readLetter a_readWhere a_readRank a_readValue a_readHour a_listName a_listDay a_voterName a_voterDay a_voterCounty a_heaps a_speed a_four a_byRules a_hours a_rest a_yet a_put v_kept v_length v_items v_readItems v_at v_lists v_voters v_needed v_byRules v_cards v_county v_four v_holes) → va_S A s.heap H locs → lv_has ls 10 [(0, .ref a_this), (2, .int x2), (3, .int x3), (4, .int x4), (5, .int x5), (6, .int x6), (8, .int x8), (9, .int x9)] → W p l e rm_X11_mixed s m args below meth c H locs 0 0 Q (F0 m 116 ls [])) (by intro v_byRules v_four x2 x3 x4 x5 x6 x8 x9 hf; exact wk_no hf) (by
      intro k116 ih116
      intro v_byRules v_four x2 x3 x4 x5 x6 x8 x9 hf H locs ls hP hD hS hl
      have hf : B_X11_mixed_116 N v_cards v_county v_holes k58 k116 v_byRules v_four x2 x3 x4 x5 x6 x8 x9 = some (r, o_byRules, o_four) := hf
      unfold B_X11_mixed_116 at hf
      refine lv_iload hx hb dX11_mixed_116 (lv_at hl 7 rfl) ?_
      refine lv_iconst (v := (4 : Int32)) hx hb dX11_mixed_118 (by decide) ?_
      refine lv_icmp_ge (tgt := 164) hx hb dX11_mixed_119 (by decide) (fun c6 => ?_) (fun c6 => ?_)
      · have hf := wk_itT hf c6
        exact J164 _ _ _ _ _ _ _ _ hf _ _ _ hP hD hS (lv_sub hl [0, 1, 2, 3, 4, 5, 6] rfl)
      · have hf := wk_itF hf c6
        refine lv_iload_n hx hb dX11_mixed_122 rfl (lv_at hl 2 rfl) ?_
        refine lv_if_lt (tgt := 164) hx hb dX11_mixed_123 (by decide) (fun c7 => ?_) (fun c7 => ?_)
        · have hf := wk_itT hf c7
          exact J164 _ _ _ _ _ _ _ _ hf _ _ _ hP hD hS (lv_sub hl [0, 1, 2, 3, 4, 5, 6] rfl)
        · have hf := wk_itF hf c7
          refine lv_iload hx hb dX11_mixed_126 (lv_at hl 7 rfl) ?_
          refine lv_iload_n hx hb dX11_mixed_128 rfl (lv_at hl 2 rfl) ?_
          refine lv_icmp_eq (tgt := 154) hx hb dX11_mixed_129 (by decide) (fun c8 => ?_) (fun c8 => ?_)
          · have hf := wk_itT hf c8
            refine lv_iload hx hb dX11_mixed_154 (lv_at hl 6 rfl) ?_
            refine lv_istore (lv' := [(8, .int x8), (0, .ref a_this), (2, .int x2), (3, .int x3), (4, .int x4), (5, .int x5), (6, .int x6), (9, .int x9)]) hx hb dX11_mixed_156 hl (by decide) rfl (fun ls hl => ?_)
            obtain ⟨y9, ey9⟩ : ∃ y : Int32, y = x9 + (1 : Int32) := ⟨_, rfl⟩
            have hf := wk_nmE hf ey9
            refine lv_iinc (v := y9) (lv' := [(9, .int y9), (8, .int x8), (0, .ref a_this), (2, .int x2), (3, .int x3), (4, .int x4), (5, .int x5), (6, .int x6)]) hx hb dX11_mixed_158 hl (k := 7) rfl (by rw [ey9]; rfl) (by decide) rfl (fun ls hl => ?_)
            refine lv_goto (tgt := 116) hx hb dX11_mixed_161 (by decide) ?_
            exact ih116 _ _ _ _ _ _ _ _ _ hf _ _ _ hP hD hS (lv_sub hl [2, 3, 4, 5, 6, 7, 1, 0] rfl)
          · have hf := wk_itF hf c8
            refine lv_aload_n hx hb dX11_mixed_132 rfl (lv_at hl 0 rfl) ?_
            refine va_get (D := D) (ci := 11) (v := .ref a_four) (C := RX11) (T := TX11) (N := 35) hx hb hts in_X11_mixed_X11 hown hK hP 0 rfl rfl 29 (by decide) (hts (.fieldLink RX11 79 "HangingCardsModel" "four" "[I") (List.mem_of_getElem? (i := 6) rfl)) (fun _ h9 => h9) rfl dX11_mixed_133 ?_
            refine lv_iload hx hb dX11_mixed_136 (lv_at hl 7 rfl) ?_
            obtain ⟨hi10, hf⟩ := wk_ckE hf
            refine va_iald hx hb hK hP 4 0 rfl rfl hi10 dX11_mixed_138 ?_
            refine lv_iload hx hb dX11_mixed_139 (lv_at hl 6 rfl) ?_
            refine lv_icmp_le (tgt := 154) hx hb dX11_mixed_141 (by decide) (fun c11 => ?_) (fun c11 => ?_)
            · have hf := wk_itT hf c11
              refine lv_iload hx hb dX11_mixed_154 (lv_at hl 6 rfl) ?_
              refine lv_istore (lv' := [(8, .int x8), (0, .ref a_this), (2, .int x2), (3, .int x3), (4, .int x4), (5, .int x5), (6, .int x6), (9, .int x9)]) hx hb dX11_mixed_156 hl (by decide) rfl (fun ls hl => ?_)
              obtain ⟨y12, ey12⟩ : ∃ y : Int32, y = x9 + (1 : Int32) := ⟨_, rfl⟩
              have hf := wk_nmE hf ey12
              refine lv_iinc (v := y12) (lv' := [(9, .int y12), (8, .int x8), (0, .ref a_this), (2, .int x2), (3, .int x3), (4, .int x4), (5, .int x5), (6, .int x6)]) hx hb dX11_mixed_158 hl (k := 7) rfl (by rw [ey12]; rfl) (by decide) rfl (fun ls hl => ?_)
              refine lv_goto (tgt := 116) hx hb dX11_mixed_161 (by decide) ?_
              exact ih116 _ _ _ _ _ _ _ _ _ hf _ _ _ hP hD hS (lv_sub hl [2, 3, 4, 5, 6, 7, 1, 0] rfl)
            · have hf := wk_itF hf c11
              refine lv_aload_n hx hb dX11_mixed_144 rfl (lv_at hl 0 rfl) ?_
              refine va_get (D := D) (ci := 11) (v := .ref a_four) (C := RX11) (T := TX11) (N := 35) hx hb hts in_X11_mixed_X11 hown hK hP 0 rfl rfl 29 (by decide) (hts (.fieldLink RX11 79 "HangingCardsModel" "four" "[I") (List.mem_of_getElem? (i := 6) rfl)) (fun _ h9 => h9) rfl dX11_mixed_145 ?_
              refine lv_iload hx hb dX11_mixed_148 (lv_at hl 7 rfl) ?_
              obtain ⟨hi13, hf⟩ := wk_ckE hf
              refine va_iald hx hb hK hP 4 0 rfl rfl hi13 dX11_mixed_150 ?_
              refine lv_goto (tgt := 156) hx hb dX11_mixed_151 (by decide) ?_
              refine lv_topi (fun y14 ey14 => ?_)
              have hf := wk_nmE hf ey14
              refine lv_istore (lv' := [(8, .int y14), (0, .ref a_this), (2, .int x2), (3, .int x3), (4, .int x4), (5, .int x5), (6, .int x6), (9, .int x9)]) hx hb dX11_mixed_156 hl (by decide) rfl (fun ls hl => ?_)
              obtain ⟨y15, ey15⟩ : ∃ y : Int32, y = x9 + (1 : Int32) := ⟨_, rfl⟩
              have hf := wk_nmE hf ey15
              refine lv_iinc (v := y15) (lv' := [(9, .int y15), (8, .int y14), (0, .ref a_this), (2, .int x2), (3, .int x3), (4, .int x4), (5, .int x5), (6, .int x6)]) hx hb dX11_mixed_158 hl (k := 7) rfl (by rw [ey15]; rfl) (by decide) rfl (fun ls hl => ?_)
              refine lv_goto (tgt := 116) hx hb dX11_mixed_161 (by decide) ?_
              exact ih116 _ _ _ _ _ _ _ _ _ hf _ _ _ hP hD hS (lv_sub hl [2, 3, 4, 5, 6, 7, 1, 0] rfl))
    intro v_byRules v_four x2 x3 x4 x5 x6 hf H locs ls hP hD hS hl
    have hf : B_X11_mixed_58 N v_cards v_county v_holes k58 v_byRules v_four x2 x3 x4 x5 x6 = some (r, o_byRules, o_four) := hf
    unfold B_X11_mixed_58 at hf
    refine lv_iload hx hb dX11_mixed_58 (lv_at hl 5 rfl) ?_
    refine lv_ldc (v := (32768 : Int32)) hx hb hown (hts (.constant RX11 200 (32768)) (List.mem_of_getElem? (i := 5) rfl)) dX11_mixed_60 ?_
    refine lv_icmp_ge (tgt := 205) hx hb dX11_mixed_62 (by decide) (fun c16 => ?_) (fun c16 => ?_)
    · have hf := wk_itT hf c16
      refine lv_iload_n hx hb dX11_mixed_205 rfl (lv_at hl 2 rfl) ?_
      refine lv_if_ge (tgt := 214) hx hb dX11_mixed_206 (by decide) (fun c17 => ?_) (fun c17 => ?_)
      · have hf := wk_itT hf c17
        refine lv_iload hx hb dX11_mixed_214 (lv_at hl 4 rfl) ?_
        exact hret _ _ _ _ _ _ dX11_mixed_216 (wk_rt hf (fun z => z.1)) (wk_rt hf (fun z => w_X11_mixed cB cI cJ a_this a_cards a_county a_holes a_text a_letter a_where a_rank a_value a_hour a_readLetter a_readWhere a_readRank a_readValue a_readHour a_listName a_listDay a_voterName a_voterDay a_voterCounty a_heaps a_speed a_four a_byRules a_hours a_rest a_yet a_put v_kept v_length v_items v_readItems v_at v_lists v_voters v_needed (z.2.1) v_cards v_county (z.2.2) v_holes)) hP hD hS
      · have hf := wk_itF hf c17
        refine lv_iload hx hb dX11_mixed_209 (lv_at hl 3 rfl) ?_
        refine lv_goto (tgt := 216) hx hb dX11_mixed_211 (by decide) ?_
        exact hret _ _ _ _ _ _ dX11_mixed_216 (wk_rt hf (fun z => z.1)) (wk_rt hf (fun z => w_X11_mixed cB cI cJ a_this a_cards a_county a_holes a_text a_letter a_where a_rank a_value a_hour a_readLetter a_readWhere a_readRank a_readValue a_readHour a_listName a_listDay a_voterName a_voterDay a_voterCounty a_heaps a_speed a_four a_byRules a_hours a_rest a_yet a_put v_kept v_length v_items v_readItems v_at v_lists v_voters v_needed (z.2.1) v_cards v_county (z.2.2) v_holes)) hP hD hS
    · have hf := wk_itF hf c16
      refine lv_iload hx hb dX11_mixed_65 (lv_at hl 5 rfl) ?_
      refine lv_iload_n hx hb dX11_mixed_67 rfl (lv_at hl 1 rfl) ?_
      refine lv_bipush (v := (31 : Int32)) hx hb dX11_mixed_68 (by decide) ?_
      refine lv_iconst (v := (0 : Int32)) hx hb dX11_mixed_70 (by decide) ?_
      obtain ⟨r18, hc18, hf⟩ := wk_b1E hf
      refine wk_callSi2 C hP hD hS (c_X11_isOf l D cB cI cJ N x6 x2 (31 : Int32) (0 : Int32) hc18) (va_cwS 4 hts gX11_mixed_X11_isOf rfl rfl rfl hd_X11_isOf.2 ⟨Nat.le_of_ble_eq_true rfl, Nat.le_of_ble_eq_true rfl⟩) hl.1 ⟨Nat.zero_le _, Nat.zero_le _⟩ [] [0, 1, 2, 3, 4, 5] 6 (by decide +kernel) rfl (Wn := w_X11_mixed cB cI cJ a_this a_cards a_county a_holes a_text a_letter a_where a_rank a_value a_hour a_readLetter a_readWhere a_readRank a_readValue a_readHour a_listName a_listDay a_voterName a_voterDay a_voterCounty a_heaps a_speed a_four a_byRules a_hours a_rest a_yet a_put v_kept v_length v_items v_readItems v_at v_lists v_voters v_needed v_byRules v_cards v_county v_four v_holes) rfl rfl rfl rfl rfl rfl rfl rfl (Nat.le_of_ble_eq_true rfl) dX11_mixed_71 (fun H locs hP hD hS => ?_)
      refine lv_if_ne (tgt := 80) hx hb dX11_mixed_74 (by decide) (fun c19 => ?_) (fun c19 => ?_)
      · have hf := wk_itF hf c19
        refine lv_aload_n hx hb dX11_mixed_80 rfl (lv_at hl 0 rfl) ?_
        refine lv_iload hx hb dX11_mixed_81 (lv_at hl 5 rfl) ?_
        obtain ⟨o20_0, hc20, hf⟩ := wk_b1E hf
        refine wk_callVv2 C hP hD hS (c_X11_mixes l D cB cI cJ N a_this a_cards a_county a_holes a_text a_letter a_where a_rank a_value a_hour a_readLetter a_readWhere a_readRank a_readValue a_readHour a_listName a_listDay a_voterName a_voterDay a_voterCounty a_heaps a_speed a_four a_byRules a_hours a_rest a_yet a_put v_kept v_length v_items v_readItems v_at v_lists v_voters v_needed v_byRules v_four x6 hc20) (cwV 1 hts gX11_mixed_X11_mixes rfl rfl rfl hd_X11_mixes ⟨Nat.le_of_ble_eq_true rfl, Nat.le_of_ble_eq_true rfl⟩) hl.1 ⟨Nat.zero_le _, Nat.zero_le _⟩ [0, 1, 4] [2, 3, 5] 6 (by decide +kernel) rfl (Wn := w_X11_mixed cB cI cJ a_this a_cards a_county a_holes a_text a_letter a_where a_rank a_value a_hour a_readLetter a_readWhere a_readRank a_readValue a_readHour a_listName a_listDay a_voterName a_voterDay a_voterCounty a_heaps a_speed a_four a_byRules a_hours a_rest a_yet a_put v_kept v_length v_items v_readItems v_at v_lists v_voters v_needed v_byRules v_cards v_county o20_0 v_holes) rfl rfl rfl rfl rfl rfl (ci := 11) rfl rfl (q0 := 0) rfl rfl rfl (Nat.le_of_ble_eq_true rfl) dX11_mixed_83 (fun H locs hP hD hS => ?_)
        refine lv_aload_n hx hb dX11_mixed_86 rfl (lv_at hl 0 rfl) ?_
        obtain ⟨r21, hc21, hf⟩ := wk_b1E hf
        refine wk_callVi2 C hP hD hS (c_X11_most l D cB cI cJ N a_this a_cards a_county a_holes a_text a_letter a_where a_rank a_value a_hour a_readLetter a_readWhere a_readRank a_readValue a_readHour a_listName a_listDay a_voterName a_voterDay a_voterCounty a_heaps a_speed a_four a_byRules a_hours a_rest a_yet a_put v_kept v_length v_items v_readItems v_at v_lists v_voters v_needed o20_0 hc21) (cwV 0 hts gX11_mixed_X11_most rfl rfl rfl hd_X11_most ⟨Nat.le_of_ble_eq_true rfl, Nat.le_of_ble_eq_true rfl⟩) hl.1 ⟨Nat.zero_le _, Nat.zero_le _⟩ [0, 4] [1, 2, 3, 5] 6 (by decide +kernel) rfl (Wn := w_X11_mixed cB cI cJ a_this a_cards a_county a_holes a_text a_letter a_where a_rank a_value a_hour a_readLetter a_readWhere a_readRank a_readValue a_readHour a_listName a_listDay a_voterName a_voterDay a_voterCounty a_heaps a_speed a_four a_byRules a_hours a_rest a_yet a_put v_kept v_length v_items v_readItems v_at v_lists v_voters v_needed v_byRules v_cards v_county o20_0 v_holes) rfl rfl rfl rfl rfl rfl (ci := 11) rfl rfl (q0 := 0) rfl rfl rfl (Nat.le_of_ble_eq_true rfl) dX11_mixed_87 (fun H locs hP hD hS => ?_)
        refine lv_istore (lv' := [(7, .int r21), (0, .ref a_this), (2, .int x2), (3, .int x3), (4, .int x4), (5, .int x5), (6, .int x6)]) hx hb dX11_mixed_90 hl (by decide) rfl (fun ls hl => ?_)
        refine lv_iload hx hb dX11_mixed_92 (lv_at hl 4 rfl) ?_
        refine lv_iload hx hb dX11_mixed_94 (lv_at hl 0 rfl) ?_
        refine lv_if_ge (tgt := 103) hx hb dX11_mixed_96 (by decide) (fun c22 => ?_) (fun c22 => ?_)
        · have hf := wk_itT hf c22
          refine lv_iconst (v := (1 : Int32)) hx hb dX11_mixed_103 (by decide) ?_
          refine lv_iload hx hb dX11_mixed_104 (lv_at hl 0 rfl) ?_
          refine lv_ishl hx hb dX11_mixed_106 ?_
          refine lv_ior hx hb dX11_mixed_107 ?_
          refine lv_topi (fun y23 ey23 => ?_)
          have hf := wk_nmE hf ey23
          refine lv_istore (lv' := [(4, .int y23), (7, .int r21), (0, .ref a_this), (2, .int x2), (3, .int x3), (5, .int x5), (6, .int x6)]) hx hb dX11_mixed_108 hl (by decide) rfl (fun ls hl => ?_)
          refine lv_iconst (v := (0 : Int32)) hx hb dX11_mixed_110 (by decide) ?_
          refine lv_istore (lv' := [(8, .int (0 : Int32)), (4, .int y23), (7, .int r21), (0, .ref a_this), (2, .int x2), (3, .int x3), (5, .int x5), (6, .int x6)]) hx hb dX11_mixed_111 hl (by decide) rfl (fun ls hl => ?_)
          refine lv_iconst (v := (0 : Int32)) hx hb dX11_mixed_113 (by decide) ?_
          refine lv_istore (lv' := [(9, .int (0 : Int32)), (8, .int (0 : Int32)), (4, .int y23), (7, .int r21), (0, .ref a_this), (2, .int x2), (3, .int x3), (5, .int x5), (6, .int x6)]) hx hb dX11_mixed_114 hl (by decide) rfl (fun ls hl => ?_)
          exact L116 N _ _ _ _ _ _ _ _ _ hf _ _ _ hP hD hS (lv_sub hl [4, 5, 6, 2, 7, 8, 1, 0] rfl)
        · have hf := wk_itF hf c22
          refine lv_iconst (v := (0 : Int32)) hx hb dX11_mixed_99 (by decide) ?_
          refine lv_goto (tgt := 107) hx hb dX11_mixed_100 (by decide) ?_
          refine lv_ior hx hb dX11_mixed_107 ?_
          refine lv_topi (fun y24 ey24 => ?_)
          have hf := wk_nmE hf ey24
          refine lv_istore (lv' := [(4, .int y24), (7, .int r21), (0, .ref a_this), (2, .int x2), (3, .int x3), (5, .int x5), (6, .int x6)]) hx hb dX11_mixed_108 hl (by decide) rfl (fun ls hl => ?_)
          refine lv_iconst (v := (0 : Int32)) hx hb dX11_mixed_110 (by decide) ?_
          refine lv_istore (lv' := [(8, .int (0 : Int32)), (4, .int y24), (7, .int r21), (0, .ref a_this), (2, .int x2), (3, .int x3), (5, .int x5), (6, .int x6)]) hx hb dX11_mixed_111 hl (by decide) rfl (fun ls hl => ?_)
          refine lv_iconst (v := (0 : Int32)) hx hb dX11_mixed_113 (by decide) ?_
          refine lv_istore (lv' := [(9, .int (0 : Int32)), (8, .int (0 : Int32)), (4, .int y24), (7, .int r21), (0, .ref a_this), (2, .int x2), (3, .int x3), (5, .int x5), (6, .int x6)]) hx hb dX11_mixed_114 hl (by decide) rfl (fun ls hl => ?_)
          exact L116 N _ _ _ _ _ _ _ _ _ hf _ _ _ hP hD hS (lv_sub hl [4, 5, 6, 2, 7, 8, 1, 0] rfl)
      · have hf := wk_itT hf c19
        refine lv_goto (tgt := 199) hx hb dX11_mixed_77 (by decide) ?_
        obtain ⟨y25, ey25⟩ : ∃ y : Int32, y = x6 + (1 : Int32) := ⟨_, rfl⟩
        have hf := wk_nmE hf ey25
        refine lv_iinc (v := y25) (lv' := [(6, .int y25), (0, .ref a_this), (2, .int x2), (3, .int x3), (4, .int x4), (5, .int x5)]) hx hb dX11_mixed_199 hl (k := 5) rfl (by rw [ey25]; rfl) (by decide) rfl (fun ls hl => ?_)
        refine lv_goto (tgt := 58) hx hb dX11_mixed_202 (by decide) ?_
        exact ih58 _ _ _ _ _ _ _ hf _ _ _ hP hD hS (lv_sub hl [1, 2, 3, 4, 5, 0] rfl))
  unfold f_X11_mixed at hf
  refine lv_iload_n hx hb dX11_mixed_0 rfl (lv_at hl 1 rfl) ?_
  refine lv_i2l (v := (x1.toInt64)) hx hb dX11_mixed_1 rfl ?_
  refine lv_lconst (v := (0 : Int64)) hx hb dX11_mixed_2 (by decide) ?_
  refine lv_ldc2 (v := (2 : Int64)) hx hb hown (hts (.constantLong RX11 115 (2)) (List.mem_of_getElem? (i := 1) rfl)) dX11_mixed_3 ?_
  obtain ⟨r26, hc26, hf⟩ := wk_b1E hf
  refine wk_callSi2 C hP hD hS (c_X11_in l D cB cI cJ N (x1.toInt64) (0 : Int64) (2 : Int64) hc26) (va_cwS 3 hts gX11_mixed_X11_in rfl rfl rfl hd_X11_in.2 ⟨Nat.le_of_ble_eq_true rfl, Nat.le_of_ble_eq_true rfl⟩) hl.1 ⟨Nat.zero_le _, Nat.zero_le _⟩ [] [0, 1, 2, 3, 4, 5] 6 (by decide +kernel) rfl (Wn := w_X11_mixed cB cI cJ a_this a_cards a_county a_holes a_text a_letter a_where a_rank a_value a_hour a_readLetter a_readWhere a_readRank a_readValue a_readHour a_listName a_listDay a_voterName a_voterDay a_voterCounty a_heaps a_speed a_four a_byRules a_hours a_rest a_yet a_put v_kept v_length v_items v_readItems v_at v_lists v_voters v_needed v_byRules v_cards v_county v_four v_holes) rfl rfl rfl rfl rfl rfl rfl rfl (Nat.le_of_ble_eq_true rfl) dX11_mixed_6 (fun H locs hP hD hS => ?_)
  refine lv_if_eq (tgt := 38) hx hb dX11_mixed_9 (by decide) (fun c27 => ?_) (fun c27 => ?_)
  · have hf := wk_itT hf c27
    refine lv_sipush (v := (-1000 : Int32)) hx hb dX11_mixed_38 (by decide) ?_
    exact hret _ _ _ _ _ _ dX11_mixed_41 (wk_rt hf (fun z => z.1)) (wk_rt hf (fun z => w_X11_mixed cB cI cJ a_this a_cards a_county a_holes a_text a_letter a_where a_rank a_value a_hour a_readLetter a_readWhere a_readRank a_readValue a_readHour a_listName a_listDay a_voterName a_voterDay a_voterCounty a_heaps a_speed a_four a_byRules a_hours a_rest a_yet a_put v_kept v_length v_items v_readItems v_at v_lists v_voters v_needed (z.2.1) v_cards v_county (z.2.2) v_holes)) hP hD hS
  · have hf := wk_itF hf c27
    refine lv_iload_n hx hb dX11_mixed_12 rfl (lv_at hl 2 rfl) ?_
    refine lv_i2l (v := (x2.toInt64)) hx hb dX11_mixed_13 rfl ?_
    refine lv_lconst (v := (1 : Int64)) hx hb dX11_mixed_14 (by decide) ?_
    refine lv_ldc2 (v := (31 : Int64)) hx hb hown (hts (.constantLong RX11 196 (31)) (List.mem_of_getElem? (i := 2) rfl)) dX11_mixed_15 ?_
    obtain ⟨r28, hc28, hf⟩ := wk_b1E hf
    refine wk_callSi2 C hP hD hS (c_X11_in l D cB cI cJ N (x2.toInt64) (1 : Int64) (31 : Int64) hc28) (va_cwS 3 hts gX11_mixed_X11_in rfl rfl rfl hd_X11_in.2 ⟨Nat.le_of_ble_eq_true rfl, Nat.le_of_ble_eq_true rfl⟩) hl.1 ⟨Nat.zero_le _, Nat.zero_le _⟩ [] [0, 1, 2, 3, 4, 5] 6 (by decide +kernel) rfl (Wn := w_X11_mixed cB cI cJ a_this a_cards a_county a_holes a_text a_letter a_where a_rank a_value a_hour a_readLetter a_readWhere a_readRank a_readValue a_readHour a_listName a_listDay a_voterName a_voterDay a_voterCounty a_heaps a_speed a_four a_byRules a_hours a_rest a_yet a_put v_kept v_length v_items v_readItems v_at v_lists v_voters v_needed v_byRules v_cards v_county v_four v_holes) rfl rfl rfl rfl rfl rfl rfl rfl (Nat.le_of_ble_eq_true rfl) dX11_mixed_18 (fun H locs hP hD hS => ?_)
    refine lv_if_eq (tgt := 38) hx hb dX11_mixed_21 (by decide) (fun c29 => ?_) (fun c29 => ?_)
    · have hf := wk_itT hf c29
      refine lv_sipush (v := (-1000 : Int32)) hx hb dX11_mixed_38 (by decide) ?_
      exact hret _ _ _ _ _ _ dX11_mixed_41 (wk_rt hf (fun z => z.1)) (wk_rt hf (fun z => w_X11_mixed cB cI cJ a_this a_cards a_county a_holes a_text a_letter a_where a_rank a_value a_hour a_readLetter a_readWhere a_readRank a_readValue a_readHour a_listName a_listDay a_voterName a_voterDay a_voterCounty a_heaps a_speed a_four a_byRules a_hours a_rest a_yet a_put v_kept v_length v_items v_readItems v_at v_lists v_voters v_needed (z.2.1) v_cards v_county (z.2.2) v_holes)) hP hD hS
    · have hf := wk_itF hf c29
      refine lv_iload_n hx hb dX11_mixed_24 rfl (lv_at hl 3 rfl) ?_
      refine lv_i2l (v := (x3.toInt64)) hx hb dX11_mixed_25 rfl ?_
      refine lv_ldc2 (v := (-1 : Int64)) hx hb hown (hts (.constantLong RX11 198 (-1)) (List.mem_of_getElem? (i := 3) rfl)) dX11_mixed_26 ?_
      refine lv_ldc2 (v := (3 : Int64)) hx hb hown (hts (.constantLong RX11 117 (3)) (List.mem_of_getElem? (i := 4) rfl)) dX11_mixed_29 ?_
      obtain ⟨r30, hc30, hf⟩ := wk_b1E hf
      refine wk_callSi2 C hP hD hS (c_X11_in l D cB cI cJ N (x3.toInt64) (-1 : Int64) (3 : Int64) hc30) (va_cwS 3 hts gX11_mixed_X11_in rfl rfl rfl hd_X11_in.2 ⟨Nat.le_of_ble_eq_true rfl, Nat.le_of_ble_eq_true rfl⟩) hl.1 ⟨Nat.zero_le _, Nat.zero_le _⟩ [] [0, 1, 2, 3, 4, 5] 6 (by decide +kernel) rfl (Wn := w_X11_mixed cB cI cJ a_this a_cards a_county a_holes a_text a_letter a_where a_rank a_value a_hour a_readLetter a_readWhere a_readRank a_readValue a_readHour a_listName a_listDay a_voterName a_voterDay a_voterCounty a_heaps a_speed a_four a_byRules a_hours a_rest a_yet a_put v_kept v_length v_items v_readItems v_at v_lists v_voters v_needed v_byRules v_cards v_county v_four v_holes) rfl rfl rfl rfl rfl rfl rfl rfl (Nat.le_of_ble_eq_true rfl) dX11_mixed_32 (fun H locs hP hD hS => ?_)
      refine lv_if_ne (tgt := 42) hx hb dX11_mixed_35 (by decide) (fun c31 => ?_) (fun c31 => ?_)
      · have hf := wk_itF hf c31
        refine lv_aload_n hx hb dX11_mixed_42 rfl (lv_at hl 0 rfl) ?_
        refine lv_iload_n hx hb dX11_mixed_43 rfl (lv_at hl 1 rfl) ?_
        obtain ⟨o32_0, hc32, hf⟩ := wk_b1E hf
        refine wk_callVv2 C hP hD hS (c_X11_counts l D cB cI cJ N a_this a_cards a_county a_holes a_text a_letter a_where a_rank a_value a_hour a_readLetter a_readWhere a_readRank a_readValue a_readHour a_listName a_listDay a_voterName a_voterDay a_voterCounty a_heaps a_speed a_four a_byRules a_hours a_rest a_yet a_put v_kept v_length v_items v_readItems v_at v_lists v_voters v_needed v_byRules v_cards v_county v_holes x1 hc32) (cwV 1 hts gX11_mixed_X11_counts rfl rfl rfl hd_X11_counts ⟨Nat.le_of_ble_eq_true rfl, Nat.le_of_ble_eq_true rfl⟩) hl.1 ⟨Nat.zero_le _, Nat.zero_le _⟩ [0, 1, 2, 3, 5] [4] 6 (by decide +kernel) rfl (Wn := w_X11_mixed cB cI cJ a_this a_cards a_county a_holes a_text a_letter a_where a_rank a_value a_hour a_readLetter a_readWhere a_readRank a_readValue a_readHour a_listName a_listDay a_voterName a_voterDay a_voterCounty a_heaps a_speed a_four a_byRules a_hours a_rest a_yet a_put v_kept v_length v_items v_readItems v_at v_lists v_voters v_needed o32_0 v_cards v_county v_four v_holes) rfl rfl rfl rfl rfl rfl (ci := 11) rfl rfl (q0 := 0) rfl rfl rfl (Nat.le_of_ble_eq_true rfl) dX11_mixed_44 (fun H locs hP hD hS => ?_)
        refine lv_iconst (v := (0 : Int32)) hx hb dX11_mixed_47 (by decide) ?_
        refine lv_istore (lv' := [(4, .int (0 : Int32)), (0, .ref a_this), (1, .int x1), (2, .int x2), (3, .int x3)]) hx hb dX11_mixed_48 hl (by decide) rfl (fun ls hl => ?_)
        refine lv_sipush (v := (-1000 : Int32)) hx hb dX11_mixed_50 (by decide) ?_
        refine lv_istore (lv' := [(5, .int (-1000 : Int32)), (4, .int (0 : Int32)), (0, .ref a_this), (1, .int x1), (2, .int x2), (3, .int x3)]) hx hb dX11_mixed_53 hl (by decide) rfl (fun ls hl => ?_)
        refine lv_iconst (v := (0 : Int32)) hx hb dX11_mixed_55 (by decide) ?_
        refine lv_istore (lv' := [(6, .int (0 : Int32)), (5, .int (-1000 : Int32)), (4, .int (0 : Int32)), (0, .ref a_this), (1, .int x1), (2, .int x2), (3, .int x3)]) hx hb dX11_mixed_56 hl (by decide) rfl (fun ls hl => ?_)
        exact L58 N _ _ _ _ _ _ _ hf _ _ _ hP hD hS (lv_sub hl [3, 5, 6, 2, 1, 0] rfl)
      · have hf := wk_itT hf c31
        refine lv_sipush (v := (-1000 : Int32)) hx hb dX11_mixed_38 (by decide) ?_
        exact hret _ _ _ _ _ _ dX11_mixed_41 (wk_rt hf (fun z => z.1)) (wk_rt hf (fun z => w_X11_mixed cB cI cJ a_this a_cards a_county a_holes a_text a_letter a_where a_rank a_value a_hour a_readLetter a_readWhere a_readRank a_readValue a_readHour a_listName a_listDay a_voterName a_voterDay a_voterCounty a_heaps a_speed a_four a_byRules a_hours a_rest a_yet a_put v_kept v_length v_items v_readItems v_at v_lists v_voters v_needed (z.2.1) v_cards v_county (z.2.2) v_holes)) hP hD hS
abbrev w_X11_turned (cB cI cJ : ClassId) (a_this : Nat) (a_cards : Nat) (a_county : Nat) (a_holes : Nat) (a_text : Nat) (a_letter : Nat) (a_where : Nat) (a_rank : Nat) (a_value : Nat) (a_hour : Nat) (a_readLetter : Nat) (a_readWhere : Nat) (a_readRank : Nat) (a_readValue : Nat) (a_readHour : Nat) (a_listName : Nat) (a_listDay : Nat) (a_voterName : Nat) (a_voterDay : Nat) (a_voterCounty : Nat) (a_heaps : Nat) (a_speed : Nat) (a_four : Nat) (a_byRules : Nat) (a_hours : Nat) (a_rest : Nat) (a_yet : Nat) (a_put : Nat) (v_kept : Int32) (v_length : Int32) (v_items : Int32) (v_readItems : Int32) (v_at : Int32) (v_lists : Int32) (v_voters : Int32) (v_needed : Int32) (v_byRules : Nat → Int32) (v_cards : Nat → Int32) (v_county : Nat → Int32) (v_four : Nat → Int32) (v_holes : Nat → Int32) : va_W := [(a_this, .inr (11, [.ref a_cards, .ref a_county, .ref a_holes, .int v_kept, .int v_length, .ref a_text, .int v_items, .ref a_letter, .ref a_where, .ref a_rank, .ref a_value, .ref a_hour, .int v_readItems, .ref a_readLetter, .ref a_readWhere, .ref a_readRank, .ref a_readValue, .ref a_readHour, .int v_at, .int v_lists, .ref a_listName, .ref a_listDay, .int v_voters, .ref a_voterName, .ref a_voterDay, .ref a_voterCounty, .int v_needed, .ref a_heaps, .ref a_speed, .ref a_four, .ref a_byRules, .ref a_hours, .ref a_rest, .ref a_yet, .ref a_put])), (a_byRules, .inl (cI, 120, .inl v_byRules)), (a_cards, .inl (cI, 3, .inl v_cards)), (a_county, .inl (cI, 120, .inl v_county)), (a_four, .inl (cI, 4, .inl v_four)), (a_holes, .inl (cI, 1440, .inl v_holes))]
theorem hd_X11_turned : yX11_turned.cls = RX11 ∧ yX11_turned.cls ≠ "java/lang/invoke/MethodHandle" ∧ yX11_turned.cls ≠ "java/lang/invoke/VarHandle" ∧ (parseMethodDescriptor yX11_turned.desc).map (fun d => d.parameters.length) = some 3 := by decide +kernel
abbrev rm_X11_turned : Room := { frames := 3, cells := 0, slots := 0, locals := 74 }
set_option maxHeartbeats 4000000 in
set_option maxRecDepth 100000 in
theorem c_X11_turned (l : Launch) (D : va_G) (cB cI cJ : ClassId) (N : Nat) (a_this : Nat) (a_cards : Nat) (a_county : Nat) (a_holes : Nat) (a_text : Nat) (a_letter : Nat) (a_where : Nat) (a_rank : Nat) (a_value : Nat) (a_hour : Nat) (a_readLetter : Nat) (a_readWhere : Nat) (a_readRank : Nat) (a_readValue : Nat) (a_readHour : Nat) (a_listName : Nat) (a_listDay : Nat) (a_voterName : Nat) (a_voterDay : Nat) (a_voterCounty : Nat) (a_heaps : Nat) (a_speed : Nat) (a_four : Nat) (a_byRules : Nat) (a_hours : Nat) (a_rest : Nat) (a_yet : Nat) (a_put : Nat) (v_kept : Int32) (v_length : Int32) (v_items : Int32) (v_readItems : Int32) (v_at : Int32) (v_lists : Int32) (v_voters : Int32) (v_needed : Int32) (v_byRules : Nat → Int32) (v_cards : Nat → Int32) (v_county : Nat → Int32) (v_four : Nat → Int32) (v_holes : Nat → Int32) (x1 : Int32) (x2 : Int32) (x3 : Int32) {r : Int32} {o_byRules : Nat → Int32} {o_four : Nat → Int32} (hf : f_X11_turned N v_cards v_county v_holes v_byRules v_four x1 x2 x3 = some (r, o_byRules, o_four)) : MTi l yX11_turned wsX11_turned rm_X11_turned D (wk_T cB cI cJ) [.ref a_this, .int x1, .int x2, .int x3] (w_X11_turned cB cI cJ a_this a_cards a_county a_holes a_text a_letter a_where a_rank a_value a_hour a_readLetter a_readWhere a_readRank a_readValue a_readHour a_listName a_listDay a_voterName a_voterDay a_voterCounty a_heaps a_speed a_four a_byRules a_hours a_rest a_yet a_put v_kept v_length v_items v_readItems v_at v_lists v_voters v_needed v_byRules v_cards v_county v_four v_holes) (w_X11_turned cB cI cJ a_this a_cards a_county a_holes a_text a_letter a_where a_rank a_value a_hour a_readLetter a_readWhere a_readRank a_readValue a_readHour a_listName a_listDay a_voterName a_voterDay a_voterCounty a_heaps a_speed a_four a_byRules a_hours a_rest a_yet a_put v_kept v_length v_items v_readItems v_at v_lists v_voters v_needed o_byRules v_cards v_county o_four v_holes) r := by
  refine MTi.of (cc := cX11_turned) (nL := 11) (rt := .int) (own := RX11) pn_X11 rfl rfl (Nat.le_of_ble_eq_true rfl) rfl ?_
  intro p e s m args below meth c A ls Q C hP hD hS hl hret
  obtain ⟨hx, hb, hml, hts, hown, hK, hN, hA, hlk⟩ := id C
  have hl : lv_has ls 11 [(0, .ref a_this), (1, .int x1), (2, .int x2), (3, .int x3)] := hl
  have L72 := wk_loopI (F := (fun k72 : (Nat → Int32) → (Nat → Int32) → Int32 → Int32 → Int32 → Int32 → Int32 → Option (Int32 × (Nat → Int32) × (Nat → Int32)) => B_X11_turned_72 N v_cards v_county v_holes k72)) (bot := fun _ _ _ _ _ _ _ => none) (fun k72 : (Nat → Int32) → (Nat → Int32) → Int32 → Int32 → Int32 → Int32 → Int32 → Option (Int32 × (Nat → Int32) × (Nat → Int32)) => ∀ (v_byRules : Nat → Int32) (v_four : Nat → Int32) (x2 : Int32) (x4 : Int32) (x5 : Int32) (x6 : Int32) (x7 : Int32), k72 v_byRules v_four x2 x4 x5 x6 x7 = some (r, o_byRules, o_four) → ∀ (H : Heap) (locs : List Loc) (ls : Array Slot), va_P D vwCl (w_X11_turned cB cI cJ a_this a_cards a_county a_holes a_text a_letter a_where a_rank a_value a_hour a_readLetter a_readWhere a_readRank a_readValue a_readHour a_listName a_listDay a_voterName a_voterDay a_voterCounty a_heaps a_speed a_four a_byRules a_hours a_rest a_yet a_put v_kept v_length v_items v_readItems v_at v_lists v_voters v_needed v_byRules v_cards v_county v_four v_holes) H → va_D A (w_X11_turned cB cI cJ a_this a_cards a_county a_holes a_text a_letter a_where a_rank a_value a_hour a_readLetter a_readWhere a_readRank a_readValue a_readHour a_listName a_listDay a_voterName a_voterDay a_voterCounty a_heaps a_speed a_four a_byRules a_hours a_rest a_yet a_put v_kept v_length v_items v_readItems v_at v_lists v_voters v_needed v_byRules v_cards v_county v_four v_holes) → va_S A s.heap H locs → lv_has ls 11 [(0, .ref a_this), (2, .int x2), (4, .int x4), (5, .int x5), (6, .int x6), (7, .int x7)] → W p l e rm_X11_turned s m args below meth c H locs 0 0 Q (F0 m 72 ls [])) (by intro v_byRules v_four x2 x4 x5 x6 x7 hf; exact wk_no hf) (by
    intro k72 ih72
    have J168 : ∀ (v_byRules : Nat → Int32) (v_four : Nat → Int32) (x2 : Int32) (x4 : Int32) (x5 : Int32) (x6 : Int32) (x7 : Int32) (x8 : Int32), B_X11_turned_168 N v_cards v_county v_holes k72 v_byRules v_four x2 x4 x5 x6 x7 x8 = some (r, o_byRules, o_four) → ∀ (H : Heap) (locs : List Loc) (ls : Array Slot), va_P D vwCl (w_X11_turned cB cI cJ a_this a_cards a_county a_holes a_text a_letter a_where a_rank a_value a_hour a_readLetter a_readWhere a_readRank a_readValue a_readHour a_listName a_listDay a_voterName a_voterDay a_voterCounty a_heaps a_speed a_four a_byRules a_hours a_rest a_yet a_put v_kept v_length v_items v_readItems v_at v_lists v_voters v_needed v_byRules v_cards v_county v_four v_holes) H → va_D A (w_X11_turned cB cI cJ a_this a_cards a_county a_holes a_text a_letter a_where a_rank a_value a_hour a_readLetter a_readWhere a_readRank a_readValue a_readHour a_listName a_listDay a_voterName a_voterDay a_voterCounty a_heaps a_speed a_four a_byRules a_hours a_rest a_yet a_put v_kept v_length v_items v_readItems v_at v_lists v_voters v_needed v_byRules v_cards v_county v_four v_holes) → va_S A s.heap H locs → lv_has ls 11 [(0, .ref a_this), (2, .int x2), (4, .int x4), (5, .int x5), (6, .int x6), (7, .int x7), (8, .int x8)] → W p l e rm_X11_turned s m args below meth c H locs 0 0 Q (F0 m 168 ls []) := by
      intro v_byRules v_four x2 x4 x5 x6 x7 x8 hf H locs ls hP hD hS hl
      unfold B_X11_turned_168 at hf
      refine lv_iload hx hb dX11_turned_168 (lv_at hl 6 rfl) ?_
      refine lv_if_eq (tgt := 178) hx hb dX11_turned_170 (by decide) (fun c1 => ?_) (fun c1 => ?_)
      · have hf := wk_itT hf c1
        refine lv_iload hx hb dX11_turned_178 (lv_at hl 4 rfl) ?_
        refine lv_istore (lv' := [(6, .int x6), (0, .ref a_this), (2, .int x2), (4, .int x4), (5, .int x5), (7, .int x7), (8, .int x8)]) hx hb dX11_turned_180 hl (by decide) rfl (fun ls hl => ?_)
        obtain ⟨y2, ey2⟩ : ∃ y : Int32, y = x7 + (1 : Int32) := ⟨_, rfl⟩
        have hf := wk_nmE hf ey2
        refine lv_iinc (v := y2) (lv' := [(7, .int y2), (6, .int x6), (0, .ref a_this), (2, .int x2), (4, .int x4), (5, .int x5), (8, .int x8)]) hx hb dX11_turned_182 hl (k := 5) rfl (by rw [ey2]; rfl) (by decide) rfl (fun ls hl => ?_)
        refine lv_goto (tgt := 72) hx hb dX11_turned_185 (by decide) ?_
        exact ih72 _ _ _ _ _ _ _ hf _ _ _ hP hD hS (lv_sub hl [2, 3, 4, 5, 1, 0] rfl)
      · have hf := wk_itF hf c1
        refine lv_iload hx hb dX11_turned_173 (lv_at hl 5 rfl) ?_
        refine lv_goto (tgt := 180) hx hb dX11_turned_175 (by decide) ?_
        refine lv_istore (lv' := [(6, .int x7), (0, .ref a_this), (2, .int x2), (4, .int x4), (5, .int x5), (7, .int x7), (8, .int x8)]) hx hb dX11_turned_180 hl (by decide) rfl (fun ls hl => ?_)
        obtain ⟨y3, ey3⟩ : ∃ y : Int32, y = x7 + (1 : Int32) := ⟨_, rfl⟩
        have hf := wk_nmE hf ey3
        refine lv_iinc (v := y3) (lv' := [(7, .int y3), (6, .int x7), (0, .ref a_this), (2, .int x2), (4, .int x4), (5, .int x5), (8, .int x8)]) hx hb dX11_turned_182 hl (k := 5) rfl (by rw [ey3]; rfl) (by decide) rfl (fun ls hl => ?_)
        refine lv_goto (tgt := 72) hx hb dX11_turned_185 (by decide) ?_
        exact ih72 _ _ _ _ _ _ _ hf _ _ _ hP hD hS (lv_sub hl [2, 3, 4, 5, 1, 0] rfl)
    have L106 := wk_loopI (F := (fun k106 : (Nat → Int32) → (Nat → Int32) → Int32 → Int32 → Int32 → Int32 → Int32 → Int32 → Int32 → Option (Int32 × (Nat → Int32) × (Nat → Int32)) => B_X11_turned_106 N v_cards v_county v_holes k72 k106)) (bot := fun _ _ _ _ _ _ _ _ _ => none) (fun k106 : (Nat → Int32) → (Nat → Int32) → Int32 → Int32 → Int32 → Int32 → Int32 → Int32 → Int32 → Option (Int32 × (Nat → Int32) × (Nat → Int32)) => ∀ (v_byRules : Nat → Int32) (v_four : Nat → Int32) (x2 : Int32) (x4 : Int32) (x5 : Int32) (x6 : Int32) (x7 : Int32) (x8 : Int32) (x9 : Int32), k106 v_byRules v_four x2 x4 x5 x6 x7 x8 x9 = some (r, o_byRules, o_four) → ∀ (H : Heap) (locs : List Loc) (ls : Array Slot), va_P D vwCl (w_X11_turned cB cI cJ a_this a_cards a_county a_holes a_text a_letter a_where a_rank a_value a_hour a_readLetter a_readWhere a_readRank a_readValue a_readHour a_listName a_listDay a_voterName a_voterDay a_voterCounty a_heaps a_speed a_four a_byRules a_hours a_rest a_yet a_put v_kept v_length v_items v_readItems v_at v_lists v_voters v_needed v_byRules v_cards v_county v_four v_holes) H → va_D A (w_X11_turned cB cI cJ a_this a_cards a_county a_holes a_text a_letter a_where a_rank a_value a_hour a_readLetter a_readWhere a_readRank a_readValue a_readHour a_listName a_listDay a_voterName a_voterDay a_voterCounty a_heaps a_speed a_four a_byRules a_hours a_rest a_yet a_put v_kept v_length v_items v_readItems v_at v_lists v_voters v_needed v_byRules v_cards v_county v_four v_holes) → va_S A s.heap H locs → lv_has ls 11 [(0, .ref a_this), (2, .int x2), (4, .int x4), (5, .int x5), (6, .int x6), (7, .int x7), (8, .int x8), (9, .int x9)] → W p l e rm_X11_turned s m args below meth c H locs 0 0 Q (F0 m 106 ls [])) (by intro v_byRules v_four x2 x4 x5 x6 x7 x8 x9 hf; exact wk_no hf) (by
      intro k106 ih106
      intro v_byRules v_four x2 x4 x5 x6 x7 x8 x9 hf H locs ls hP hD hS hl
      have hf : B_X11_turned_106 N v_cards v_county v_holes k72 k106 v_byRules v_four x2 x4 x5 x6 x7 x8 x9 = some (r, o_byRules, o_four) := hf
      unfold B_X11_turned_106 at hf
      refine lv_iload hx hb dX11_turned_106 (lv_at hl 7 rfl) ?_
      refine lv_ldc (v := (32768 : Int32)) hx hb hown (hts (.constant RX11 200 (32768)) (List.mem_of_getElem? (i := 4) rfl)) dX11_turned_108 ?_
      refine lv_icmp_ge (tgt := 168) hx hb dX11_turned_110 (by decide) (fun c4 => ?_) (fun c4 => ?_)
      · have hf := wk_itT hf c4
        exact J168 _ _ _ _ _ _ _ _ hf _ _ _ hP hD hS (lv_sub hl [0, 1, 2, 3, 4, 5, 6] rfl)
      · have hf := wk_itF hf c4
        refine lv_iload hx hb dX11_turned_113 (lv_at hl 6 rfl) ?_
        refine lv_if_ne (tgt := 168) hx hb dX11_turned_115 (by decide) (fun c5 => ?_) (fun c5 => ?_)
        · have hf := wk_itF hf c5
          exact J168 _ _ _ _ _ _ _ _ hf _ _ _ hP hD hS (lv_sub hl [0, 1, 2, 3, 4, 5, 6] rfl)
        · have hf := wk_itT hf c5
          refine lv_iload hx hb dX11_turned_118 (lv_at hl 7 rfl) ?_
          refine lv_iload hx hb dX11_turned_120 (lv_at hl 3 rfl) ?_
          refine lv_iload hx hb dX11_turned_122 (lv_at hl 5 rfl) ?_
          refine lv_iload_n hx hb dX11_turned_124 rfl (lv_at hl 1 rfl) ?_
          obtain ⟨r6, hc6, hf⟩ := wk_b1E hf
          refine wk_callSi2 C hP hD hS (c_X11_isOf l D cB cI cJ N x9 x5 x7 x2 hc6) (va_cwS 4 hts gX11_turned_X11_isOf rfl rfl rfl hd_X11_isOf.2 ⟨Nat.le_of_ble_eq_true rfl, Nat.le_of_ble_eq_true rfl⟩) hl.1 ⟨Nat.zero_le _, Nat.zero_le _⟩ [] [0, 1, 2, 3, 4, 5] 6 (by decide +kernel) rfl (Wn := w_X11_turned cB cI cJ a_this a_cards a_county a_holes a_text a_letter a_where a_rank a_value a_hour a_readLetter a_readWhere a_readRank a_readValue a_readHour a_listName a_listDay a_voterName a_voterDay a_voterCounty a_heaps a_speed a_four a_byRules a_hours a_rest a_yet a_put v_kept v_length v_items v_readItems v_at v_lists v_voters v_needed v_byRules v_cards v_county v_four v_holes) rfl rfl rfl rfl rfl rfl rfl rfl (Nat.le_of_ble_eq_true rfl) dX11_turned_125 (fun H locs hP hD hS => ?_)
          refine lv_if_eq (tgt := 162) hx hb dX11_turned_128 (by decide) (fun c7 => ?_) (fun c7 => ?_)
          · have hf := wk_itT hf c7
            obtain ⟨y8, ey8⟩ : ∃ y : Int32, y = x9 + (1 : Int32) := ⟨_, rfl⟩
            have hf := wk_nmE hf ey8
            refine lv_iinc (v := y8) (lv' := [(9, .int y8), (0, .ref a_this), (2, .int x2), (4, .int x4), (5, .int x5), (6, .int x6), (7, .int x7), (8, .int x8)]) hx hb dX11_turned_162 hl (k := 7) rfl (by rw [ey8]; rfl) (by decide) rfl (fun ls hl => ?_)
            refine lv_goto (tgt := 106) hx hb dX11_turned_165 (by decide) ?_
            exact ih106 _ _ _ _ _ _ _ _ _ hf _ _ _ hP hD hS (lv_sub hl [1, 2, 3, 4, 5, 6, 7, 0] rfl)
          · have hf := wk_itF hf c7
            refine lv_aload_n hx hb dX11_turned_131 rfl (lv_at hl 0 rfl) ?_
            refine lv_iload hx hb dX11_turned_132 (lv_at hl 7 rfl) ?_
            obtain ⟨o9_0, hc9, hf⟩ := wk_b1E hf
            refine wk_callVv2 C hP hD hS (c_X11_mixes l D cB cI cJ N a_this a_cards a_county a_holes a_text a_letter a_where a_rank a_value a_hour a_readLetter a_readWhere a_readRank a_readValue a_readHour a_listName a_listDay a_voterName a_voterDay a_voterCounty a_heaps a_speed a_four a_byRules a_hours a_rest a_yet a_put v_kept v_length v_items v_readItems v_at v_lists v_voters v_needed v_byRules v_four x9 hc9) (cwV 1 hts gX11_turned_X11_mixes rfl rfl rfl hd_X11_mixes ⟨Nat.le_of_ble_eq_true rfl, Nat.le_of_ble_eq_true rfl⟩) hl.1 ⟨Nat.zero_le _, Nat.zero_le _⟩ [0, 1, 4] [2, 3, 5] 6 (by decide +kernel) rfl (Wn := w_X11_turned cB cI cJ a_this a_cards a_county a_holes a_text a_letter a_where a_rank a_value a_hour a_readLetter a_readWhere a_readRank a_readValue a_readHour a_listName a_listDay a_voterName a_voterDay a_voterCounty a_heaps a_speed a_four a_byRules a_hours a_rest a_yet a_put v_kept v_length v_items v_readItems v_at v_lists v_voters v_needed v_byRules v_cards v_county o9_0 v_holes) rfl rfl rfl rfl rfl rfl (ci := 11) rfl rfl (q0 := 0) rfl rfl rfl (Nat.le_of_ble_eq_true rfl) dX11_turned_134 (fun H locs hP hD hS => ?_)
            refine lv_aload_n hx hb dX11_turned_137 rfl (lv_at hl 0 rfl) ?_
            obtain ⟨r10, hc10, hf⟩ := wk_b1E hf
            refine wk_callVi2 C hP hD hS (c_X11_most l D cB cI cJ N a_this a_cards a_county a_holes a_text a_letter a_where a_rank a_value a_hour a_readLetter a_readWhere a_readRank a_readValue a_readHour a_listName a_listDay a_voterName a_voterDay a_voterCounty a_heaps a_speed a_four a_byRules a_hours a_rest a_yet a_put v_kept v_length v_items v_readItems v_at v_lists v_voters v_needed o9_0 hc10) (cwV 0 hts gX11_turned_X11_most rfl rfl rfl hd_X11_most ⟨Nat.le_of_ble_eq_true rfl, Nat.le_of_ble_eq_true rfl⟩) hl.1 ⟨Nat.zero_le _, Nat.zero_le _⟩ [0, 4] [1, 2, 3, 5] 6 (by decide +kernel) rfl (Wn := w_X11_turned cB cI cJ a_this a_cards a_county a_holes a_text a_letter a_where a_rank a_value a_hour a_readLetter a_readWhere a_readRank a_readValue a_readHour a_listName a_listDay a_voterName a_voterDay a_voterCounty a_heaps a_speed a_four a_byRules a_hours a_rest a_yet a_put v_kept v_length v_items v_readItems v_at v_lists v_voters v_needed v_byRules v_cards v_county o9_0 v_holes) rfl rfl rfl rfl rfl rfl (ci := 11) rfl rfl (q0 := 0) rfl rfl rfl (Nat.le_of_ble_eq_true rfl) dX11_turned_138 (fun H locs hP hD hS => ?_)
            refine lv_istore (lv' := [(10, .int r10), (0, .ref a_this), (2, .int x2), (4, .int x4), (5, .int x5), (6, .int x6), (7, .int x7), (8, .int x8), (9, .int x9)]) hx hb dX11_turned_141 hl (by decide) rfl (fun ls hl => ?_)
            refine lv_iload hx hb dX11_turned_143 (lv_at hl 0 rfl) ?_
            refine lv_if_lt (tgt := 159) hx hb dX11_turned_145 (by decide) (fun c11 => ?_) (fun c11 => ?_)
            · have hf := wk_itT hf c11
              refine lv_iconst (v := (0 : Int32)) hx hb dX11_turned_159 (by decide) ?_
              refine lv_istore (lv' := [(8, .int (0 : Int32)), (10, .int r10), (0, .ref a_this), (2, .int x2), (4, .int x4), (5, .int x5), (6, .int x6), (7, .int x7), (9, .int x9)]) hx hb dX11_turned_160 hl (by decide) rfl (fun ls hl => ?_)
              obtain ⟨y12, ey12⟩ : ∃ y : Int32, y = x9 + (1 : Int32) := ⟨_, rfl⟩
              have hf := wk_nmE hf ey12
              refine lv_iinc (v := y12) (lv' := [(9, .int y12), (8, .int (0 : Int32)), (10, .int r10), (0, .ref a_this), (2, .int x2), (4, .int x4), (5, .int x5), (6, .int x6), (7, .int x7)]) hx hb dX11_turned_162 hl (k := 8) rfl (by rw [ey12]; rfl) (by decide) rfl (fun ls hl => ?_)
              refine lv_goto (tgt := 106) hx hb dX11_turned_165 (by decide) ?_
              exact ih106 _ _ _ _ _ _ _ _ _ hf _ _ _ hP hD hS (lv_sub hl [3, 4, 5, 6, 7, 8, 1, 0] rfl)
            · have hf := wk_itF hf c11
              refine lv_iload hx hb dX11_turned_148 (lv_at hl 0 rfl) ?_
              refine lv_iload hx hb dX11_turned_150 (lv_at hl 3 rfl) ?_
              refine lv_icmp_eq (tgt := 159) hx hb dX11_turned_152 (by decide) (fun c13 => ?_) (fun c13 => ?_)
              · have hf := wk_itT hf c13
                refine lv_iconst (v := (0 : Int32)) hx hb dX11_turned_159 (by decide) ?_
                refine lv_istore (lv' := [(8, .int (0 : Int32)), (10, .int r10), (0, .ref a_this), (2, .int x2), (4, .int x4), (5, .int x5), (6, .int x6), (7, .int x7), (9, .int x9)]) hx hb dX11_turned_160 hl (by decide) rfl (fun ls hl => ?_)
                obtain ⟨y14, ey14⟩ : ∃ y : Int32, y = x9 + (1 : Int32) := ⟨_, rfl⟩
                have hf := wk_nmE hf ey14
                refine lv_iinc (v := y14) (lv' := [(9, .int y14), (8, .int (0 : Int32)), (10, .int r10), (0, .ref a_this), (2, .int x2), (4, .int x4), (5, .int x5), (6, .int x6), (7, .int x7)]) hx hb dX11_turned_162 hl (k := 8) rfl (by rw [ey14]; rfl) (by decide) rfl (fun ls hl => ?_)
                refine lv_goto (tgt := 106) hx hb dX11_turned_165 (by decide) ?_
                exact ih106 _ _ _ _ _ _ _ _ _ hf _ _ _ hP hD hS (lv_sub hl [3, 4, 5, 6, 7, 8, 1, 0] rfl)
              · have hf := wk_itF hf c13
                refine lv_iconst (v := (1 : Int32)) hx hb dX11_turned_155 (by decide) ?_
                refine lv_goto (tgt := 160) hx hb dX11_turned_156 (by decide) ?_
                refine lv_istore (lv' := [(8, .int (1 : Int32)), (10, .int r10), (0, .ref a_this), (2, .int x2), (4, .int x4), (5, .int x5), (6, .int x6), (7, .int x7), (9, .int x9)]) hx hb dX11_turned_160 hl (by decide) rfl (fun ls hl => ?_)
                obtain ⟨y15, ey15⟩ : ∃ y : Int32, y = x9 + (1 : Int32) := ⟨_, rfl⟩
                have hf := wk_nmE hf ey15
                refine lv_iinc (v := y15) (lv' := [(9, .int y15), (8, .int (1 : Int32)), (10, .int r10), (0, .ref a_this), (2, .int x2), (4, .int x4), (5, .int x5), (6, .int x6), (7, .int x7)]) hx hb dX11_turned_162 hl (k := 8) rfl (by rw [ey15]; rfl) (by decide) rfl (fun ls hl => ?_)
                refine lv_goto (tgt := 106) hx hb dX11_turned_165 (by decide) ?_
                exact ih106 _ _ _ _ _ _ _ _ _ hf _ _ _ hP hD hS (lv_sub hl [3, 4, 5, 6, 7, 8, 1, 0] rfl))
    intro v_byRules v_four x2 x4 x5 x6 x7 hf H locs ls hP hD hS hl
    have hf : B_X11_turned_72 N v_cards v_county v_holes k72 v_byRules v_four x2 x4 x5 x6 x7 = some (r, o_byRules, o_four) := hf
    unfold B_X11_turned_72 at hf
    refine lv_iload hx hb dX11_turned_72 (lv_at hl 5 rfl) ?_
    refine lv_bipush (v := (32 : Int32)) hx hb dX11_turned_74 (by decide) ?_
    refine lv_icmp_ge (tgt := 188) hx hb dX11_turned_76 (by decide) (fun c16 => ?_) (fun c16 => ?_)
    · have hf := wk_itT hf c16
      refine lv_iload hx hb dX11_turned_188 (lv_at hl 4 rfl) ?_
      exact hret _ _ _ _ _ _ dX11_turned_190 (wk_rt hf (fun z => z.1)) (wk_rt hf (fun z => w_X11_turned cB cI cJ a_this a_cards a_county a_holes a_text a_letter a_where a_rank a_value a_hour a_readLetter a_readWhere a_readRank a_readValue a_readHour a_listName a_listDay a_voterName a_voterDay a_voterCounty a_heaps a_speed a_four a_byRules a_hours a_rest a_yet a_put v_kept v_length v_items v_readItems v_at v_lists v_voters v_needed (z.2.1) v_cards v_county (z.2.2) v_holes)) hP hD hS
    · have hf := wk_itF hf c16
      refine lv_iload hx hb dX11_turned_79 (lv_at hl 4 rfl) ?_
      refine lv_if_lt (tgt := 100) hx hb dX11_turned_81 (by decide) (fun c17 => ?_) (fun c17 => ?_)
      · have hf := wk_itT hf c17
        refine lv_iconst (v := (0 : Int32)) hx hb dX11_turned_100 (by decide) ?_
        refine lv_istore (lv' := [(8, .int (0 : Int32)), (0, .ref a_this), (2, .int x2), (4, .int x4), (5, .int x5), (6, .int x6), (7, .int x7)]) hx hb dX11_turned_101 hl (by decide) rfl (fun ls hl => ?_)
        refine lv_iconst (v := (0 : Int32)) hx hb dX11_turned_103 (by decide) ?_
        refine lv_istore (lv' := [(9, .int (0 : Int32)), (8, .int (0 : Int32)), (0, .ref a_this), (2, .int x2), (4, .int x4), (5, .int x5), (6, .int x6), (7, .int x7)]) hx hb dX11_turned_104 hl (by decide) rfl (fun ls hl => ?_)
        exact L106 N _ _ _ _ _ _ _ _ _ hf _ _ _ hP hD hS (lv_sub hl [2, 3, 4, 5, 6, 7, 1, 0] rfl)
      · have hf := wk_itF hf c17
        refine lv_iload hx hb dX11_turned_84 (lv_at hl 5 rfl) ?_
        obtain ⟨r18, hc18, hf⟩ := wk_b1E hf
        refine wk_callSi2 C hP hD hS (c_X11_size l D cB cI cJ N x7 hc18) (va_cwS 1 hts gX11_turned_X11_size rfl rfl rfl hd_X11_size.2 ⟨Nat.le_of_ble_eq_true rfl, Nat.le_of_ble_eq_true rfl⟩) hl.1 ⟨Nat.zero_le _, Nat.zero_le _⟩ [] [0, 1, 2, 3, 4, 5] 6 (by decide +kernel) rfl (Wn := w_X11_turned cB cI cJ a_this a_cards a_county a_holes a_text a_letter a_where a_rank a_value a_hour a_readLetter a_readWhere a_readRank a_readValue a_readHour a_listName a_listDay a_voterName a_voterDay a_voterCounty a_heaps a_speed a_four a_byRules a_hours a_rest a_yet a_put v_kept v_length v_items v_readItems v_at v_lists v_voters v_needed v_byRules v_cards v_county v_four v_holes) rfl rfl rfl rfl rfl rfl rfl rfl (Nat.le_of_ble_eq_true rfl) dX11_turned_86 (fun H locs hP hD hS => ?_)
        refine lv_iload hx hb dX11_turned_89 (lv_at hl 4 rfl) ?_
        obtain ⟨r19, hc19, hf⟩ := wk_b1E hf
        refine wk_callSi2 C hP hD hS (c_X11_size l D cB cI cJ N x6 hc19) (va_cwS 1 hts gX11_turned_X11_size rfl rfl rfl hd_X11_size.2 ⟨Nat.le_of_ble_eq_true rfl, Nat.le_of_ble_eq_true rfl⟩) hl.1 ⟨Nat.zero_le _, Nat.zero_le _⟩ [] [0, 1, 2, 3, 4, 5] 6 (by decide +kernel) rfl (Wn := w_X11_turned cB cI cJ a_this a_cards a_county a_holes a_text a_letter a_where a_rank a_value a_hour a_readLetter a_readWhere a_readRank a_readValue a_readHour a_listName a_listDay a_voterName a_voterDay a_voterCounty a_heaps a_speed a_four a_byRules a_hours a_rest a_yet a_put v_kept v_length v_items v_readItems v_at v_lists v_voters v_needed v_byRules v_cards v_county v_four v_holes) rfl rfl rfl rfl rfl rfl rfl rfl (Nat.le_of_ble_eq_true rfl) dX11_turned_91 (fun H locs hP hD hS => ?_)
        refine lv_icmp_lt (tgt := 100) hx hb dX11_turned_94 (by decide) (fun c20 => ?_) (fun c20 => ?_)
        · have hf := wk_itT hf c20
          refine lv_iconst (v := (0 : Int32)) hx hb dX11_turned_100 (by decide) ?_
          refine lv_istore (lv' := [(8, .int (0 : Int32)), (0, .ref a_this), (2, .int x2), (4, .int x4), (5, .int x5), (6, .int x6), (7, .int x7)]) hx hb dX11_turned_101 hl (by decide) rfl (fun ls hl => ?_)
          refine lv_iconst (v := (0 : Int32)) hx hb dX11_turned_103 (by decide) ?_
          refine lv_istore (lv' := [(9, .int (0 : Int32)), (8, .int (0 : Int32)), (0, .ref a_this), (2, .int x2), (4, .int x4), (5, .int x5), (6, .int x6), (7, .int x7)]) hx hb dX11_turned_104 hl (by decide) rfl (fun ls hl => ?_)
          exact L106 N _ _ _ _ _ _ _ _ _ hf _ _ _ hP hD hS (lv_sub hl [2, 3, 4, 5, 6, 7, 1, 0] rfl)
        · have hf := wk_itF hf c20
          refine lv_goto (tgt := 182) hx hb dX11_turned_97 (by decide) ?_
          obtain ⟨y21, ey21⟩ : ∃ y : Int32, y = x7 + (1 : Int32) := ⟨_, rfl⟩
          have hf := wk_nmE hf ey21
          refine lv_iinc (v := y21) (lv' := [(7, .int y21), (0, .ref a_this), (2, .int x2), (4, .int x4), (5, .int x5), (6, .int x6)]) hx hb dX11_turned_182 hl (k := 5) rfl (by rw [ey21]; rfl) (by decide) rfl (fun ls hl => ?_)
          refine lv_goto (tgt := 72) hx hb dX11_turned_185 (by decide) ?_
          exact ih72 _ _ _ _ _ _ _ hf _ _ _ hP hD hS (lv_sub hl [1, 2, 3, 4, 5, 0] rfl))
  unfold f_X11_turned at hf
  refine lv_iload_n hx hb dX11_turned_0 rfl (lv_at hl 1 rfl) ?_
  refine lv_i2l (v := (x1.toInt64)) hx hb dX11_turned_1 rfl ?_
  refine lv_lconst (v := (0 : Int64)) hx hb dX11_turned_2 (by decide) ?_
  refine lv_ldc2 (v := (2 : Int64)) hx hb hown (hts (.constantLong RX11 115 (2)) (List.mem_of_getElem? (i := 1) rfl)) dX11_turned_3 ?_
  obtain ⟨r22, hc22, hf⟩ := wk_b1E hf
  refine wk_callSi2 C hP hD hS (c_X11_in l D cB cI cJ N (x1.toInt64) (0 : Int64) (2 : Int64) hc22) (va_cwS 3 hts gX11_turned_X11_in rfl rfl rfl hd_X11_in.2 ⟨Nat.le_of_ble_eq_true rfl, Nat.le_of_ble_eq_true rfl⟩) hl.1 ⟨Nat.zero_le _, Nat.zero_le _⟩ [] [0, 1, 2, 3, 4, 5] 6 (by decide +kernel) rfl (Wn := w_X11_turned cB cI cJ a_this a_cards a_county a_holes a_text a_letter a_where a_rank a_value a_hour a_readLetter a_readWhere a_readRank a_readValue a_readHour a_listName a_listDay a_voterName a_voterDay a_voterCounty a_heaps a_speed a_four a_byRules a_hours a_rest a_yet a_put v_kept v_length v_items v_readItems v_at v_lists v_voters v_needed v_byRules v_cards v_county v_four v_holes) rfl rfl rfl rfl rfl rfl rfl rfl (Nat.le_of_ble_eq_true rfl) dX11_turned_6 (fun H locs hP hD hS => ?_)
  refine lv_if_eq (tgt := 36) hx hb dX11_turned_9 (by decide) (fun c23 => ?_) (fun c23 => ?_)
  · have hf := wk_itT hf c23
    refine lv_iconst (v := (-1 : Int32)) hx hb dX11_turned_36 (by decide) ?_
    exact hret _ _ _ _ _ _ dX11_turned_37 (wk_rt hf (fun z => z.1)) (wk_rt hf (fun z => w_X11_turned cB cI cJ a_this a_cards a_county a_holes a_text a_letter a_where a_rank a_value a_hour a_readLetter a_readWhere a_readRank a_readValue a_readHour a_listName a_listDay a_voterName a_voterDay a_voterCounty a_heaps a_speed a_four a_byRules a_hours a_rest a_yet a_put v_kept v_length v_items v_readItems v_at v_lists v_voters v_needed (z.2.1) v_cards v_county (z.2.2) v_holes)) hP hD hS
  · have hf := wk_itF hf c23
    refine lv_iload_n hx hb dX11_turned_12 rfl (lv_at hl 2 rfl) ?_
    refine lv_i2l (v := (x2.toInt64)) hx hb dX11_turned_13 rfl ?_
    refine lv_lconst (v := (1 : Int64)) hx hb dX11_turned_14 (by decide) ?_
    refine lv_ldc2 (v := (5 : Int64)) hx hb hown (hts (.constantLong RX11 157 (5)) (List.mem_of_getElem? (i := 2) rfl)) dX11_turned_15 ?_
    obtain ⟨r24, hc24, hf⟩ := wk_b1E hf
    refine wk_callSi2 C hP hD hS (c_X11_in l D cB cI cJ N (x2.toInt64) (1 : Int64) (5 : Int64) hc24) (va_cwS 3 hts gX11_turned_X11_in rfl rfl rfl hd_X11_in.2 ⟨Nat.le_of_ble_eq_true rfl, Nat.le_of_ble_eq_true rfl⟩) hl.1 ⟨Nat.zero_le _, Nat.zero_le _⟩ [] [0, 1, 2, 3, 4, 5] 6 (by decide +kernel) rfl (Wn := w_X11_turned cB cI cJ a_this a_cards a_county a_holes a_text a_letter a_where a_rank a_value a_hour a_readLetter a_readWhere a_readRank a_readValue a_readHour a_listName a_listDay a_voterName a_voterDay a_voterCounty a_heaps a_speed a_four a_byRules a_hours a_rest a_yet a_put v_kept v_length v_items v_readItems v_at v_lists v_voters v_needed v_byRules v_cards v_county v_four v_holes) rfl rfl rfl rfl rfl rfl rfl rfl (Nat.le_of_ble_eq_true rfl) dX11_turned_18 (fun H locs hP hD hS => ?_)
    refine lv_if_eq (tgt := 36) hx hb dX11_turned_21 (by decide) (fun c25 => ?_) (fun c25 => ?_)
    · have hf := wk_itT hf c25
      refine lv_iconst (v := (-1 : Int32)) hx hb dX11_turned_36 (by decide) ?_
      exact hret _ _ _ _ _ _ dX11_turned_37 (wk_rt hf (fun z => z.1)) (wk_rt hf (fun z => w_X11_turned cB cI cJ a_this a_cards a_county a_holes a_text a_letter a_where a_rank a_value a_hour a_readLetter a_readWhere a_readRank a_readValue a_readHour a_listName a_listDay a_voterName a_voterDay a_voterCounty a_heaps a_speed a_four a_byRules a_hours a_rest a_yet a_put v_kept v_length v_items v_readItems v_at v_lists v_voters v_needed (z.2.1) v_cards v_county (z.2.2) v_holes)) hP hD hS
    · have hf := wk_itF hf c25
      refine lv_iload_n hx hb dX11_turned_24 rfl (lv_at hl 3 rfl) ?_
      refine lv_i2l (v := (x3.toInt64)) hx hb dX11_turned_25 rfl ?_
      refine lv_lconst (v := (1 : Int64)) hx hb dX11_turned_26 (by decide) ?_
      refine lv_ldc2 (v := (31 : Int64)) hx hb hown (hts (.constantLong RX11 196 (31)) (List.mem_of_getElem? (i := 3) rfl)) dX11_turned_27 ?_
      obtain ⟨r26, hc26, hf⟩ := wk_b1E hf
      refine wk_callSi2 C hP hD hS (c_X11_in l D cB cI cJ N (x3.toInt64) (1 : Int64) (31 : Int64) hc26) (va_cwS 3 hts gX11_turned_X11_in rfl rfl rfl hd_X11_in.2 ⟨Nat.le_of_ble_eq_true rfl, Nat.le_of_ble_eq_true rfl⟩) hl.1 ⟨Nat.zero_le _, Nat.zero_le _⟩ [] [0, 1, 2, 3, 4, 5] 6 (by decide +kernel) rfl (Wn := w_X11_turned cB cI cJ a_this a_cards a_county a_holes a_text a_letter a_where a_rank a_value a_hour a_readLetter a_readWhere a_readRank a_readValue a_readHour a_listName a_listDay a_voterName a_voterDay a_voterCounty a_heaps a_speed a_four a_byRules a_hours a_rest a_yet a_put v_kept v_length v_items v_readItems v_at v_lists v_voters v_needed v_byRules v_cards v_county v_four v_holes) rfl rfl rfl rfl rfl rfl rfl rfl (Nat.le_of_ble_eq_true rfl) dX11_turned_30 (fun H locs hP hD hS => ?_)
      refine lv_if_ne (tgt := 38) hx hb dX11_turned_33 (by decide) (fun c27 => ?_) (fun c27 => ?_)
      · have hf := wk_itF hf c27
        refine lv_aload_n hx hb dX11_turned_38 rfl (lv_at hl 0 rfl) ?_
        refine lv_iload_n hx hb dX11_turned_39 rfl (lv_at hl 1 rfl) ?_
        refine lv_iload_n hx hb dX11_turned_40 rfl (lv_at hl 2 rfl) ?_
        obtain ⟨r28, o28_0, o28_1, hc28, hf⟩ := wk_b3E hf
        refine wk_callVi2 C hP hD hS (c_X11_byRule l D cB cI cJ N a_this a_cards a_county a_holes a_text a_letter a_where a_rank a_value a_hour a_readLetter a_readWhere a_readRank a_readValue a_readHour a_listName a_listDay a_voterName a_voterDay a_voterCounty a_heaps a_speed a_four a_byRules a_hours a_rest a_yet a_put v_kept v_length v_items v_readItems v_at v_lists v_voters v_needed v_byRules v_cards v_county v_four v_holes x1 x2 hc28) (cwV 2 hts gX11_turned_X11_byRule rfl rfl rfl hd_X11_byRule ⟨Nat.le_of_ble_eq_true rfl, Nat.le_of_ble_eq_true rfl⟩) hl.1 ⟨Nat.zero_le _, Nat.zero_le _⟩ [0, 1, 2, 3, 4, 5] [] 6 (by decide +kernel) rfl (Wn := w_X11_turned cB cI cJ a_this a_cards a_county a_holes a_text a_letter a_where a_rank a_value a_hour a_readLetter a_readWhere a_readRank a_readValue a_readHour a_listName a_listDay a_voterName a_voterDay a_voterCounty a_heaps a_speed a_four a_byRules a_hours a_rest a_yet a_put v_kept v_length v_items v_readItems v_at v_lists v_voters v_needed o28_0 v_cards v_county o28_1 v_holes) rfl rfl rfl rfl rfl rfl (ci := 11) rfl rfl (q0 := 0) rfl rfl rfl (Nat.le_of_ble_eq_true rfl) dX11_turned_41 (fun H locs hP hD hS => ?_)
        refine lv_istore (lv' := [(4, .int r28), (0, .ref a_this), (1, .int x1), (2, .int x2), (3, .int x3)]) hx hb dX11_turned_44 hl (by decide) rfl (fun ls hl => ?_)
        refine lv_iload hx hb dX11_turned_46 (lv_at hl 0 rfl) ?_
        refine lv_if_ge (tgt := 54) hx hb dX11_turned_48 (by decide) (fun c29 => ?_) (fun c29 => ?_)
        · have hf := wk_itT hf c29
          refine lv_iload_n hx hb dX11_turned_54 rfl (lv_at hl 4 rfl) ?_
          refine lv_iconst (v := (1 : Int32)) hx hb dX11_turned_55 (by decide) ?_
          refine lv_iload_n hx hb dX11_turned_56 rfl (lv_at hl 3 rfl) ?_
          refine lv_iconst (v := (1 : Int32)) hx hb dX11_turned_57 (by decide) ?_
          refine lv_isub hx hb dX11_turned_58 ?_
          refine lv_ishl hx hb dX11_turned_59 ?_
          refine lv_iconst (v := (-1 : Int32)) hx hb dX11_turned_60 (by decide) ?_
          refine lv_ixor hx hb dX11_turned_61 ?_
          refine lv_iand hx hb dX11_turned_62 ?_
          refine lv_topi (fun y30 ey30 => ?_)
          have hf := wk_nmE hf ey30
          refine lv_istore (lv' := [(5, .int y30), (4, .int r28), (0, .ref a_this), (1, .int x1), (2, .int x2), (3, .int x3)]) hx hb dX11_turned_63 hl (by decide) rfl (fun ls hl => ?_)
          refine lv_bipush (v := (-4 : Int32)) hx hb dX11_turned_65 (by decide) ?_
          refine lv_istore (lv' := [(6, .int (-4 : Int32)), (5, .int y30), (4, .int r28), (0, .ref a_this), (1, .int x1), (2, .int x2), (3, .int x3)]) hx hb dX11_turned_67 hl (by decide) rfl (fun ls hl => ?_)
          refine lv_iconst (v := (1 : Int32)) hx hb dX11_turned_69 (by decide) ?_
          refine lv_istore (lv' := [(7, .int (1 : Int32)), (6, .int (-4 : Int32)), (5, .int y30), (4, .int r28), (0, .ref a_this), (1, .int x1), (2, .int x2), (3, .int x3)]) hx hb dX11_turned_70 hl (by decide) rfl (fun ls hl => ?_)
          exact L72 N _ _ _ _ _ _ _ hf _ _ _ hP hD hS (lv_sub hl [4, 6, 3, 2, 1, 0] rfl)
        · have hf := wk_itF hf c29
          refine lv_bipush (v := (-2 : Int32)) hx hb dX11_turned_51 (by decide) ?_
          exact hret _ _ _ _ _ _ dX11_turned_53 (wk_rt hf (fun z => z.1)) (wk_rt hf (fun z => w_X11_turned cB cI cJ a_this a_cards a_county a_holes a_text a_letter a_where a_rank a_value a_hour a_readLetter a_readWhere a_readRank a_readValue a_readHour a_listName a_listDay a_voterName a_voterDay a_voterCounty a_heaps a_speed a_four a_byRules a_hours a_rest a_yet a_put v_kept v_length v_items v_readItems v_at v_lists v_voters v_needed (z.2.1) v_cards v_county (z.2.2) v_holes)) hP hD hS
      · have hf := wk_itT hf c27
        refine lv_iconst (v := (-1 : Int32)) hx hb dX11_turned_36 (by decide) ?_
        exact hret _ _ _ _ _ _ dX11_turned_37 (wk_rt hf (fun z => z.1)) (wk_rt hf (fun z => w_X11_turned cB cI cJ a_this a_cards a_county a_holes a_text a_letter a_where a_rank a_value a_hour a_readLetter a_readWhere a_readRank a_readValue a_readHour a_listName a_listDay a_voterName a_voterDay a_voterCounty a_heaps a_speed a_four a_byRules a_hours a_rest a_yet a_put v_kept v_length v_items v_readItems v_at v_lists v_voters v_needed (z.2.1) v_cards v_county (z.2.2) v_holes)) hP hD hS
abbrev w_X11_least (cB cI cJ : ClassId) (a_this : Nat) (a_cards : Nat) (a_county : Nat) (a_holes : Nat) (a_text : Nat) (a_letter : Nat) (a_where : Nat) (a_rank : Nat) (a_value : Nat) (a_hour : Nat) (a_readLetter : Nat) (a_readWhere : Nat) (a_readRank : Nat) (a_readValue : Nat) (a_readHour : Nat) (a_listName : Nat) (a_listDay : Nat) (a_voterName : Nat) (a_voterDay : Nat) (a_voterCounty : Nat) (a_heaps : Nat) (a_speed : Nat) (a_four : Nat) (a_byRules : Nat) (a_hours : Nat) (a_rest : Nat) (a_yet : Nat) (a_put : Nat) (v_kept : Int32) (v_length : Int32) (v_items : Int32) (v_readItems : Int32) (v_at : Int32) (v_lists : Int32) (v_voters : Int32) (v_needed : Int32) (v_cards : Nat → Int32) (v_county : Nat → Int32) (v_four : Nat → Int32) (v_holes : Nat → Int32) (v_hour : Nat → Int32) (v_letter : Nat → Int32) (v_rank : Nat → Int32) (v_value : Nat → Int32) (v_where : Nat → Int32) : va_W := [(a_this, .inr (11, [.ref a_cards, .ref a_county, .ref a_holes, .int v_kept, .int v_length, .ref a_text, .int v_items, .ref a_letter, .ref a_where, .ref a_rank, .ref a_value, .ref a_hour, .int v_readItems, .ref a_readLetter, .ref a_readWhere, .ref a_readRank, .ref a_readValue, .ref a_readHour, .int v_at, .int v_lists, .ref a_listName, .ref a_listDay, .int v_voters, .ref a_voterName, .ref a_voterDay, .ref a_voterCounty, .int v_needed, .ref a_heaps, .ref a_speed, .ref a_four, .ref a_byRules, .ref a_hours, .ref a_rest, .ref a_yet, .ref a_put])), (a_cards, .inl (cI, 3, .inl v_cards)), (a_county, .inl (cI, 120, .inl v_county)), (a_four, .inl (cI, 4, .inl v_four)), (a_holes, .inl (cI, 1440, .inl v_holes)), (a_hour, .inl (cI, 40, .inl v_hour)), (a_letter, .inl (cI, 40, .inl v_letter)), (a_rank, .inl (cI, 40, .inl v_rank)), (a_value, .inl (cI, 40, .inl v_value)), (a_where, .inl (cI, 40, .inl v_where))]
theorem hd_X11_least : yX11_least.cls = RX11 ∧ yX11_least.cls ≠ "java/lang/invoke/MethodHandle" ∧ yX11_least.cls ≠ "java/lang/invoke/VarHandle" ∧ (parseMethodDescriptor yX11_least.desc).map (fun d => d.parameters.length) = some 3 := by decide +kernel
abbrev rm_X11_least : Room := { frames := 4, cells := 0, slots := 0, locals := 103 }
theorem in_X11_least_X11 : ∀ w ∈ wsX110, w ∈ wsX11_least := fun w h => List.mem_cons_of_mem _ (List.mem_append_right _ h)
set_option maxHeartbeats 4000000 in
set_option maxRecDepth 100000 in
theorem c_X11_least (l : Launch) (D : va_G) (cB cI cJ : ClassId) (N : Nat) (a_this : Nat) (a_cards : Nat) (a_county : Nat) (a_holes : Nat) (a_text : Nat) (a_letter : Nat) (a_where : Nat) (a_rank : Nat) (a_value : Nat) (a_hour : Nat) (a_readLetter : Nat) (a_readWhere : Nat) (a_readRank : Nat) (a_readValue : Nat) (a_readHour : Nat) (a_listName : Nat) (a_listDay : Nat) (a_voterName : Nat) (a_voterDay : Nat) (a_voterCounty : Nat) (a_heaps : Nat) (a_speed : Nat) (a_four : Nat) (a_byRules : Nat) (a_hours : Nat) (a_rest : Nat) (a_yet : Nat) (a_put : Nat) (v_kept : Int32) (v_length : Int32) (v_items : Int32) (v_readItems : Int32) (v_at : Int32) (v_lists : Int32) (v_voters : Int32) (v_needed : Int32) (v_cards : Nat → Int32) (v_county : Nat → Int32) (v_four : Nat → Int32) (v_holes : Nat → Int32) (v_hour : Nat → Int32) (v_letter : Nat → Int32) (v_rank : Nat → Int32) (v_value : Nat → Int32) (v_where : Nat → Int32) (x1 : Int32) (x2 : Int32) (x3 : Int32) {r : Int32} {o_four : Nat → Int32} (hf : f_X11_least N v_items v_cards v_county v_holes v_hour v_letter v_rank v_value v_where v_four x1 x2 x3 = some (r, o_four)) : MTi l yX11_least wsX11_least rm_X11_least D (wk_T cB cI cJ) [.ref a_this, .int x1, .int x2, .int x3] (w_X11_least cB cI cJ a_this a_cards a_county a_holes a_text a_letter a_where a_rank a_value a_hour a_readLetter a_readWhere a_readRank a_readValue a_readHour a_listName a_listDay a_voterName a_voterDay a_voterCounty a_heaps a_speed a_four a_byRules a_hours a_rest a_yet a_put v_kept v_length v_items v_readItems v_at v_lists v_voters v_needed v_cards v_county v_four v_holes v_hour v_letter v_rank v_value v_where) (w_X11_least cB cI cJ a_this a_cards a_county a_holes a_text a_letter a_where a_rank a_value a_hour a_readLetter a_readWhere a_readRank a_readValue a_readHour a_listName a_listDay a_voterName a_voterDay a_voterCounty a_heaps a_speed a_four a_byRules a_hours a_rest a_yet a_put v_kept v_length v_items v_readItems v_at v_lists v_voters v_needed v_cards v_county o_four v_holes v_hour v_letter v_rank v_value v_where) r := by
  refine MTi.of (cc := cX11_least) (nL := 8) (rt := .int) (own := RX11) pn_X11 rfl rfl (Nat.le_of_ble_eq_true rfl) rfl ?_
  intro p e s m args below meth c A ls Q C hP hD hS hl hret
  obtain ⟨hx, hb, hml, hts, hown, hK, hN, hA, hlk⟩ := id C
  have hl : lv_has ls 8 [(0, .ref a_this), (1, .int x1), (2, .int x2), (3, .int x3)] := hl
  have L68 := wk_loopI (F := (fun k68 : (Nat → Int32) → Int32 → Int32 → Option (Int32 × (Nat → Int32)) => B_X11_least_68 N v_items v_cards v_county v_holes v_hour v_letter v_rank v_value v_where k68)) (bot := fun _ _ _ => none) (fun k68 : (Nat → Int32) → Int32 → Int32 → Option (Int32 × (Nat → Int32)) => ∀ (v_four : Nat → Int32) (x2 : Int32) (x4 : Int32), k68 v_four x2 x4 = some (r, o_four) → ∀ (H : Heap) (locs : List Loc) (ls : Array Slot), va_P D vwCl (w_X11_least cB cI cJ a_this a_cards a_county a_holes a_text a_letter a_where a_rank a_value a_hour a_readLetter a_readWhere a_readRank a_readValue a_readHour a_listName a_listDay a_voterName a_voterDay a_voterCounty a_heaps a_speed a_four a_byRules a_hours a_rest a_yet a_put v_kept v_length v_items v_readItems v_at v_lists v_voters v_needed v_cards v_county v_four v_holes v_hour v_letter v_rank v_value v_where) H → va_D A (w_X11_least cB cI cJ a_this a_cards a_county a_holes a_text a_letter a_where a_rank a_value a_hour a_readLetter a_readWhere a_readRank a_readValue a_readHour a_listName a_listDay a_voterName a_voterDay a_voterCounty a_heaps a_speed a_four a_byRules a_hours a_rest a_yet a_put v_kept v_length v_items v_readItems v_at v_lists v_voters v_needed v_cards v_county v_four v_holes v_hour v_letter v_rank v_value v_where) → va_S A s.heap H locs → lv_has ls 8 [(0, .ref a_this), (2, .int x2), (4, .int x4)] → W p l e rm_X11_least s m args below meth c H locs 0 0 Q (F0 m 68 ls [])) (by intro v_four x2 x4 hf; exact wk_no hf) (by
    intro k68 ih68
    have L103 := wk_loopI (F := (fun k103 : (Nat → Int32) → Int32 → Int32 → Int32 → Int32 → Int32 → Option (Int32 × (Nat → Int32)) => B_X11_least_103 N v_items v_cards v_county v_holes v_hour v_letter v_rank v_value v_where k68 k103)) (bot := fun _ _ _ _ _ _ => none) (fun k103 : (Nat → Int32) → Int32 → Int32 → Int32 → Int32 → Int32 → Option (Int32 × (Nat → Int32)) => ∀ (v_four : Nat → Int32) (x2 : Int32) (x4 : Int32) (x5 : Int32) (x6 : Int32) (x7 : Int32), k103 v_four x2 x4 x5 x6 x7 = some (r, o_four) → ∀ (H : Heap) (locs : List Loc) (ls : Array Slot), va_P D vwCl (w_X11_least cB cI cJ a_this a_cards a_county a_holes a_text a_letter a_where a_rank a_value a_hour a_readLetter a_readWhere a_readRank a_readValue a_readHour a_listName a_listDay a_voterName a_voterDay a_voterCounty a_heaps a_speed a_four a_byRules a_hours a_rest a_yet a_put v_kept v_length v_items v_readItems v_at v_lists v_voters v_needed v_cards v_county v_four v_holes v_hour v_letter v_rank v_value v_where) H → va_D A (w_X11_least cB cI cJ a_this a_cards a_county a_holes a_text a_letter a_where a_rank a_value a_hour a_readLetter a_readWhere a_readRank a_readValue a_readHour a_listName a_listDay a_voterName a_voterDay a_voterCounty a_heaps a_speed a_four a_byRules a_hours a_rest a_yet a_put v_kept v_length v_items v_readItems v_at v_lists v_voters v_needed v_cards v_county v_four v_holes v_hour v_letter v_rank v_value v_where) → va_S A s.heap H locs → lv_has ls 8 [(0, .ref a_this), (2, .int x2), (4, .int x4), (5, .int x5), (6, .int x6), (7, .int x7)] → W p l e rm_X11_least s m args below meth c H locs 0 0 Q (F0 m 103 ls [])) (by intro v_four x2 x4 x5 x6 x7 hf; exact wk_no hf) (by
      intro k103 ih103
      intro v_four x2 x4 x5 x6 x7 hf H locs ls hP hD hS hl
      have hf : B_X11_least_103 N v_items v_cards v_county v_holes v_hour v_letter v_rank v_value v_where k68 k103 v_four x2 x4 x5 x6 x7 = some (r, o_four) := hf
      unfold B_X11_least_103 at hf
      refine lv_iload hx hb dX11_least_103 (lv_at hl 5 rfl) ?_
      refine lv_iconst (v := (4 : Int32)) hx hb dX11_least_105 (by decide) ?_
      refine lv_icmp_ge (tgt := 154) hx hb dX11_least_106 (by decide) (fun c1 => ?_) (fun c1 => ?_)
      · have hf := wk_itT hf c1
        refine lv_iload hx hb dX11_least_154 (lv_at hl 3 rfl) ?_
        refine lv_if_le (tgt := 169) hx hb dX11_least_156 (by decide) (fun c2 => ?_) (fun c2 => ?_)
        · have hf := wk_itT hf c2
          obtain ⟨y3, ey3⟩ : ∃ y : Int32, y = x4 + (1 : Int32) := ⟨_, rfl⟩
          have hf := wk_nmE hf ey3
          refine lv_iinc (v := y3) (lv' := [(4, .int y3), (0, .ref a_this), (2, .int x2), (5, .int x5), (6, .int x6), (7, .int x7)]) hx hb dX11_least_169 hl (k := 2) rfl (by rw [ey3]; rfl) (by decide) rfl (fun ls hl => ?_)
          refine lv_goto (tgt := 68) hx hb dX11_least_172 (by decide) ?_
          exact ih68 _ _ _ hf _ _ _ hP hD hS (lv_sub hl [1, 2, 0] rfl)
        · have hf := wk_itF hf c2
          refine lv_iload hx hb dX11_least_159 (lv_at hl 4 rfl) ?_
          refine lv_iload hx hb dX11_least_161 (lv_at hl 2 rfl) ?_
          refine lv_icmp_gt (tgt := 169) hx hb dX11_least_163 (by decide) (fun c4 => ?_) (fun c4 => ?_)
          · have hf := wk_itT hf c4
            obtain ⟨y5, ey5⟩ : ∃ y : Int32, y = x4 + (1 : Int32) := ⟨_, rfl⟩
            have hf := wk_nmE hf ey5
            refine lv_iinc (v := y5) (lv' := [(4, .int y5), (0, .ref a_this), (2, .int x2), (5, .int x5), (6, .int x6), (7, .int x7)]) hx hb dX11_least_169 hl (k := 2) rfl (by rw [ey5]; rfl) (by decide) rfl (fun ls hl => ?_)
            refine lv_goto (tgt := 68) hx hb dX11_least_172 (by decide) ?_
            exact ih68 _ _ _ hf _ _ _ hP hD hS (lv_sub hl [1, 2, 0] rfl)
          · have hf := wk_itF hf c4
            refine lv_iload hx hb dX11_least_166 (lv_at hl 2 rfl) ?_
            exact hret _ _ _ _ _ _ dX11_least_168 (wk_rt hf (fun z => z.1)) (wk_rt hf (fun z => w_X11_least cB cI cJ a_this a_cards a_county a_holes a_text a_letter a_where a_rank a_value a_hour a_readLetter a_readWhere a_readRank a_readValue a_readHour a_listName a_listDay a_voterName a_voterDay a_voterCounty a_heaps a_speed a_four a_byRules a_hours a_rest a_yet a_put v_kept v_length v_items v_readItems v_at v_lists v_voters v_needed v_cards v_county (z.2) v_holes v_hour v_letter v_rank v_value v_where)) hP hD hS
      · have hf := wk_itF hf c1
        refine lv_iload hx hb dX11_least_109 (lv_at hl 4 rfl) ?_
        refine lv_iload hx hb dX11_least_111 (lv_at hl 5 rfl) ?_
        refine lv_iload_n hx hb dX11_least_113 rfl (lv_at hl 1 rfl) ?_
        refine lv_icmp_eq (tgt := 144) hx hb dX11_least_114 (by decide) (fun c6 => ?_) (fun c6 => ?_)
        · have hf := wk_itT hf c6
          refine lv_iconst (v := (0 : Int32)) hx hb dX11_least_144 (by decide) ?_
          refine lv_iadd hx hb dX11_least_145 ?_
          refine lv_topi (fun y7 ey7 => ?_)
          have hf := wk_nmE hf ey7
          refine lv_istore (lv' := [(6, .int y7), (0, .ref a_this), (2, .int x2), (4, .int x4), (5, .int x5), (7, .int x7)]) hx hb dX11_least_146 hl (by decide) rfl (fun ls hl => ?_)
          obtain ⟨y8, ey8⟩ : ∃ y : Int32, y = x7 + (1 : Int32) := ⟨_, rfl⟩
          have hf := wk_nmE hf ey8
          refine lv_iinc (v := y8) (lv' := [(7, .int y8), (6, .int y7), (0, .ref a_this), (2, .int x2), (4, .int x4), (5, .int x5)]) hx hb dX11_least_148 hl (k := 5) rfl (by rw [ey8]; rfl) (by decide) rfl (fun ls hl => ?_)
          refine lv_goto (tgt := 103) hx hb dX11_least_151 (by decide) ?_
          exact ih103 _ _ _ _ _ _ hf _ _ _ hP hD hS (lv_sub hl [2, 3, 4, 5, 1, 0] rfl)
        · have hf := wk_itF hf c6
          refine lv_aload_n hx hb dX11_least_117 rfl (lv_at hl 0 rfl) ?_
          refine va_get (D := D) (ci := 11) (v := .ref a_four) (C := RX11) (T := TX11) (N := 35) hx hb hts in_X11_least_X11 hown hK hP 0 rfl rfl 29 (by decide) (hts (.fieldLink RX11 79 "HangingCardsModel" "four" "[I") (List.mem_of_getElem? (i := 3) rfl)) (fun _ h9 => h9) rfl dX11_least_118 ?_
          refine lv_iload hx hb dX11_least_121 (lv_at hl 5 rfl) ?_
          obtain ⟨hi9, hf⟩ := wk_ckE hf
          refine va_iald hx hb hK hP 3 0 rfl rfl hi9 dX11_least_123 ?_
          refine lv_iload hx hb dX11_least_124 (lv_at hl 3 rfl) ?_
          refine lv_icmp_lt (tgt := 144) hx hb dX11_least_126 (by decide) (fun c10 => ?_) (fun c10 => ?_)
          · have hf := wk_itT hf c10
            refine lv_iconst (v := (0 : Int32)) hx hb dX11_least_144 (by decide) ?_
            refine lv_iadd hx hb dX11_least_145 ?_
            refine lv_topi (fun y11 ey11 => ?_)
            have hf := wk_nmE hf ey11
            refine lv_istore (lv' := [(6, .int y11), (0, .ref a_this), (2, .int x2), (4, .int x4), (5, .int x5), (7, .int x7)]) hx hb dX11_least_146 hl (by decide) rfl (fun ls hl => ?_)
            obtain ⟨y12, ey12⟩ : ∃ y : Int32, y = x7 + (1 : Int32) := ⟨_, rfl⟩
            have hf := wk_nmE hf ey12
            refine lv_iinc (v := y12) (lv' := [(7, .int y12), (6, .int y11), (0, .ref a_this), (2, .int x2), (4, .int x4), (5, .int x5)]) hx hb dX11_least_148 hl (k := 5) rfl (by rw [ey12]; rfl) (by decide) rfl (fun ls hl => ?_)
            refine lv_goto (tgt := 103) hx hb dX11_least_151 (by decide) ?_
            exact ih103 _ _ _ _ _ _ hf _ _ _ hP hD hS (lv_sub hl [2, 3, 4, 5, 1, 0] rfl)
          · have hf := wk_itF hf c10
            refine lv_aload_n hx hb dX11_least_129 rfl (lv_at hl 0 rfl) ?_
            refine va_get (D := D) (ci := 11) (v := .ref a_four) (C := RX11) (T := TX11) (N := 35) hx hb hts in_X11_least_X11 hown hK hP 0 rfl rfl 29 (by decide) (hts (.fieldLink RX11 79 "HangingCardsModel" "four" "[I") (List.mem_of_getElem? (i := 3) rfl)) (fun _ h9 => h9) rfl dX11_least_130 ?_
            refine lv_iload hx hb dX11_least_133 (lv_at hl 5 rfl) ?_
            obtain ⟨hi13, hf⟩ := wk_ckE hf
            refine va_iald hx hb hK hP 3 0 rfl rfl hi13 dX11_least_135 ?_
            refine lv_iload hx hb dX11_least_136 (lv_at hl 3 rfl) ?_
            refine lv_isub hx hb dX11_least_138 ?_
            refine lv_iconst (v := (1 : Int32)) hx hb dX11_least_139 (by decide) ?_
            refine lv_iadd hx hb dX11_least_140 ?_
            refine lv_goto (tgt := 145) hx hb dX11_least_141 (by decide) ?_
            refine lv_iadd hx hb dX11_least_145 ?_
            refine lv_topi (fun y14 ey14 => ?_)
            have hf := wk_nmE hf ey14
            refine lv_istore (lv' := [(6, .int y14), (0, .ref a_this), (2, .int x2), (4, .int x4), (5, .int x5), (7, .int x7)]) hx hb dX11_least_146 hl (by decide) rfl (fun ls hl => ?_)
            obtain ⟨y15, ey15⟩ : ∃ y : Int32, y = x7 + (1 : Int32) := ⟨_, rfl⟩
            have hf := wk_nmE hf ey15
            refine lv_iinc (v := y15) (lv' := [(7, .int y15), (6, .int y14), (0, .ref a_this), (2, .int x2), (4, .int x4), (5, .int x5)]) hx hb dX11_least_148 hl (k := 5) rfl (by rw [ey15]; rfl) (by decide) rfl (fun ls hl => ?_)
            refine lv_goto (tgt := 103) hx hb dX11_least_151 (by decide) ?_
            exact ih103 _ _ _ _ _ _ hf _ _ _ hP hD hS (lv_sub hl [2, 3, 4, 5, 1, 0] rfl))
    intro v_four x2 x4 hf H locs ls hP hD hS hl
    have hf : B_X11_least_68 N v_items v_cards v_county v_holes v_hour v_letter v_rank v_value v_where k68 v_four x2 x4 = some (r, o_four) := hf
    unfold B_X11_least_68 at hf
    refine lv_iload hx hb dX11_least_68 (lv_at hl 2 rfl) ?_
    refine lv_aload_n hx hb dX11_least_70 rfl (lv_at hl 0 rfl) ?_
    refine va_get (D := D) (ci := 11) (v := .ref a_cards) (C := RX11) (T := TX11) (N := 35) hx hb hts in_X11_least_X11 hown hK hP 0 rfl rfl 0 (by decide) (hts (.fieldLink RX11 7 "HangingCardsModel" "cards" "[I") (List.mem_of_getElem? (i := 4) rfl)) (fun _ h9 => h9) rfl dX11_least_71 ?_
    refine lv_iconst (v := (0 : Int32)) hx hb dX11_least_74 (by decide) ?_
    obtain ⟨hi16, hf⟩ := wk_ckE hf
    refine va_iald hx hb hK hP 1 0 rfl rfl hi16 dX11_least_75 ?_
    refine lv_aload_n hx hb dX11_least_76 rfl (lv_at hl 0 rfl) ?_
    refine va_get (D := D) (ci := 11) (v := .ref a_four) (C := RX11) (T := TX11) (N := 35) hx hb hts in_X11_least_X11 hown hK hP 0 rfl rfl 29 (by decide) (hts (.fieldLink RX11 79 "HangingCardsModel" "four" "[I") (List.mem_of_getElem? (i := 3) rfl)) (fun _ h9 => h9) rfl dX11_least_77 ?_
    refine lv_iload_n hx hb dX11_least_80 rfl (lv_at hl 1 rfl) ?_
    obtain ⟨hi17, hf⟩ := wk_ckE hf
    refine va_iald hx hb hK hP 3 0 rfl rfl hi17 dX11_least_81 ?_
    refine lv_isub hx hb dX11_least_82 ?_
    refine lv_icmp_gt (tgt := 175) hx hb dX11_least_83 (by decide) (fun c18 => ?_) (fun c18 => ?_)
    · have hf := wk_itT hf c18
      refine lv_bipush (v := (-4 : Int32)) hx hb dX11_least_175 (by decide) ?_
      exact hret _ _ _ _ _ _ dX11_least_177 (wk_rt hf (fun z => z.1)) (wk_rt hf (fun z => w_X11_least cB cI cJ a_this a_cards a_county a_holes a_text a_letter a_where a_rank a_value a_hour a_readLetter a_readWhere a_readRank a_readValue a_readHour a_listName a_listDay a_voterName a_voterDay a_voterCounty a_heaps a_speed a_four a_byRules a_hours a_rest a_yet a_put v_kept v_length v_items v_readItems v_at v_lists v_voters v_needed v_cards v_county (z.2) v_holes v_hour v_letter v_rank v_value v_where)) hP hD hS
    · have hf := wk_itF hf c18
      refine lv_aload_n hx hb dX11_least_86 rfl (lv_at hl 0 rfl) ?_
      refine va_get (D := D) (ci := 11) (v := .ref a_four) (C := RX11) (T := TX11) (N := 35) hx hb hts in_X11_least_X11 hown hK hP 0 rfl rfl 29 (by decide) (hts (.fieldLink RX11 79 "HangingCardsModel" "four" "[I") (List.mem_of_getElem? (i := 3) rfl)) (fun _ h9 => h9) rfl dX11_least_87 ?_
      refine lv_iload_n hx hb dX11_least_90 rfl (lv_at hl 1 rfl) ?_
      obtain ⟨hi19, hf⟩ := wk_ckE hf
      refine va_iald hx hb hK hP 3 0 rfl rfl hi19 dX11_least_91 ?_
      refine lv_iload hx hb dX11_least_92 (lv_at hl 2 rfl) ?_
      refine lv_iadd hx hb dX11_least_94 ?_
      refine lv_topi (fun y20 ey20 => ?_)
      have hf := wk_nmE hf ey20
      refine lv_istore (lv' := [(5, .int y20), (0, .ref a_this), (2, .int x2), (4, .int x4)]) hx hb dX11_least_95 hl (by decide) rfl (fun ls hl => ?_)
      refine lv_iconst (v := (0 : Int32)) hx hb dX11_least_97 (by decide) ?_
      refine lv_istore (lv' := [(6, .int (0 : Int32)), (5, .int y20), (0, .ref a_this), (2, .int x2), (4, .int x4)]) hx hb dX11_least_98 hl (by decide) rfl (fun ls hl => ?_)
      refine lv_iconst (v := (0 : Int32)) hx hb dX11_least_100 (by decide) ?_
      refine lv_istore (lv' := [(7, .int (0 : Int32)), (6, .int (0 : Int32)), (5, .int y20), (0, .ref a_this), (2, .int x2), (4, .int x4)]) hx hb dX11_least_101 hl (by decide) rfl (fun ls hl => ?_)
      exact L103 N _ _ _ _ _ _ hf _ _ _ hP hD hS (lv_sub hl [3, 4, 5, 2, 1, 0] rfl))
  have L36 := wk_loopI (F := (fun k36 : (Nat → Int32) → Int32 → Int32 → Int32 → Int32 → Option (Int32 × (Nat → Int32)) => B_X11_least_36 N v_items v_cards v_county v_holes v_hour v_letter v_rank v_value v_where k36)) (bot := fun _ _ _ _ _ => none) (fun k36 : (Nat → Int32) → Int32 → Int32 → Int32 → Int32 → Option (Int32 × (Nat → Int32)) => ∀ (v_four : Nat → Int32) (x1 : Int32) (x2 : Int32) (x3 : Int32) (x4 : Int32), k36 v_four x1 x2 x3 x4 = some (r, o_four) → ∀ (H : Heap) (locs : List Loc) (ls : Array Slot), va_P D vwCl (w_X11_least cB cI cJ a_this a_cards a_county a_holes a_text a_letter a_where a_rank a_value a_hour a_readLetter a_readWhere a_readRank a_readValue a_readHour a_listName a_listDay a_voterName a_voterDay a_voterCounty a_heaps a_speed a_four a_byRules a_hours a_rest a_yet a_put v_kept v_length v_items v_readItems v_at v_lists v_voters v_needed v_cards v_county v_four v_holes v_hour v_letter v_rank v_value v_where) H → va_D A (w_X11_least cB cI cJ a_this a_cards a_county a_holes a_text a_letter a_where a_rank a_value a_hour a_readLetter a_readWhere a_readRank a_readValue a_readHour a_listName a_listDay a_voterName a_voterDay a_voterCounty a_heaps a_speed a_four a_byRules a_hours a_rest a_yet a_put v_kept v_length v_items v_readItems v_at v_lists v_voters v_needed v_cards v_county v_four v_holes v_hour v_letter v_rank v_value v_where) → va_S A s.heap H locs → lv_has ls 8 [(0, .ref a_this), (1, .int x1), (2, .int x2), (3, .int x3), (4, .int x4)] → W p l e rm_X11_least s m args below meth c H locs 0 0 Q (F0 m 36 ls [])) (by intro v_four x1 x2 x3 x4 hf; exact wk_no hf) (by
    intro k36 ih36
    intro v_four x1 x2 x3 x4 hf H locs ls hP hD hS hl
    have hf : B_X11_least_36 N v_items v_cards v_county v_holes v_hour v_letter v_rank v_value v_where k36 v_four x1 x2 x3 x4 = some (r, o_four) := hf
    unfold B_X11_least_36 at hf
    refine lv_iload hx hb dX11_least_36 (lv_at hl 4 rfl) ?_
    refine lv_iconst (v := (4 : Int32)) hx hb dX11_least_38 (by decide) ?_
    refine lv_icmp_ge (tgt := 65) hx hb dX11_least_39 (by decide) (fun c21 => ?_) (fun c21 => ?_)
    · have hf := wk_itT hf c21
      refine lv_iconst (v := (0 : Int32)) hx hb dX11_least_65 (by decide) ?_
      refine lv_istore (lv' := [(4, .int (0 : Int32)), (0, .ref a_this), (1, .int x1), (2, .int x2), (3, .int x3)]) hx hb dX11_least_66 hl (by decide) rfl (fun ls hl => ?_)
      exact L68 N _ _ _ hf _ _ _ hP hD hS (lv_sub hl [1, 3, 0] rfl)
    · have hf := wk_itF hf c21
      refine lv_aload_n hx hb dX11_least_42 rfl (lv_at hl 0 rfl) ?_
      refine va_get (D := D) (ci := 11) (v := .ref a_four) (C := RX11) (T := TX11) (N := 35) hx hb hts in_X11_least_X11 hown hK hP 0 rfl rfl 29 (by decide) (hts (.fieldLink RX11 79 "HangingCardsModel" "four" "[I") (List.mem_of_getElem? (i := 3) rfl)) (fun _ h9 => h9) rfl dX11_least_43 ?_
      refine lv_iload hx hb dX11_least_46 (lv_at hl 4 rfl) ?_
      refine lv_aload_n hx hb dX11_least_48 rfl (lv_at hl 0 rfl) ?_
      refine lv_iconst (v := (5 : Int32)) hx hb dX11_least_49 (by decide) ?_
      refine lv_iload_n hx hb dX11_least_50 rfl (lv_at hl 1 rfl) ?_
      refine lv_iload hx hb dX11_least_51 (lv_at hl 4 rfl) ?_
      refine lv_iload_n hx hb dX11_least_53 rfl (lv_at hl 3 rfl) ?_
      refine lv_iconst (v := (0 : Int32)) hx hb dX11_least_54 (by decide) ?_
      obtain ⟨r22, hc22, hf⟩ := wk_b1E hf
      refine wk_callVi2 C hP hD hS (c_X11_countedOf l D cB cI cJ N a_this a_cards a_county a_holes a_text a_letter a_where a_rank a_value a_hour a_readLetter a_readWhere a_readRank a_readValue a_readHour a_listName a_listDay a_voterName a_voterDay a_voterCounty a_heaps a_speed a_four a_byRules a_hours a_rest a_yet a_put v_kept v_length v_items v_readItems v_at v_lists v_voters v_needed v_cards v_county v_holes v_hour v_letter v_rank v_value v_where (5 : Int32) x1 x4 x3 (0 : Int32) hc22) (cwV 5 hts gX11_least_X11_countedOf rfl rfl rfl hd_X11_countedOf ⟨Nat.le_of_ble_eq_true rfl, Nat.le_of_ble_eq_true rfl⟩) hl.1 ⟨Nat.zero_le _, Nat.zero_le _⟩ [0, 1, 2, 4, 5, 6, 7, 8, 9] [3] 10 (by decide +kernel) rfl (Wn := w_X11_least cB cI cJ a_this a_cards a_county a_holes a_text a_letter a_where a_rank a_value a_hour a_readLetter a_readWhere a_readRank a_readValue a_readHour a_listName a_listDay a_voterName a_voterDay a_voterCounty a_heaps a_speed a_four a_byRules a_hours a_rest a_yet a_put v_kept v_length v_items v_readItems v_at v_lists v_voters v_needed v_cards v_county v_four v_holes v_hour v_letter v_rank v_value v_where) rfl rfl rfl rfl rfl rfl (ci := 11) rfl rfl (q0 := 0) rfl rfl rfl (Nat.le_of_ble_eq_true rfl) dX11_least_55 (fun H locs hP hD hS => ?_)
      obtain ⟨hi23, hf⟩ := wk_ckE hf
      refine va_iast hx hb hK hP hD hS 3 0 rfl rfl hi23 dX11_least_58 (fun H locs hP hD hS => ?_)
      have hP : va_P D vwCl (w_X11_least cB cI cJ a_this a_cards a_county a_holes a_text a_letter a_where a_rank a_value a_hour a_readLetter a_readWhere a_readRank a_readValue a_readHour a_listName a_listDay a_voterName a_voterDay a_voterCounty a_heaps a_speed a_four a_byRules a_hours a_rest a_yet a_put v_kept v_length v_items v_readItems v_at v_lists v_voters v_needed v_cards v_county (upd v_four x4.toNatClampNeg r22) v_holes v_hour v_letter v_rank v_value v_where) H := hP
      have hD : va_D A (w_X11_least cB cI cJ a_this a_cards a_county a_holes a_text a_letter a_where a_rank a_value a_hour a_readLetter a_readWhere a_readRank a_readValue a_readHour a_listName a_listDay a_voterName a_voterDay a_voterCounty a_heaps a_speed a_four a_byRules a_hours a_rest a_yet a_put v_kept v_length v_items v_readItems v_at v_lists v_voters v_needed v_cards v_county (upd v_four x4.toNatClampNeg r22) v_holes v_hour v_letter v_rank v_value v_where) := hD
      obtain ⟨y24, ey24⟩ : ∃ y : Int32, y = x4 + (1 : Int32) := ⟨_, rfl⟩
      have hf := wk_nmE hf ey24
      refine lv_iinc (v := y24) (lv' := [(4, .int y24), (0, .ref a_this), (1, .int x1), (2, .int x2), (3, .int x3)]) hx hb dX11_least_59 hl (k := 4) rfl (by rw [ey24]; rfl) (by decide) rfl (fun ls hl => ?_)
      refine lv_goto (tgt := 36) hx hb dX11_least_62 (by decide) ?_
      exact ih36 _ _ _ _ _ hf _ _ _ hP hD hS (lv_sub hl [1, 2, 3, 4, 0] rfl))
  unfold f_X11_least at hf
  refine lv_iload_n hx hb dX11_least_0 rfl (lv_at hl 1 rfl) ?_
  refine lv_i2l (v := (x1.toInt64)) hx hb dX11_least_1 rfl ?_
  refine lv_lconst (v := (0 : Int64)) hx hb dX11_least_2 (by decide) ?_
  refine lv_ldc2 (v := (2 : Int64)) hx hb hown (hts (.constantLong RX11 115 (2)) (List.mem_of_getElem? (i := 1) rfl)) dX11_least_3 ?_
  obtain ⟨r25, hc25, hf⟩ := wk_b1E hf
  refine wk_callSi2 C hP hD hS (c_X11_in l D cB cI cJ N (x1.toInt64) (0 : Int64) (2 : Int64) hc25) (va_cwS 3 hts gX11_least_X11_in rfl rfl rfl hd_X11_in.2 ⟨Nat.le_of_ble_eq_true rfl, Nat.le_of_ble_eq_true rfl⟩) hl.1 ⟨Nat.zero_le _, Nat.zero_le _⟩ [] [0, 1, 2, 3, 4, 5, 6, 7, 8, 9] 10 (by decide +kernel) rfl (Wn := w_X11_least cB cI cJ a_this a_cards a_county a_holes a_text a_letter a_where a_rank a_value a_hour a_readLetter a_readWhere a_readRank a_readValue a_readHour a_listName a_listDay a_voterName a_voterDay a_voterCounty a_heaps a_speed a_four a_byRules a_hours a_rest a_yet a_put v_kept v_length v_items v_readItems v_at v_lists v_voters v_needed v_cards v_county v_four v_holes v_hour v_letter v_rank v_value v_where) rfl rfl rfl rfl rfl rfl rfl rfl (Nat.le_of_ble_eq_true rfl) dX11_least_6 (fun H locs hP hD hS => ?_)
  refine lv_if_eq (tgt := 31) hx hb dX11_least_9 (by decide) (fun c26 => ?_) (fun c26 => ?_)
  · have hf := wk_itT hf c26
    refine lv_iconst (v := (-1 : Int32)) hx hb dX11_least_31 (by decide) ?_
    exact hret _ _ _ _ _ _ dX11_least_32 (wk_rt hf (fun z => z.1)) (wk_rt hf (fun z => w_X11_least cB cI cJ a_this a_cards a_county a_holes a_text a_letter a_where a_rank a_value a_hour a_readLetter a_readWhere a_readRank a_readValue a_readHour a_listName a_listDay a_voterName a_voterDay a_voterCounty a_heaps a_speed a_four a_byRules a_hours a_rest a_yet a_put v_kept v_length v_items v_readItems v_at v_lists v_voters v_needed v_cards v_county (z.2) v_holes v_hour v_letter v_rank v_value v_where)) hP hD hS
  · have hf := wk_itF hf c26
    refine lv_iload_n hx hb dX11_least_12 rfl (lv_at hl 2 rfl) ?_
    refine lv_i2l (v := (x2.toInt64)) hx hb dX11_least_13 rfl ?_
    refine lv_lconst (v := (0 : Int64)) hx hb dX11_least_14 (by decide) ?_
    refine lv_ldc2 (v := (3 : Int64)) hx hb hown (hts (.constantLong RX11 117 (3)) (List.mem_of_getElem? (i := 2) rfl)) dX11_least_15 ?_
    obtain ⟨r27, hc27, hf⟩ := wk_b1E hf
    refine wk_callSi2 C hP hD hS (c_X11_in l D cB cI cJ N (x2.toInt64) (0 : Int64) (3 : Int64) hc27) (va_cwS 3 hts gX11_least_X11_in rfl rfl rfl hd_X11_in.2 ⟨Nat.le_of_ble_eq_true rfl, Nat.le_of_ble_eq_true rfl⟩) hl.1 ⟨Nat.zero_le _, Nat.zero_le _⟩ [] [0, 1, 2, 3, 4, 5, 6, 7, 8, 9] 10 (by decide +kernel) rfl (Wn := w_X11_least cB cI cJ a_this a_cards a_county a_holes a_text a_letter a_where a_rank a_value a_hour a_readLetter a_readWhere a_readRank a_readValue a_readHour a_listName a_listDay a_voterName a_voterDay a_voterCounty a_heaps a_speed a_four a_byRules a_hours a_rest a_yet a_put v_kept v_length v_items v_readItems v_at v_lists v_voters v_needed v_cards v_county v_four v_holes v_hour v_letter v_rank v_value v_where) rfl rfl rfl rfl rfl rfl rfl rfl (Nat.le_of_ble_eq_true rfl) dX11_least_18 (fun H locs hP hD hS => ?_)
    refine lv_if_eq (tgt := 31) hx hb dX11_least_21 (by decide) (fun c28 => ?_) (fun c28 => ?_)
    · have hf := wk_itT hf c28
      refine lv_iconst (v := (-1 : Int32)) hx hb dX11_least_31 (by decide) ?_
      exact hret _ _ _ _ _ _ dX11_least_32 (wk_rt hf (fun z => z.1)) (wk_rt hf (fun z => w_X11_least cB cI cJ a_this a_cards a_county a_holes a_text a_letter a_where a_rank a_value a_hour a_readLetter a_readWhere a_readRank a_readValue a_readHour a_listName a_listDay a_voterName a_voterDay a_voterCounty a_heaps a_speed a_four a_byRules a_hours a_rest a_yet a_put v_kept v_length v_items v_readItems v_at v_lists v_voters v_needed v_cards v_county (z.2) v_holes v_hour v_letter v_rank v_value v_where)) hP hD hS
    · have hf := wk_itF hf c28
      refine lv_iload_n hx hb dX11_least_24 rfl (lv_at hl 3 rfl) ?_
      obtain ⟨r29, hc29, hf⟩ := wk_b1E hf
      refine wk_callSi2 C hP hD hS (c_X11_isHour l D cB cI cJ N x3 hc29) (va_cwS 1 hts gX11_least_X11_isHour rfl rfl rfl hd_X11_isHour.2 ⟨Nat.le_of_ble_eq_true rfl, Nat.le_of_ble_eq_true rfl⟩) hl.1 ⟨Nat.zero_le _, Nat.zero_le _⟩ [] [0, 1, 2, 3, 4, 5, 6, 7, 8, 9] 10 (by decide +kernel) rfl (Wn := w_X11_least cB cI cJ a_this a_cards a_county a_holes a_text a_letter a_where a_rank a_value a_hour a_readLetter a_readWhere a_readRank a_readValue a_readHour a_listName a_listDay a_voterName a_voterDay a_voterCounty a_heaps a_speed a_four a_byRules a_hours a_rest a_yet a_put v_kept v_length v_items v_readItems v_at v_lists v_voters v_needed v_cards v_county v_four v_holes v_hour v_letter v_rank v_value v_where) rfl rfl rfl rfl rfl rfl rfl rfl (Nat.le_of_ble_eq_true rfl) dX11_least_25 (fun H locs hP hD hS => ?_)
      refine lv_if_ne (tgt := 33) hx hb dX11_least_28 (by decide) (fun c30 => ?_) (fun c30 => ?_)
      · have hf := wk_itF hf c30
        refine lv_iconst (v := (0 : Int32)) hx hb dX11_least_33 (by decide) ?_
        refine lv_istore (lv' := [(4, .int (0 : Int32)), (0, .ref a_this), (1, .int x1), (2, .int x2), (3, .int x3)]) hx hb dX11_least_34 hl (by decide) rfl (fun ls hl => ?_)
        exact L36 N _ _ _ _ _ hf _ _ _ hP hD hS (lv_sub hl [1, 2, 3, 4, 0] rfl)
      · have hf := wk_itT hf c30
        refine lv_iconst (v := (-1 : Int32)) hx hb dX11_least_31 (by decide) ?_
        exact hret _ _ _ _ _ _ dX11_least_32 (wk_rt hf (fun z => z.1)) (wk_rt hf (fun z => w_X11_least cB cI cJ a_this a_cards a_county a_holes a_text a_letter a_where a_rank a_value a_hour a_readLetter a_readWhere a_readRank a_readValue a_readHour a_listName a_listDay a_voterName a_voterDay a_voterCounty a_heaps a_speed a_four a_byRules a_hours a_rest a_yet a_put v_kept v_length v_items v_readItems v_at v_lists v_voters v_needed v_cards v_county (z.2) v_holes v_hour v_letter v_rank v_value v_where)) hP hD hS
abbrev w_X11_meantBy (cB cI cJ : ClassId) (a_this : Nat) (a_cards : Nat) (a_county : Nat) (a_holes : Nat) (a_text : Nat) (a_letter : Nat) (a_where : Nat) (a_rank : Nat) (a_value : Nat) (a_hour : Nat) (a_readLetter : Nat) (a_readWhere : Nat) (a_readRank : Nat) (a_readValue : Nat) (a_readHour : Nat) (a_listName : Nat) (a_listDay : Nat) (a_voterName : Nat) (a_voterDay : Nat) (a_voterCounty : Nat) (a_heaps : Nat) (a_speed : Nat) (a_four : Nat) (a_byRules : Nat) (a_hours : Nat) (a_rest : Nat) (a_yet : Nat) (a_put : Nat) (v_kept : Int32) (v_length : Int32) (v_items : Int32) (v_readItems : Int32) (v_at : Int32) (v_lists : Int32) (v_voters : Int32) (v_needed : Int32) (v_holes : Nat → Int32) : va_W := [(a_this, .inr (11, [.ref a_cards, .ref a_county, .ref a_holes, .int v_kept, .int v_length, .ref a_text, .int v_items, .ref a_letter, .ref a_where, .ref a_rank, .ref a_value, .ref a_hour, .int v_readItems, .ref a_readLetter, .ref a_readWhere, .ref a_readRank, .ref a_readValue, .ref a_readHour, .int v_at, .int v_lists, .ref a_listName, .ref a_listDay, .int v_voters, .ref a_voterName, .ref a_voterDay, .ref a_voterCounty, .int v_needed, .ref a_heaps, .ref a_speed, .ref a_four, .ref a_byRules, .ref a_hours, .ref a_rest, .ref a_yet, .ref a_put])), (a_holes, .inl (cI, 1440, .inl v_holes))]
theorem hd_X11_meantBy : yX11_meantBy.cls = RX11 ∧ yX11_meantBy.cls ≠ "java/lang/invoke/MethodHandle" ∧ yX11_meantBy.cls ≠ "java/lang/invoke/VarHandle" ∧ (parseMethodDescriptor yX11_meantBy.desc).map (fun d => d.parameters.length) = some 2 := by decide +kernel
abbrev rm_X11_meantBy : Room := { frames := 0, cells := 0, slots := 0, locals := 0 }
theorem in_X11_meantBy_X11 : ∀ w ∈ wsX110, w ∈ wsX11_meantBy := fun w h => List.mem_cons_of_mem _ (List.mem_append_right _ h)
set_option maxHeartbeats 4000000 in
set_option maxRecDepth 100000 in
theorem c_X11_meantBy (l : Launch) (D : va_G) (cB cI cJ : ClassId) (N : Nat) (a_this : Nat) (a_cards : Nat) (a_county : Nat) (a_holes : Nat) (a_text : Nat) (a_letter : Nat) (a_where : Nat) (a_rank : Nat) (a_value : Nat) (a_hour : Nat) (a_readLetter : Nat) (a_readWhere : Nat) (a_readRank : Nat) (a_readValue : Nat) (a_readHour : Nat) (a_listName : Nat) (a_listDay : Nat) (a_voterName : Nat) (a_voterDay : Nat) (a_voterCounty : Nat) (a_heaps : Nat) (a_speed : Nat) (a_four : Nat) (a_byRules : Nat) (a_hours : Nat) (a_rest : Nat) (a_yet : Nat) (a_put : Nat) (v_kept : Int32) (v_length : Int32) (v_items : Int32) (v_readItems : Int32) (v_at : Int32) (v_lists : Int32) (v_voters : Int32) (v_needed : Int32) (v_holes : Nat → Int32) (x1 : Int32) (x2 : Int32) {r : Int32} (hf : f_X11_meantBy N v_holes x1 x2 = some r) : MTi l yX11_meantBy wsX11_meantBy rm_X11_meantBy D (wk_T cB cI cJ) [.ref a_this, .int x1, .int x2] (w_X11_meantBy cB cI cJ a_this a_cards a_county a_holes a_text a_letter a_where a_rank a_value a_hour a_readLetter a_readWhere a_readRank a_readValue a_readHour a_listName a_listDay a_voterName a_voterDay a_voterCounty a_heaps a_speed a_four a_byRules a_hours a_rest a_yet a_put v_kept v_length v_items v_readItems v_at v_lists v_voters v_needed v_holes) (w_X11_meantBy cB cI cJ a_this a_cards a_county a_holes a_text a_letter a_where a_rank a_value a_hour a_readLetter a_readWhere a_readRank a_readValue a_readHour a_listName a_listDay a_voterName a_voterDay a_voterCounty a_heaps a_speed a_four a_byRules a_hours a_rest a_yet a_put v_kept v_length v_items v_readItems v_at v_lists v_voters v_needed v_holes) r := by
  refine MTi.of (cc := cX11_meantBy) (nL := 9) (rt := .int) (own := RX11) pn_X11 rfl rfl (Nat.le_of_ble_eq_true rfl) rfl ?_
  intro p e s m args below meth c A ls Q C hP hD hS hl hret
  obtain ⟨hx, hb, hml, hts, hown, hK, hN, hA, hlk⟩ := id C
  have hl : lv_has ls 9 [(0, .ref a_this), (1, .int x1), (2, .int x2)] := hl
  have L95 := wk_loopI (F := (fun k95 : Int32 → Int32 → Int32 → Int32 → Option Int32 => B_X11_meantBy_95 N v_holes k95)) (bot := fun _ _ _ _ => none) (fun k95 : Int32 → Int32 → Int32 → Int32 → Option Int32 => ∀ (x1 : Int32) (x2 : Int32) (x5 : Int32) (x6 : Int32), k95 x1 x2 x5 x6 = some r → ∀ (H : Heap) (locs : List Loc) (ls : Array Slot), va_P D vwCl (w_X11_meantBy cB cI cJ a_this a_cards a_county a_holes a_text a_letter a_where a_rank a_value a_hour a_readLetter a_readWhere a_readRank a_readValue a_readHour a_listName a_listDay a_voterName a_voterDay a_voterCounty a_heaps a_speed a_four a_byRules a_hours a_rest a_yet a_put v_kept v_length v_items v_readItems v_at v_lists v_voters v_needed v_holes) H → va_D A (w_X11_meantBy cB cI cJ a_this a_cards a_county a_holes a_text a_letter a_where a_rank a_value a_hour a_readLetter a_readWhere a_readRank a_readValue a_readHour a_listName a_listDay a_voterName a_voterDay a_voterCounty a_heaps a_speed a_four a_byRules a_hours a_rest a_yet a_put v_kept v_length v_items v_readItems v_at v_lists v_voters v_needed v_holes) → va_S A s.heap H locs → lv_has ls 9 [(0, .ref a_this), (1, .int x1), (2, .int x2), (5, .int x5), (6, .int x6)] → W p l e rm_X11_meantBy s m args below meth c H locs 0 0 Q (F0 m 95 ls [])) (by intro x1 x2 x5 x6 hf; exact wk_no hf) (by
    intro k95 ih95
    have L107 := wk_loopI (F := (fun k107 : Int32 → Int32 → Int32 → Int32 → Int32 → Int32 → Option Int32 => B_X11_meantBy_107 N v_holes k95 k107)) (bot := fun _ _ _ _ _ _ => none) (fun k107 : Int32 → Int32 → Int32 → Int32 → Int32 → Int32 → Option Int32 => ∀ (x1 : Int32) (x2 : Int32) (x5 : Int32) (x6 : Int32) (x7 : Int32) (x8 : Int32), k107 x1 x2 x5 x6 x7 x8 = some r → ∀ (H : Heap) (locs : List Loc) (ls : Array Slot), va_P D vwCl (w_X11_meantBy cB cI cJ a_this a_cards a_county a_holes a_text a_letter a_where a_rank a_value a_hour a_readLetter a_readWhere a_readRank a_readValue a_readHour a_listName a_listDay a_voterName a_voterDay a_voterCounty a_heaps a_speed a_four a_byRules a_hours a_rest a_yet a_put v_kept v_length v_items v_readItems v_at v_lists v_voters v_needed v_holes) H → va_D A (w_X11_meantBy cB cI cJ a_this a_cards a_county a_holes a_text a_letter a_where a_rank a_value a_hour a_readLetter a_readWhere a_readRank a_readValue a_readHour a_listName a_listDay a_voterName a_voterDay a_voterCounty a_heaps a_speed a_four a_byRules a_hours a_rest a_yet a_put v_kept v_length v_items v_readItems v_at v_lists v_voters v_needed v_holes) → va_S A s.heap H locs → lv_has ls 9 [(0, .ref a_this), (1, .int x1), (2, .int x2), (5, .int x5), (6, .int x6), (7, .int x7), (8, .int x8)] → W p l e rm_X11_meantBy s m args below meth c H locs 0 0 Q (F0 m 107 ls [])) (by intro x1 x2 x5 x6 x7 x8 hf; exact wk_no hf) (by
      intro k107 ih107
      have J153 : ∀ (x1 : Int32) (x2 : Int32) (x5 : Int32) (x6 : Int32) (x8 : Int32) (s0 : Int32) (s1 : Int32), B_X11_meantBy_153 N v_holes k95 k107 x1 x2 x5 x6 x8 s0 s1 = some r → ∀ (H : Heap) (locs : List Loc) (ls : Array Slot), va_P D vwCl (w_X11_meantBy cB cI cJ a_this a_cards a_county a_holes a_text a_letter a_where a_rank a_value a_hour a_readLetter a_readWhere a_readRank a_readValue a_readHour a_listName a_listDay a_voterName a_voterDay a_voterCounty a_heaps a_speed a_four a_byRules a_hours a_rest a_yet a_put v_kept v_length v_items v_readItems v_at v_lists v_voters v_needed v_holes) H → va_D A (w_X11_meantBy cB cI cJ a_this a_cards a_county a_holes a_text a_letter a_where a_rank a_value a_hour a_readLetter a_readWhere a_readRank a_readValue a_readHour a_listName a_listDay a_voterName a_voterDay a_voterCounty a_heaps a_speed a_four a_byRules a_hours a_rest a_yet a_put v_kept v_length v_items v_readItems v_at v_lists v_voters v_needed v_holes) → va_S A s.heap H locs → lv_has ls 9 [(0, .ref a_this), (1, .int x1), (2, .int x2), (5, .int x5), (6, .int x6), (8, .int x8)] → W p l e rm_X11_meantBy s m args below meth c H locs 0 0 Q (F0 m 153 ls [.int s1, .int s0]) := by
        intro x1 x2 x5 x6 x8 s0 s1 hf H locs ls hP hD hS hl
        unfold B_X11_meantBy_153 at hf
        refine lv_icmp_ne (tgt := 160) hx hb dX11_meantBy_153 (by decide) (fun c1 => ?_) (fun c1 => ?_)
        · have hf := wk_itF hf c1
          refine lv_iconst (v := (0 : Int32)) hx hb dX11_meantBy_160 (by decide) ?_
          refine lv_istore (lv' := [(7, .int (0 : Int32)), (0, .ref a_this), (1, .int x1), (2, .int x2), (5, .int x5), (6, .int x6), (8, .int x8)]) hx hb dX11_meantBy_161 hl (by decide) rfl (fun ls hl => ?_)
          obtain ⟨y2, ey2⟩ : ∃ y : Int32, y = x8 + (1 : Int32) := ⟨_, rfl⟩
          have hf := wk_nmE hf ey2
          refine lv_iinc (v := y2) (lv' := [(8, .int y2), (7, .int (0 : Int32)), (0, .ref a_this), (1, .int x1), (2, .int x2), (5, .int x5), (6, .int x6)]) hx hb dX11_meantBy_163 hl (k := 6) rfl (by rw [ey2]; rfl) (by decide) rfl (fun ls hl => ?_)
          refine lv_goto (tgt := 107) hx hb dX11_meantBy_166 (by decide) ?_
          exact ih107 _ _ _ _ _ _ hf _ _ _ hP hD hS (lv_sub hl [2, 3, 4, 5, 6, 1, 0] rfl)
        · have hf := wk_itT hf c1
          refine lv_iconst (v := (1 : Int32)) hx hb dX11_meantBy_156 (by decide) ?_
          refine lv_goto (tgt := 161) hx hb dX11_meantBy_157 (by decide) ?_
          refine lv_istore (lv' := [(7, .int (1 : Int32)), (0, .ref a_this), (1, .int x1), (2, .int x2), (5, .int x5), (6, .int x6), (8, .int x8)]) hx hb dX11_meantBy_161 hl (by decide) rfl (fun ls hl => ?_)
          obtain ⟨y3, ey3⟩ : ∃ y : Int32, y = x8 + (1 : Int32) := ⟨_, rfl⟩
          have hf := wk_nmE hf ey3
          refine lv_iinc (v := y3) (lv' := [(8, .int y3), (7, .int (1 : Int32)), (0, .ref a_this), (1, .int x1), (2, .int x2), (5, .int x5), (6, .int x6)]) hx hb dX11_meantBy_163 hl (k := 6) rfl (by rw [ey3]; rfl) (by decide) rfl (fun ls hl => ?_)
          refine lv_goto (tgt := 107) hx hb dX11_meantBy_166 (by decide) ?_
          exact ih107 _ _ _ _ _ _ hf _ _ _ hP hD hS (lv_sub hl [2, 3, 4, 5, 6, 1, 0] rfl)
      intro x1 x2 x5 x6 x7 x8 hf H locs ls hP hD hS hl
      have hf : B_X11_meantBy_107 N v_holes k95 k107 x1 x2 x5 x6 x7 x8 = some r := hf
      unfold B_X11_meantBy_107 at hf
      refine lv_iload hx hb dX11_meantBy_107 (lv_at hl 6 rfl) ?_
      refine lv_bipush (v := (12 : Int32)) hx hb dX11_meantBy_109 (by decide) ?_
      refine lv_icmp_ge (tgt := 169) hx hb dX11_meantBy_111 (by decide) (fun c4 => ?_) (fun c4 => ?_)
      · have hf := wk_itT hf c4
        refine lv_iload hx hb dX11_meantBy_169 (lv_at hl 3 rfl) ?_
        refine lv_iload hx hb dX11_meantBy_171 (lv_at hl 5 rfl) ?_
        refine lv_if_eq (tgt := 183) hx hb dX11_meantBy_173 (by decide) (fun c5 => ?_) (fun c5 => ?_)
        · have hf := wk_itT hf c5
          refine lv_iconst (v := (0 : Int32)) hx hb dX11_meantBy_183 (by decide) ?_
          refine lv_ior hx hb dX11_meantBy_184 ?_
          refine lv_topi (fun y6 ey6 => ?_)
          have hf := wk_nmE hf ey6
          refine lv_istore (lv' := [(5, .int y6), (0, .ref a_this), (1, .int x1), (2, .int x2), (6, .int x6), (7, .int x7), (8, .int x8)]) hx hb dX11_meantBy_185 hl (by decide) rfl (fun ls hl => ?_)
          obtain ⟨y7, ey7⟩ : ∃ y : Int32, y = x6 + (1 : Int32) := ⟨_, rfl⟩
          have hf := wk_nmE hf ey7
          refine lv_iinc (v := y7) (lv' := [(6, .int y7), (5, .int y6), (0, .ref a_this), (1, .int x1), (2, .int x2), (7, .int x7), (8, .int x8)]) hx hb dX11_meantBy_187 hl (k := 4) rfl (by rw [ey7]; rfl) (by decide) rfl (fun ls hl => ?_)
          refine lv_goto (tgt := 95) hx hb dX11_meantBy_190 (by decide) ?_
          exact ih95 _ _ _ _ hf _ _ _ hP hD hS (lv_sub hl [2, 3, 4, 1, 0] rfl)
        · have hf := wk_itF hf c5
          refine lv_iconst (v := (1 : Int32)) hx hb dX11_meantBy_176 (by decide) ?_
          refine lv_iload hx hb dX11_meantBy_177 (lv_at hl 4 rfl) ?_
          refine lv_ishl hx hb dX11_meantBy_179 ?_
          refine lv_goto (tgt := 184) hx hb dX11_meantBy_180 (by decide) ?_
          refine lv_ior hx hb dX11_meantBy_184 ?_
          refine lv_topi (fun y8 ey8 => ?_)
          have hf := wk_nmE hf ey8
          refine lv_istore (lv' := [(5, .int y8), (0, .ref a_this), (1, .int x1), (2, .int x2), (6, .int x6), (7, .int x7), (8, .int x8)]) hx hb dX11_meantBy_185 hl (by decide) rfl (fun ls hl => ?_)
          obtain ⟨y9, ey9⟩ : ∃ y : Int32, y = x6 + (1 : Int32) := ⟨_, rfl⟩
          have hf := wk_nmE hf ey9
          refine lv_iinc (v := y9) (lv' := [(6, .int y9), (5, .int y8), (0, .ref a_this), (1, .int x1), (2, .int x2), (7, .int x7), (8, .int x8)]) hx hb dX11_meantBy_187 hl (k := 4) rfl (by rw [ey9]; rfl) (by decide) rfl (fun ls hl => ?_)
          refine lv_goto (tgt := 95) hx hb dX11_meantBy_190 (by decide) ?_
          exact ih95 _ _ _ _ hf _ _ _ hP hD hS (lv_sub hl [2, 3, 4, 1, 0] rfl)
      · have hf := wk_itF hf c4
        refine lv_iload hx hb dX11_meantBy_114 (lv_at hl 5 rfl) ?_
        refine lv_if_eq (tgt := 160) hx hb dX11_meantBy_116 (by decide) (fun c10 => ?_) (fun c10 => ?_)
        · have hf := wk_itT hf c10
          refine lv_iconst (v := (0 : Int32)) hx hb dX11_meantBy_160 (by decide) ?_
          refine lv_istore (lv' := [(7, .int (0 : Int32)), (0, .ref a_this), (1, .int x1), (2, .int x2), (5, .int x5), (6, .int x6), (8, .int x8)]) hx hb dX11_meantBy_161 hl (by decide) rfl (fun ls hl => ?_)
          obtain ⟨y11, ey11⟩ : ∃ y : Int32, y = x8 + (1 : Int32) := ⟨_, rfl⟩
          have hf := wk_nmE hf ey11
          refine lv_iinc (v := y11) (lv' := [(8, .int y11), (7, .int (0 : Int32)), (0, .ref a_this), (1, .int x1), (2, .int x2), (5, .int x5), (6, .int x6)]) hx hb dX11_meantBy_163 hl (k := 6) rfl (by rw [ey11]; rfl) (by decide) rfl (fun ls hl => ?_)
          refine lv_goto (tgt := 107) hx hb dX11_meantBy_166 (by decide) ?_
          exact ih107 _ _ _ _ _ _ hf _ _ _ hP hD hS (lv_sub hl [2, 3, 4, 5, 6, 1, 0] rfl)
        · have hf := wk_itF hf c10
          refine lv_iload hx hb dX11_meantBy_119 (lv_at hl 6 rfl) ?_
          refine lv_iconst (v := (4 : Int32)) hx hb dX11_meantBy_121 (by decide) ?_
          obtain ⟨hz12, hf⟩ := wk_dvE hf
          refine lv_idiv hx hb dX11_meantBy_122 hz12 ?_
          refine lv_iload_n hx hb dX11_meantBy_123 rfl (lv_at hl 2 rfl) ?_
          refine lv_icmp_eq (tgt := 156) hx hb dX11_meantBy_124 (by decide) (fun c13 => ?_) (fun c13 => ?_)
          · have hf := wk_itT hf c13
            refine lv_iconst (v := (1 : Int32)) hx hb dX11_meantBy_156 (by decide) ?_
            refine lv_goto (tgt := 161) hx hb dX11_meantBy_157 (by decide) ?_
            refine lv_istore (lv' := [(7, .int (1 : Int32)), (0, .ref a_this), (1, .int x1), (2, .int x2), (5, .int x5), (6, .int x6), (8, .int x8)]) hx hb dX11_meantBy_161 hl (by decide) rfl (fun ls hl => ?_)
            obtain ⟨y14, ey14⟩ : ∃ y : Int32, y = x8 + (1 : Int32) := ⟨_, rfl⟩
            have hf := wk_nmE hf ey14
            refine lv_iinc (v := y14) (lv' := [(8, .int y14), (7, .int (1 : Int32)), (0, .ref a_this), (1, .int x1), (2, .int x2), (5, .int x5), (6, .int x6)]) hx hb dX11_meantBy_163 hl (k := 6) rfl (by rw [ey14]; rfl) (by decide) rfl (fun ls hl => ?_)
            refine lv_goto (tgt := 107) hx hb dX11_meantBy_166 (by decide) ?_
            exact ih107 _ _ _ _ _ _ hf _ _ _ hP hD hS (lv_sub hl [2, 3, 4, 5, 6, 1, 0] rfl)
          · have hf := wk_itF hf c13
            refine lv_aload_n hx hb dX11_meantBy_127 rfl (lv_at hl 0 rfl) ?_
            refine va_get (D := D) (ci := 11) (v := .ref a_holes) (C := RX11) (T := TX11) (N := 35) hx hb hts in_X11_meantBy_X11 hown hK hP 0 rfl rfl 2 (by decide) (hts (.fieldLink RX11 16 "HangingCardsModel" "holes" "[I") (List.mem_of_getElem? (i := 1) rfl)) (fun _ h9 => h9) rfl dX11_meantBy_128 ?_
            refine lv_bipush (v := (12 : Int32)) hx hb dX11_meantBy_131 (by decide) ?_
            refine lv_iload_n hx hb dX11_meantBy_133 rfl (lv_at hl 1 rfl) ?_
            refine lv_imul hx hb dX11_meantBy_134 ?_
            refine lv_iload hx hb dX11_meantBy_135 (lv_at hl 6 rfl) ?_
            refine lv_iadd hx hb dX11_meantBy_137 ?_
            obtain ⟨hi15, hf⟩ := wk_ckE hf
            refine va_iald hx hb hK hP 1 0 rfl rfl hi15 dX11_meantBy_138 ?_
            refine lv_iload hx hb dX11_meantBy_139 (lv_at hl 6 rfl) ?_
            refine lv_iconst (v := (4 : Int32)) hx hb dX11_meantBy_141 (by decide) ?_
            obtain ⟨hz16, hf⟩ := wk_dvE hf
            refine lv_irem hx hb dX11_meantBy_142 hz16 ?_
            refine lv_iload hx hb dX11_meantBy_143 (lv_at hl 4 rfl) ?_
            refine lv_icmp_ne (tgt := 152) hx hb dX11_meantBy_145 (by decide) (fun c17 => ?_) (fun c17 => ?_)
            · have hf := wk_itF hf c17
              refine lv_iconst (v := (0 : Int32)) hx hb dX11_meantBy_152 (by decide) ?_
              exact J153 _ _ _ _ _ _ _ hf _ _ _ hP hD hS (lv_sub hl [0, 1, 2, 3, 4, 6] rfl)
            · have hf := wk_itT hf c17
              refine lv_iconst (v := (5 : Int32)) hx hb dX11_meantBy_148 (by decide) ?_
              refine lv_goto (tgt := 153) hx hb dX11_meantBy_149 (by decide) ?_
              exact J153 _ _ _ _ _ _ _ hf _ _ _ hP hD hS (lv_sub hl [0, 1, 2, 3, 4, 6] rfl))
    intro x1 x2 x5 x6 hf H locs ls hP hD hS hl
    have hf : B_X11_meantBy_95 N v_holes k95 x1 x2 x5 x6 = some r := hf
    unfold B_X11_meantBy_95 at hf
    refine lv_iload hx hb dX11_meantBy_95 (lv_at hl 4 rfl) ?_
    refine lv_iconst (v := (4 : Int32)) hx hb dX11_meantBy_97 (by decide) ?_
    refine lv_icmp_ge (tgt := 193) hx hb dX11_meantBy_98 (by decide) (fun c18 => ?_) (fun c18 => ?_)
    · have hf := wk_itT hf c18
      refine lv_iload hx hb dX11_meantBy_193 (lv_at hl 3 rfl) ?_
      exact hret _ _ _ _ _ _ dX11_meantBy_195 (wk_rt hf (fun z => z)) rfl hP hD hS
    · have hf := wk_itF hf c18
      refine lv_iconst (v := (1 : Int32)) hx hb dX11_meantBy_101 (by decide) ?_
      refine lv_istore (lv' := [(7, .int (1 : Int32)), (0, .ref a_this), (1, .int x1), (2, .int x2), (5, .int x5), (6, .int x6)]) hx hb dX11_meantBy_102 hl (by decide) rfl (fun ls hl => ?_)
      refine lv_iconst (v := (0 : Int32)) hx hb dX11_meantBy_104 (by decide) ?_
      refine lv_istore (lv' := [(8, .int (0 : Int32)), (7, .int (1 : Int32)), (0, .ref a_this), (1, .int x1), (2, .int x2), (5, .int x5), (6, .int x6)]) hx hb dX11_meantBy_105 hl (by decide) rfl (fun ls hl => ?_)
      exact L107 N _ _ _ _ _ _ hf _ _ _ hP hD hS (lv_sub hl [2, 3, 4, 5, 6, 1, 0] rfl))
  have L8 := wk_loopI (F := (fun k8 : Int32 → Int32 → Int32 → Int32 → Int32 → Option Int32 => B_X11_meantBy_8 N v_holes k8)) (bot := fun _ _ _ _ _ => none) (fun k8 : Int32 → Int32 → Int32 → Int32 → Int32 → Option Int32 => ∀ (x1 : Int32) (x2 : Int32) (x3 : Int32) (x4 : Int32) (x5 : Int32), k8 x1 x2 x3 x4 x5 = some r → ∀ (H : Heap) (locs : List Loc) (ls : Array Slot), va_P D vwCl (w_X11_meantBy cB cI cJ a_this a_cards a_county a_holes a_text a_letter a_where a_rank a_value a_hour a_readLetter a_readWhere a_readRank a_readValue a_readHour a_listName a_listDay a_voterName a_voterDay a_voterCounty a_heaps a_speed a_four a_byRules a_hours a_rest a_yet a_put v_kept v_length v_items v_readItems v_at v_lists v_voters v_needed v_holes) H → va_D A (w_X11_meantBy cB cI cJ a_this a_cards a_county a_holes a_text a_letter a_where a_rank a_value a_hour a_readLetter a_readWhere a_readRank a_readValue a_readHour a_listName a_listDay a_voterName a_voterDay a_voterCounty a_heaps a_speed a_four a_byRules a_hours a_rest a_yet a_put v_kept v_length v_items v_readItems v_at v_lists v_voters v_needed v_holes) → va_S A s.heap H locs → lv_has ls 9 [(0, .ref a_this), (1, .int x1), (2, .int x2), (3, .int x3), (4, .int x4), (5, .int x5)] → W p l e rm_X11_meantBy s m args below meth c H locs 0 0 Q (F0 m 8 ls [])) (by intro x1 x2 x3 x4 x5 hf; exact wk_no hf) (by
    intro k8 ih8
    have J47 : ∀ (x1 : Int32) (x2 : Int32) (x4 : Int32) (x5 : Int32) (x6 : Int32) (s0 : Int32) (s1 : Int32), B_X11_meantBy_47 N v_holes k8 x1 x2 x4 x5 x6 s0 s1 = some r → ∀ (H : Heap) (locs : List Loc) (ls : Array Slot), va_P D vwCl (w_X11_meantBy cB cI cJ a_this a_cards a_county a_holes a_text a_letter a_where a_rank a_value a_hour a_readLetter a_readWhere a_readRank a_readValue a_readHour a_listName a_listDay a_voterName a_voterDay a_voterCounty a_heaps a_speed a_four a_byRules a_hours a_rest a_yet a_put v_kept v_length v_items v_readItems v_at v_lists v_voters v_needed v_holes) H → va_D A (w_X11_meantBy cB cI cJ a_this a_cards a_county a_holes a_text a_letter a_where a_rank a_value a_hour a_readLetter a_readWhere a_readRank a_readValue a_readHour a_listName a_listDay a_voterName a_voterDay a_voterCounty a_heaps a_speed a_four a_byRules a_hours a_rest a_yet a_put v_kept v_length v_items v_readItems v_at v_lists v_voters v_needed v_holes) → va_S A s.heap H locs → lv_has ls 9 [(0, .ref a_this), (1, .int x1), (2, .int x2), (4, .int x4), (5, .int x5), (6, .int x6)] → W p l e rm_X11_meantBy s m args below meth c H locs 0 0 Q (F0 m 47 ls [.int s1, .int s0]) := by
      intro x1 x2 x4 x5 x6 s0 s1 hf H locs ls hP hD hS hl
      unfold B_X11_meantBy_47 at hf
      refine lv_ior hx hb dX11_meantBy_47 ?_
      refine lv_topi (fun y19 ey19 => ?_)
      have hf := wk_nmE hf ey19
      refine lv_istore_n (lv' := [(3, .int y19), (0, .ref a_this), (1, .int x1), (2, .int x2), (4, .int x4), (5, .int x5), (6, .int x6)]) hx hb dX11_meantBy_48 rfl hl (by decide) rfl (fun ls hl => ?_)
      refine lv_iload hx hb dX11_meantBy_49 (lv_at hl 4 rfl) ?_
      refine lv_iload hx hb dX11_meantBy_51 (lv_at hl 6 rfl) ?_
      refine lv_if_le (tgt := 63) hx hb dX11_meantBy_53 (by decide) (fun c20 => ?_) (fun c20 => ?_)
      · have hf := wk_itT hf c20
        refine lv_iconst (v := (0 : Int32)) hx hb dX11_meantBy_63 (by decide) ?_
        refine lv_ior hx hb dX11_meantBy_64 ?_
        refine lv_topi (fun y21 ey21 => ?_)
        have hf := wk_nmE hf ey21
        refine lv_istore (lv' := [(4, .int y21), (3, .int y19), (0, .ref a_this), (1, .int x1), (2, .int x2), (5, .int x5), (6, .int x6)]) hx hb dX11_meantBy_65 hl (by decide) rfl (fun ls hl => ?_)
        obtain ⟨y22, ey22⟩ : ∃ y : Int32, y = x5 + (1 : Int32) := ⟨_, rfl⟩
        have hf := wk_nmE hf ey22
        refine lv_iinc (v := y22) (lv' := [(5, .int y22), (4, .int y21), (3, .int y19), (0, .ref a_this), (1, .int x1), (2, .int x2), (6, .int x6)]) hx hb dX11_meantBy_67 hl (k := 5) rfl (by rw [ey22]; rfl) (by decide) rfl (fun ls hl => ?_)
        refine lv_goto (tgt := 8) hx hb dX11_meantBy_70 (by decide) ?_
        exact ih8 _ _ _ _ _ hf _ _ _ hP hD hS (lv_sub hl [3, 4, 5, 2, 1, 0] rfl)
      · have hf := wk_itF hf c20
        refine lv_iconst (v := (1 : Int32)) hx hb dX11_meantBy_56 (by decide) ?_
        refine lv_iload hx hb dX11_meantBy_57 (lv_at hl 5 rfl) ?_
        refine lv_ishl hx hb dX11_meantBy_59 ?_
        refine lv_goto (tgt := 64) hx hb dX11_meantBy_60 (by decide) ?_
        refine lv_ior hx hb dX11_meantBy_64 ?_
        refine lv_topi (fun y23 ey23 => ?_)
        have hf := wk_nmE hf ey23
        refine lv_istore (lv' := [(4, .int y23), (3, .int y19), (0, .ref a_this), (1, .int x1), (2, .int x2), (5, .int x5), (6, .int x6)]) hx hb dX11_meantBy_65 hl (by decide) rfl (fun ls hl => ?_)
        obtain ⟨y24, ey24⟩ : ∃ y : Int32, y = x5 + (1 : Int32) := ⟨_, rfl⟩
        have hf := wk_nmE hf ey24
        refine lv_iinc (v := y24) (lv' := [(5, .int y24), (4, .int y23), (3, .int y19), (0, .ref a_this), (1, .int x1), (2, .int x2), (6, .int x6)]) hx hb dX11_meantBy_67 hl (k := 5) rfl (by rw [ey24]; rfl) (by decide) rfl (fun ls hl => ?_)
        refine lv_goto (tgt := 8) hx hb dX11_meantBy_70 (by decide) ?_
        exact ih8 _ _ _ _ _ hf _ _ _ hP hD hS (lv_sub hl [3, 4, 5, 2, 1, 0] rfl)
    intro x1 x2 x3 x4 x5 hf H locs ls hP hD hS hl
    have hf : B_X11_meantBy_8 N v_holes k8 x1 x2 x3 x4 x5 = some r := hf
    unfold B_X11_meantBy_8 at hf
    refine lv_iload hx hb dX11_meantBy_8 (lv_at hl 5 rfl) ?_
    refine lv_iconst (v := (4 : Int32)) hx hb dX11_meantBy_10 (by decide) ?_
    refine lv_icmp_ge (tgt := 73) hx hb dX11_meantBy_11 (by decide) (fun c25 => ?_) (fun c25 => ?_)
    · have hf := wk_itT hf c25
      refine lv_iload hx hb dX11_meantBy_73 (lv_at hl 4 rfl) ?_
      refine lv_if_eq (tgt := 89) hx hb dX11_meantBy_75 (by decide) (fun c26 => ?_) (fun c26 => ?_)
      · have hf := wk_itT hf c26
        refine lv_iconst (v := (0 : Int32)) hx hb dX11_meantBy_89 (by decide) ?_
        refine lv_istore (lv' := [(5, .int (0 : Int32)), (0, .ref a_this), (1, .int x1), (2, .int x2), (3, .int x3), (4, .int x4)]) hx hb dX11_meantBy_90 hl (by decide) rfl (fun ls hl => ?_)
        refine lv_iconst (v := (0 : Int32)) hx hb dX11_meantBy_92 (by decide) ?_
        refine lv_istore (lv' := [(6, .int (0 : Int32)), (5, .int (0 : Int32)), (0, .ref a_this), (1, .int x1), (2, .int x2), (3, .int x3), (4, .int x4)]) hx hb dX11_meantBy_93 hl (by decide) rfl (fun ls hl => ?_)
        exact L95 N _ _ _ _ hf _ _ _ hP hD hS (lv_sub hl [2, 3, 4, 1, 0] rfl)
      · have hf := wk_itF hf c26
        refine lv_iload_n hx hb dX11_meantBy_78 rfl (lv_at hl 3 rfl) ?_
        refine lv_if_eq (tgt := 86) hx hb dX11_meantBy_79 (by decide) (fun c27 => ?_) (fun c27 => ?_)
        · have hf := wk_itT hf c27
          refine lv_iload hx hb dX11_meantBy_86 (lv_at hl 4 rfl) ?_
          exact hret _ _ _ _ _ _ dX11_meantBy_88 (wk_rt hf (fun z => z)) rfl hP hD hS
        · have hf := wk_itF hf c27
          refine lv_iload_n hx hb dX11_meantBy_82 rfl (lv_at hl 3 rfl) ?_
          refine lv_goto (tgt := 88) hx hb dX11_meantBy_83 (by decide) ?_
          exact hret _ _ _ _ _ _ dX11_meantBy_88 (wk_rt hf (fun z => z)) rfl hP hD hS
    · have hf := wk_itF hf c25
      refine lv_aload_n hx hb dX11_meantBy_14 rfl (lv_at hl 0 rfl) ?_
      refine va_get (D := D) (ci := 11) (v := .ref a_holes) (C := RX11) (T := TX11) (N := 35) hx hb hts in_X11_meantBy_X11 hown hK hP 0 rfl rfl 2 (by decide) (hts (.fieldLink RX11 16 "HangingCardsModel" "holes" "[I") (List.mem_of_getElem? (i := 1) rfl)) (fun _ h9 => h9) rfl dX11_meantBy_15 ?_
      refine lv_bipush (v := (12 : Int32)) hx hb dX11_meantBy_18 (by decide) ?_
      refine lv_iload_n hx hb dX11_meantBy_20 rfl (lv_at hl 1 rfl) ?_
      refine lv_imul hx hb dX11_meantBy_21 ?_
      refine lv_iconst (v := (4 : Int32)) hx hb dX11_meantBy_22 (by decide) ?_
      refine lv_iload_n hx hb dX11_meantBy_23 rfl (lv_at hl 2 rfl) ?_
      refine lv_imul hx hb dX11_meantBy_24 ?_
      refine lv_iadd hx hb dX11_meantBy_25 ?_
      refine lv_iload hx hb dX11_meantBy_26 (lv_at hl 5 rfl) ?_
      refine lv_iadd hx hb dX11_meantBy_28 ?_
      obtain ⟨hi28, hf⟩ := wk_ckE hf
      refine va_iald hx hb hK hP 1 0 rfl rfl hi28 dX11_meantBy_29 ?_
      refine lv_topi (fun y29 ey29 => ?_)
      have hf := wk_nmE hf ey29
      refine lv_istore (lv' := [(6, .int y29), (0, .ref a_this), (1, .int x1), (2, .int x2), (3, .int x3), (4, .int x4), (5, .int x5)]) hx hb dX11_meantBy_30 hl (by decide) rfl (fun ls hl => ?_)
      refine lv_iload_n hx hb dX11_meantBy_32 rfl (lv_at hl 4 rfl) ?_
      refine lv_iload hx hb dX11_meantBy_33 (lv_at hl 0 rfl) ?_
      refine lv_iconst (v := (5 : Int32)) hx hb dX11_meantBy_35 (by decide) ?_
      refine lv_icmp_ne (tgt := 46) hx hb dX11_meantBy_36 (by decide) (fun c30 => ?_) (fun c30 => ?_)
      · have hf := wk_itF hf c30
        refine lv_iconst (v := (0 : Int32)) hx hb dX11_meantBy_46 (by decide) ?_
        exact J47 _ _ _ _ _ _ _ hf _ _ _ hP hD hS (lv_sub hl [1, 2, 3, 5, 6, 0] rfl)
      · have hf := wk_itT hf c30
        refine lv_iconst (v := (1 : Int32)) hx hb dX11_meantBy_39 (by decide) ?_
        refine lv_iload hx hb dX11_meantBy_40 (lv_at hl 6 rfl) ?_
        refine lv_ishl hx hb dX11_meantBy_42 ?_
        refine lv_goto (tgt := 47) hx hb dX11_meantBy_43 (by decide) ?_
        exact J47 _ _ _ _ _ _ _ hf _ _ _ hP hD hS (lv_sub hl [1, 2, 3, 5, 6, 0] rfl))
  unfold f_X11_meantBy at hf
  refine lv_iconst (v := (0 : Int32)) hx hb dX11_meantBy_0 (by decide) ?_
  refine lv_istore_n (lv' := [(3, .int (0 : Int32)), (0, .ref a_this), (1, .int x1), (2, .int x2)]) hx hb dX11_meantBy_1 rfl hl (by decide) rfl (fun ls hl => ?_)
  refine lv_iconst (v := (0 : Int32)) hx hb dX11_meantBy_2 (by decide) ?_
  refine lv_istore (lv' := [(4, .int (0 : Int32)), (3, .int (0 : Int32)), (0, .ref a_this), (1, .int x1), (2, .int x2)]) hx hb dX11_meantBy_3 hl (by decide) rfl (fun ls hl => ?_)
  refine lv_iconst (v := (0 : Int32)) hx hb dX11_meantBy_5 (by decide) ?_
  refine lv_istore (lv' := [(5, .int (0 : Int32)), (4, .int (0 : Int32)), (3, .int (0 : Int32)), (0, .ref a_this), (1, .int x1), (2, .int x2)]) hx hb dX11_meantBy_6 hl (by decide) rfl (fun ls hl => ?_)
  exact L8 N _ _ _ _ _ hf _ _ _ hP hD hS (lv_sub hl [3, 4, 5, 2, 1, 0] rfl)
abbrev w_X11_meant (cB cI cJ : ClassId) (a_this : Nat) (a_cards : Nat) (a_county : Nat) (a_holes : Nat) (a_text : Nat) (a_letter : Nat) (a_where : Nat) (a_rank : Nat) (a_value : Nat) (a_hour : Nat) (a_readLetter : Nat) (a_readWhere : Nat) (a_readRank : Nat) (a_readValue : Nat) (a_readHour : Nat) (a_listName : Nat) (a_listDay : Nat) (a_voterName : Nat) (a_voterDay : Nat) (a_voterCounty : Nat) (a_heaps : Nat) (a_speed : Nat) (a_four : Nat) (a_byRules : Nat) (a_hours : Nat) (a_rest : Nat) (a_yet : Nat) (a_put : Nat) (v_kept : Int32) (v_length : Int32) (v_items : Int32) (v_readItems : Int32) (v_at : Int32) (v_lists : Int32) (v_voters : Int32) (v_needed : Int32) (v_cards : Nat → Int32) (v_holes : Nat → Int32) : va_W := [(a_this, .inr (11, [.ref a_cards, .ref a_county, .ref a_holes, .int v_kept, .int v_length, .ref a_text, .int v_items, .ref a_letter, .ref a_where, .ref a_rank, .ref a_value, .ref a_hour, .int v_readItems, .ref a_readLetter, .ref a_readWhere, .ref a_readRank, .ref a_readValue, .ref a_readHour, .int v_at, .int v_lists, .ref a_listName, .ref a_listDay, .int v_voters, .ref a_voterName, .ref a_voterDay, .ref a_voterCounty, .int v_needed, .ref a_heaps, .ref a_speed, .ref a_four, .ref a_byRules, .ref a_hours, .ref a_rest, .ref a_yet, .ref a_put])), (a_cards, .inl (cI, 3, .inl v_cards)), (a_holes, .inl (cI, 1440, .inl v_holes))]
theorem hd_X11_meant : yX11_meant.cls = RX11 ∧ yX11_meant.cls ≠ "java/lang/invoke/MethodHandle" ∧ yX11_meant.cls ≠ "java/lang/invoke/VarHandle" ∧ (parseMethodDescriptor yX11_meant.desc).map (fun d => d.parameters.length) = some 3 := by decide +kernel
abbrev rm_X11_meant : Room := { frames := 2, cells := 0, slots := 0, locals := 46 }
set_option maxHeartbeats 4000000 in
set_option maxRecDepth 100000 in
theorem c_X11_meant (l : Launch) (D : va_G) (cB cI cJ : ClassId) (N : Nat) (a_this : Nat) (a_cards : Nat) (a_county : Nat) (a_holes : Nat) (a_text : Nat) (a_letter : Nat) (a_where : Nat) (a_rank : Nat) (a_value : Nat) (a_hour : Nat) (a_readLetter : Nat) (a_readWhere : Nat) (a_readRank : Nat) (a_readValue : Nat) (a_readHour : Nat) (a_listName : Nat) (a_listDay : Nat) (a_voterName : Nat) (a_voterDay : Nat) (a_voterCounty : Nat) (a_heaps : Nat) (a_speed : Nat) (a_four : Nat) (a_byRules : Nat) (a_hours : Nat) (a_rest : Nat) (a_yet : Nat) (a_put : Nat) (v_kept : Int32) (v_length : Int32) (v_items : Int32) (v_readItems : Int32) (v_at : Int32) (v_lists : Int32) (v_voters : Int32) (v_needed : Int32) (v_cards : Nat → Int32) (v_holes : Nat → Int32) (x1 : Int32) (x2 : Int32) (x3 : Int32) {r : Int32} (hf : f_X11_meant N v_cards v_holes x1 x2 x3 = some r) : MTi l yX11_meant wsX11_meant rm_X11_meant D (wk_T cB cI cJ) [.ref a_this, .int x1, .int x2, .int x3] (w_X11_meant cB cI cJ a_this a_cards a_county a_holes a_text a_letter a_where a_rank a_value a_hour a_readLetter a_readWhere a_readRank a_readValue a_readHour a_listName a_listDay a_voterName a_voterDay a_voterCounty a_heaps a_speed a_four a_byRules a_hours a_rest a_yet a_put v_kept v_length v_items v_readItems v_at v_lists v_voters v_needed v_cards v_holes) (w_X11_meant cB cI cJ a_this a_cards a_county a_holes a_text a_letter a_where a_rank a_value a_hour a_readLetter a_readWhere a_readRank a_readValue a_readHour a_listName a_listDay a_voterName a_voterDay a_voterCounty a_heaps a_speed a_four a_byRules a_hours a_rest a_yet a_put v_kept v_length v_items v_readItems v_at v_lists v_voters v_needed v_cards v_holes) r := by
  refine MTi.of (cc := cX11_meant) (nL := 6) (rt := .int) (own := RX11) pn_X11 rfl rfl (Nat.le_of_ble_eq_true rfl) rfl ?_
  intro p e s m args below meth c A ls Q C hP hD hS hl hret
  obtain ⟨hx, hb, hml, hts, hown, hK, hN, hA, hlk⟩ := id C
  have hl : lv_has ls 6 [(0, .ref a_this), (1, .int x1), (2, .int x2), (3, .int x3)] := hl
  have L50 := wk_loopI (F := (fun k50 : Int32 → Int32 → Option Int32 => B_X11_meant_50 N v_cards v_holes k50)) (bot := fun _ _ => none) (fun k50 : Int32 → Int32 → Option Int32 => ∀ (x4 : Int32) (x5 : Int32), k50 x4 x5 = some r → ∀ (H : Heap) (locs : List Loc) (ls : Array Slot), va_P D vwCl (w_X11_meant cB cI cJ a_this a_cards a_county a_holes a_text a_letter a_where a_rank a_value a_hour a_readLetter a_readWhere a_readRank a_readValue a_readHour a_listName a_listDay a_voterName a_voterDay a_voterCounty a_heaps a_speed a_four a_byRules a_hours a_rest a_yet a_put v_kept v_length v_items v_readItems v_at v_lists v_voters v_needed v_cards v_holes) H → va_D A (w_X11_meant cB cI cJ a_this a_cards a_county a_holes a_text a_letter a_where a_rank a_value a_hour a_readLetter a_readWhere a_readRank a_readValue a_readHour a_listName a_listDay a_voterName a_voterDay a_voterCounty a_heaps a_speed a_four a_byRules a_hours a_rest a_yet a_put v_kept v_length v_items v_readItems v_at v_lists v_voters v_needed v_cards v_holes) → va_S A s.heap H locs → lv_has ls 6 [(4, .int x4), (5, .int x5)] → W p l e rm_X11_meant s m args below meth c H locs 0 0 Q (F0 m 50 ls [])) (by intro x4 x5 hf; exact wk_no hf) (by
    intro k50 ih50
    intro x4 x5 hf H locs ls hP hD hS hl
    have hf : B_X11_meant_50 N v_cards v_holes k50 x4 x5 = some r := hf
    unfold B_X11_meant_50 at hf
    refine lv_iload hx hb dX11_meant_50 (lv_at hl 1 rfl) ?_
    refine lv_iconst (v := (4 : Int32)) hx hb dX11_meant_52 (by decide) ?_
    refine lv_icmp_ge (tgt := 74) hx hb dX11_meant_53 (by decide) (fun c1 => ?_) (fun c1 => ?_)
    · have hf := wk_itT hf c1
      refine lv_bipush (v := (-4 : Int32)) hx hb dX11_meant_74 (by decide) ?_
      exact hret _ _ _ _ _ _ dX11_meant_76 (wk_rt hf (fun z => z)) rfl hP hD hS
    · have hf := wk_itF hf c1
      refine lv_iload hx hb dX11_meant_56 (lv_at hl 0 rfl) ?_
      refine lv_iconst (v := (1 : Int32)) hx hb dX11_meant_58 (by decide) ?_
      refine lv_iload hx hb dX11_meant_59 (lv_at hl 1 rfl) ?_
      refine lv_ishl hx hb dX11_meant_61 ?_
      refine lv_icmp_ne (tgt := 68) hx hb dX11_meant_62 (by decide) (fun c2 => ?_) (fun c2 => ?_)
      · have hf := wk_itF hf c2
        obtain ⟨y3, ey3⟩ : ∃ y : Int32, y = x5 + (1 : Int32) := ⟨_, rfl⟩
        have hf := wk_nmE hf ey3
        refine lv_iinc (v := y3) (lv' := [(5, .int y3), (4, .int x4)]) hx hb dX11_meant_68 hl (k := 1) rfl (by rw [ey3]; rfl) (by decide) rfl (fun ls hl => ?_)
        refine lv_goto (tgt := 50) hx hb dX11_meant_71 (by decide) ?_
        exact ih50 _ _ hf _ _ _ hP hD hS (lv_sub hl [1, 0] rfl)
      · have hf := wk_itT hf c2
        refine lv_iload hx hb dX11_meant_65 (lv_at hl 1 rfl) ?_
        exact hret _ _ _ _ _ _ dX11_meant_67 (wk_rt hf (fun z => z)) rfl hP hD hS)
  unfold f_X11_meant at hf
  refine lv_aload_n hx hb dX11_meant_0 rfl (lv_at hl 0 rfl) ?_
  refine lv_iload_n hx hb dX11_meant_1 rfl (lv_at hl 1 rfl) ?_
  obtain ⟨r4, hc4, hf⟩ := wk_b1E hf
  refine wk_callVi2 C hP hD hS (c_X11_isCard l D cB cI cJ N a_this a_cards a_county a_holes a_text a_letter a_where a_rank a_value a_hour a_readLetter a_readWhere a_readRank a_readValue a_readHour a_listName a_listDay a_voterName a_voterDay a_voterCounty a_heaps a_speed a_four a_byRules a_hours a_rest a_yet a_put v_kept v_length v_items v_readItems v_at v_lists v_voters v_needed v_cards x1 hc4) (cwV 1 hts gX11_meant_X11_isCard rfl rfl rfl hd_X11_isCard ⟨Nat.le_of_ble_eq_true rfl, Nat.le_of_ble_eq_true rfl⟩) hl.1 ⟨Nat.zero_le _, Nat.zero_le _⟩ [0, 1] [2] 3 (by decide +kernel) rfl (Wn := w_X11_meant cB cI cJ a_this a_cards a_county a_holes a_text a_letter a_where a_rank a_value a_hour a_readLetter a_readWhere a_readRank a_readValue a_readHour a_listName a_listDay a_voterName a_voterDay a_voterCounty a_heaps a_speed a_four a_byRules a_hours a_rest a_yet a_put v_kept v_length v_items v_readItems v_at v_lists v_voters v_needed v_cards v_holes) rfl rfl rfl rfl rfl rfl (ci := 11) rfl rfl (q0 := 0) rfl rfl rfl (Nat.le_of_ble_eq_true rfl) dX11_meant_2 (fun H locs hP hD hS => ?_)
  refine lv_if_eq (tgt := 30) hx hb dX11_meant_5 (by decide) (fun c5 => ?_) (fun c5 => ?_)
  · have hf := wk_itT hf c5
    refine lv_iconst (v := (-1 : Int32)) hx hb dX11_meant_30 (by decide) ?_
    exact hret _ _ _ _ _ _ dX11_meant_31 (wk_rt hf (fun z => z)) rfl hP hD hS
  · have hf := wk_itF hf c5
    refine lv_iload_n hx hb dX11_meant_8 rfl (lv_at hl 2 rfl) ?_
    refine lv_i2l (v := (x2.toInt64)) hx hb dX11_meant_9 rfl ?_
    refine lv_lconst (v := (0 : Int64)) hx hb dX11_meant_10 (by decide) ?_
    refine lv_ldc2 (v := (2 : Int64)) hx hb hown (hts (.constantLong RX11 115 (2)) (List.mem_of_getElem? (i := 1) rfl)) dX11_meant_11 ?_
    obtain ⟨r6, hc6, hf⟩ := wk_b1E hf
    refine wk_callSi2 C hP hD hS (c_X11_in l D cB cI cJ N (x2.toInt64) (0 : Int64) (2 : Int64) hc6) (va_cwS 3 hts gX11_meant_X11_in rfl rfl rfl hd_X11_in.2 ⟨Nat.le_of_ble_eq_true rfl, Nat.le_of_ble_eq_true rfl⟩) hl.1 ⟨Nat.zero_le _, Nat.zero_le _⟩ [] [0, 1, 2] 3 (by decide +kernel) rfl (Wn := w_X11_meant cB cI cJ a_this a_cards a_county a_holes a_text a_letter a_where a_rank a_value a_hour a_readLetter a_readWhere a_readRank a_readValue a_readHour a_listName a_listDay a_voterName a_voterDay a_voterCounty a_heaps a_speed a_four a_byRules a_hours a_rest a_yet a_put v_kept v_length v_items v_readItems v_at v_lists v_voters v_needed v_cards v_holes) rfl rfl rfl rfl rfl rfl rfl rfl (Nat.le_of_ble_eq_true rfl) dX11_meant_14 (fun H locs hP hD hS => ?_)
    refine lv_if_eq (tgt := 30) hx hb dX11_meant_17 (by decide) (fun c7 => ?_) (fun c7 => ?_)
    · have hf := wk_itT hf c7
      refine lv_iconst (v := (-1 : Int32)) hx hb dX11_meant_30 (by decide) ?_
      exact hret _ _ _ _ _ _ dX11_meant_31 (wk_rt hf (fun z => z)) rfl hP hD hS
    · have hf := wk_itF hf c7
      refine lv_iload_n hx hb dX11_meant_20 rfl (lv_at hl 3 rfl) ?_
      refine lv_i2l (v := (x3.toInt64)) hx hb dX11_meant_21 rfl ?_
      refine lv_lconst (v := (0 : Int64)) hx hb dX11_meant_22 (by decide) ?_
      refine lv_lconst (v := (1 : Int64)) hx hb dX11_meant_23 (by decide) ?_
      obtain ⟨r8, hc8, hf⟩ := wk_b1E hf
      refine wk_callSi2 C hP hD hS (c_X11_in l D cB cI cJ N (x3.toInt64) (0 : Int64) (1 : Int64) hc8) (va_cwS 3 hts gX11_meant_X11_in rfl rfl rfl hd_X11_in.2 ⟨Nat.le_of_ble_eq_true rfl, Nat.le_of_ble_eq_true rfl⟩) hl.1 ⟨Nat.zero_le _, Nat.zero_le _⟩ [] [0, 1, 2] 3 (by decide +kernel) rfl (Wn := w_X11_meant cB cI cJ a_this a_cards a_county a_holes a_text a_letter a_where a_rank a_value a_hour a_readLetter a_readWhere a_readRank a_readValue a_readHour a_listName a_listDay a_voterName a_voterDay a_voterCounty a_heaps a_speed a_four a_byRules a_hours a_rest a_yet a_put v_kept v_length v_items v_readItems v_at v_lists v_voters v_needed v_cards v_holes) rfl rfl rfl rfl rfl rfl rfl rfl (Nat.le_of_ble_eq_true rfl) dX11_meant_24 (fun H locs hP hD hS => ?_)
      refine lv_if_ne (tgt := 32) hx hb dX11_meant_27 (by decide) (fun c9 => ?_) (fun c9 => ?_)
      · have hf := wk_itF hf c9
        refine lv_aload_n hx hb dX11_meant_32 rfl (lv_at hl 0 rfl) ?_
        refine lv_iload_n hx hb dX11_meant_33 rfl (lv_at hl 1 rfl) ?_
        refine lv_iload_n hx hb dX11_meant_34 rfl (lv_at hl 2 rfl) ?_
        obtain ⟨r10, hc10, hf⟩ := wk_b1E hf
        refine wk_callVi2 C hP hD hS (c_X11_meantBy l D cB cI cJ N a_this a_cards a_county a_holes a_text a_letter a_where a_rank a_value a_hour a_readLetter a_readWhere a_readRank a_readValue a_readHour a_listName a_listDay a_voterName a_voterDay a_voterCounty a_heaps a_speed a_four a_byRules a_hours a_rest a_yet a_put v_kept v_length v_items v_readItems v_at v_lists v_voters v_needed v_holes x1 x2 hc10) (cwV 2 hts gX11_meant_X11_meantBy rfl rfl rfl hd_X11_meantBy ⟨Nat.le_of_ble_eq_true rfl, Nat.le_of_ble_eq_true rfl⟩) hl.1 ⟨Nat.zero_le _, Nat.zero_le _⟩ [0, 2] [1] 3 (by decide +kernel) rfl (Wn := w_X11_meant cB cI cJ a_this a_cards a_county a_holes a_text a_letter a_where a_rank a_value a_hour a_readLetter a_readWhere a_readRank a_readValue a_readHour a_listName a_listDay a_voterName a_voterDay a_voterCounty a_heaps a_speed a_four a_byRules a_hours a_rest a_yet a_put v_kept v_length v_items v_readItems v_at v_lists v_voters v_needed v_cards v_holes) rfl rfl rfl rfl rfl rfl (ci := 11) rfl rfl (q0 := 0) rfl rfl rfl (Nat.le_of_ble_eq_true rfl) dX11_meant_35 (fun H locs hP hD hS => ?_)
        refine lv_istore (lv' := [(4, .int r10), (0, .ref a_this), (1, .int x1), (2, .int x2), (3, .int x3)]) hx hb dX11_meant_38 hl (by decide) rfl (fun ls hl => ?_)
        refine lv_iload_n hx hb dX11_meant_40 rfl (lv_at hl 4 rfl) ?_
        refine lv_if_ne (tgt := 47) hx hb dX11_meant_41 (by decide) (fun c11 => ?_) (fun c11 => ?_)
        · have hf := wk_itF hf c11
          refine lv_iconst (v := (0 : Int32)) hx hb dX11_meant_47 (by decide) ?_
          refine lv_istore (lv' := [(5, .int (0 : Int32)), (4, .int r10), (0, .ref a_this), (1, .int x1), (2, .int x2), (3, .int x3)]) hx hb dX11_meant_48 hl (by decide) rfl (fun ls hl => ?_)
          exact L50 N _ _ hf _ _ _ hP hD hS (lv_sub hl [1, 0] rfl)
        · have hf := wk_itT hf c11
          refine lv_iload hx hb dX11_meant_44 (lv_at hl 0 rfl) ?_
          exact hret _ _ _ _ _ _ dX11_meant_46 (wk_rt hf (fun z => z)) rfl hP hD hS
      · have hf := wk_itT hf c9
        refine lv_iconst (v := (-1 : Int32)) hx hb dX11_meant_30 (by decide) ?_
        exact hret _ _ _ _ _ _ dX11_meant_31 (wk_rt hf (fun z => z)) rfl hP hD hS
abbrev w_X11_otherwise (cB cI cJ : ClassId) (a_this : Nat) (a_cards : Nat) (a_county : Nat) (a_holes : Nat) (a_text : Nat) (a_letter : Nat) (a_where : Nat) (a_rank : Nat) (a_value : Nat) (a_hour : Nat) (a_readLetter : Nat) (a_readWhere : Nat) (a_readRank : Nat) (a_readValue : Nat) (a_readHour : Nat) (a_listName : Nat) (a_listDay : Nat) (a_voterName : Nat) (a_voterDay : Nat) (a_voterCounty : Nat) (a_heaps : Nat) (a_speed : Nat) (a_four : Nat) (a_byRules : Nat) (a_hours : Nat) (a_rest : Nat) (a_yet : Nat) (a_put : Nat) (v_kept : Int32) (v_length : Int32) (v_items : Int32) (v_readItems : Int32) (v_at : Int32) (v_lists : Int32) (v_voters : Int32) (v_needed : Int32) (v_cards : Nat → Int32) (v_county : Nat → Int32) (v_holes : Nat → Int32) (v_hour : Nat → Int32) (v_letter : Nat → Int32) (v_rank : Nat → Int32) (v_value : Nat → Int32) (v_where : Nat → Int32) : va_W := [(a_this, .inr (11, [.ref a_cards, .ref a_county, .ref a_holes, .int v_kept, .int v_length, .ref a_text, .int v_items, .ref a_letter, .ref a_where, .ref a_rank, .ref a_value, .ref a_hour, .int v_readItems, .ref a_readLetter, .ref a_readWhere, .ref a_readRank, .ref a_readValue, .ref a_readHour, .int v_at, .int v_lists, .ref a_listName, .ref a_listDay, .int v_voters, .ref a_voterName, .ref a_voterDay, .ref a_voterCounty, .int v_needed, .ref a_heaps, .ref a_speed, .ref a_four, .ref a_byRules, .ref a_hours, .ref a_rest, .ref a_yet, .ref a_put])), (a_cards, .inl (cI, 3, .inl v_cards)), (a_county, .inl (cI, 120, .inl v_county)), (a_holes, .inl (cI, 1440, .inl v_holes)), (a_hour, .inl (cI, 40, .inl v_hour)), (a_letter, .inl (cI, 40, .inl v_letter)), (a_rank, .inl (cI, 40, .inl v_rank)), (a_value, .inl (cI, 40, .inl v_value)), (a_where, .inl (cI, 40, .inl v_where))]
theorem hd_X11_otherwise : yX11_otherwise.cls = RX11 ∧ yX11_otherwise.cls ≠ "java/lang/invoke/MethodHandle" ∧ yX11_otherwise.cls ≠ "java/lang/invoke/VarHandle" ∧ (parseMethodDescriptor yX11_otherwise.desc).map (fun d => d.parameters.length) = some 4 := by decide +kernel
abbrev rm_X11_otherwise : Room := { frames := 3, cells := 0, slots := 0, locals := 76 }
theorem in_X11_otherwise_X11 : ∀ w ∈ wsX110, w ∈ wsX11_otherwise := fun w h => List.mem_cons_of_mem _ (List.mem_append_right _ h)
set_option maxHeartbeats 4000000 in
set_option maxRecDepth 100000 in
theorem c_X11_otherwise (l : Launch) (D : va_G) (cB cI cJ : ClassId) (N : Nat) (a_this : Nat) (a_cards : Nat) (a_county : Nat) (a_holes : Nat) (a_text : Nat) (a_letter : Nat) (a_where : Nat) (a_rank : Nat) (a_value : Nat) (a_hour : Nat) (a_readLetter : Nat) (a_readWhere : Nat) (a_readRank : Nat) (a_readValue : Nat) (a_readHour : Nat) (a_listName : Nat) (a_listDay : Nat) (a_voterName : Nat) (a_voterDay : Nat) (a_voterCounty : Nat) (a_heaps : Nat) (a_speed : Nat) (a_four : Nat) (a_byRules : Nat) (a_hours : Nat) (a_rest : Nat) (a_yet : Nat) (a_put : Nat) (v_kept : Int32) (v_length : Int32) (v_items : Int32) (v_readItems : Int32) (v_at : Int32) (v_lists : Int32) (v_voters : Int32) (v_needed : Int32) (v_cards : Nat → Int32) (v_county : Nat → Int32) (v_holes : Nat → Int32) (v_hour : Nat → Int32) (v_letter : Nat → Int32) (v_rank : Nat → Int32) (v_value : Nat → Int32) (v_where : Nat → Int32) (x1 : Int32) (x2 : Int32) (x3 : Int32) (x4 : Int32) {r : Int32} (hf : f_X11_otherwise N v_items v_cards v_county v_holes v_hour v_letter v_rank v_value v_where x1 x2 x3 x4 = some r) : MTi l yX11_otherwise wsX11_otherwise rm_X11_otherwise D (wk_T cB cI cJ) [.ref a_this, .int x1, .int x2, .int x3, .int x4] (w_X11_otherwise cB cI cJ a_this a_cards a_county a_holes a_text a_letter a_where a_rank a_value a_hour a_readLetter a_readWhere a_readRank a_readValue a_readHour a_listName a_listDay a_voterName a_voterDay a_voterCounty a_heaps a_speed a_four a_byRules a_hours a_rest a_yet a_put v_kept v_length v_items v_readItems v_at v_lists v_voters v_needed v_cards v_county v_holes v_hour v_letter v_rank v_value v_where) (w_X11_otherwise cB cI cJ a_this a_cards a_county a_holes a_text a_letter a_where a_rank a_value a_hour a_readLetter a_readWhere a_readRank a_readValue a_readHour a_listName a_listDay a_voterName a_voterDay a_voterCounty a_heaps a_speed a_four a_byRules a_hours a_rest a_yet a_put v_kept v_length v_items v_readItems v_at v_lists v_voters v_needed v_cards v_county v_holes v_hour v_letter v_rank v_value v_where) r := by
  refine MTi.of (cc := cX11_otherwise) (nL := 7) (rt := .int) (own := RX11) pn_X11 rfl rfl (Nat.le_of_ble_eq_true rfl) rfl ?_
  intro p e s m args below meth c A ls Q C hP hD hS hl hret
  obtain ⟨hx, hb, hml, hts, hown, hK, hN, hA, hlk⟩ := id C
  have hl : lv_has ls 7 [(0, .ref a_this), (1, .int x1), (2, .int x2), (3, .int x3), (4, .int x4)] := hl
  have L47 := wk_loopI (F := (fun k47 : Int32 → Int32 → Int32 → Int32 → Int32 → Int32 → Option Int32 => B_X11_otherwise_47 N v_items v_cards v_county v_holes v_hour v_letter v_rank v_value v_where k47)) (bot := fun _ _ _ _ _ _ => none) (fun k47 : Int32 → Int32 → Int32 → Int32 → Int32 → Int32 → Option Int32 => ∀ (x1 : Int32) (x2 : Int32) (x3 : Int32) (x4 : Int32) (x5 : Int32) (x6 : Int32), k47 x1 x2 x3 x4 x5 x6 = some r → ∀ (H : Heap) (locs : List Loc) (ls : Array Slot), va_P D vwCl (w_X11_otherwise cB cI cJ a_this a_cards a_county a_holes a_text a_letter a_where a_rank a_value a_hour a_readLetter a_readWhere a_readRank a_readValue a_readHour a_listName a_listDay a_voterName a_voterDay a_voterCounty a_heaps a_speed a_four a_byRules a_hours a_rest a_yet a_put v_kept v_length v_items v_readItems v_at v_lists v_voters v_needed v_cards v_county v_holes v_hour v_letter v_rank v_value v_where) H → va_D A (w_X11_otherwise cB cI cJ a_this a_cards a_county a_holes a_text a_letter a_where a_rank a_value a_hour a_readLetter a_readWhere a_readRank a_readValue a_readHour a_listName a_listDay a_voterName a_voterDay a_voterCounty a_heaps a_speed a_four a_byRules a_hours a_rest a_yet a_put v_kept v_length v_items v_readItems v_at v_lists v_voters v_needed v_cards v_county v_holes v_hour v_letter v_rank v_value v_where) → va_S A s.heap H locs → lv_has ls 7 [(0, .ref a_this), (1, .int x1), (2, .int x2), (3, .int x3), (4, .int x4), (5, .int x5), (6, .int x6)] → W p l e rm_X11_otherwise s m args below meth c H locs 0 0 Q (F0 m 47 ls [])) (by intro x1 x2 x3 x4 x5 x6 hf; exact wk_no hf) (by
    intro k47 ih47
    intro x1 x2 x3 x4 x5 x6 hf H locs ls hP hD hS hl
    have hf : B_X11_otherwise_47 N v_items v_cards v_county v_holes v_hour v_letter v_rank v_value v_where k47 x1 x2 x3 x4 x5 x6 = some r := hf
    unfold B_X11_otherwise_47 at hf
    refine lv_iload hx hb dX11_otherwise_47 (lv_at hl 6 rfl) ?_
    refine lv_aload_n hx hb dX11_otherwise_49 rfl (lv_at hl 0 rfl) ?_
    refine va_get (D := D) (ci := 11) (v := .ref a_cards) (C := RX11) (T := TX11) (N := 35) hx hb hts in_X11_otherwise_X11 hown hK hP 0 rfl rfl 0 (by decide) (hts (.fieldLink RX11 7 "HangingCardsModel" "cards" "[I") (List.mem_of_getElem? (i := 3) rfl)) (fun _ h9 => h9) rfl dX11_otherwise_50 ?_
    refine lv_iconst (v := (0 : Int32)) hx hb dX11_otherwise_53 (by decide) ?_
    obtain ⟨hi1, hf⟩ := wk_ckE hf
    refine va_iald hx hb hK hP 1 0 rfl rfl hi1 dX11_otherwise_54 ?_
    refine lv_icmp_ge (tgt := 106) hx hb dX11_otherwise_55 (by decide) (fun c2 => ?_) (fun c2 => ?_)
    · have hf := wk_itT hf c2
      refine lv_iload hx hb dX11_otherwise_106 (lv_at hl 5 rfl) ?_
      exact hret _ _ _ _ _ _ dX11_otherwise_108 (wk_rt hf (fun z => z)) rfl hP hD hS
    · have hf := wk_itF hf c2
      refine lv_iload hx hb dX11_otherwise_58 (lv_at hl 5 rfl) ?_
      refine lv_aload_n hx hb dX11_otherwise_60 rfl (lv_at hl 0 rfl) ?_
      refine lv_iload hx hb dX11_otherwise_61 (lv_at hl 6 rfl) ?_
      refine lv_iload_n hx hb dX11_otherwise_63 rfl (lv_at hl 1 rfl) ?_
      obtain ⟨r3, hc3, hf⟩ := wk_b1E hf
      refine wk_callVi2 C hP hD hS (c_X11_isIn l D cB cI cJ N a_this a_cards a_county a_holes a_text a_letter a_where a_rank a_value a_hour a_readLetter a_readWhere a_readRank a_readValue a_readHour a_listName a_listDay a_voterName a_voterDay a_voterCounty a_heaps a_speed a_four a_byRules a_hours a_rest a_yet a_put v_kept v_length v_items v_readItems v_at v_lists v_voters v_needed v_county x6 x1 hc3) (cwV 2 hts gX11_otherwise_X11_isIn rfl rfl rfl hd_X11_isIn ⟨Nat.le_of_ble_eq_true rfl, Nat.le_of_ble_eq_true rfl⟩) hl.1 ⟨Nat.zero_le _, Nat.zero_le _⟩ [0, 2] [1, 3, 4, 5, 6, 7, 8] 9 (by decide +kernel) rfl (Wn := w_X11_otherwise cB cI cJ a_this a_cards a_county a_holes a_text a_letter a_where a_rank a_value a_hour a_readLetter a_readWhere a_readRank a_readValue a_readHour a_listName a_listDay a_voterName a_voterDay a_voterCounty a_heaps a_speed a_four a_byRules a_hours a_rest a_yet a_put v_kept v_length v_items v_readItems v_at v_lists v_voters v_needed v_cards v_county v_holes v_hour v_letter v_rank v_value v_where) rfl rfl rfl rfl rfl rfl (ci := 11) rfl rfl (q0 := 0) rfl rfl rfl (Nat.le_of_ble_eq_true rfl) dX11_otherwise_64 (fun H locs hP hD hS => ?_)
      refine lv_if_eq (tgt := 96) hx hb dX11_otherwise_67 (by decide) (fun c4 => ?_) (fun c4 => ?_)
      · have hf := wk_itT hf c4
        refine lv_iconst (v := (0 : Int32)) hx hb dX11_otherwise_96 (by decide) ?_
        refine lv_iadd hx hb dX11_otherwise_97 ?_
        refine lv_topi (fun y5 ey5 => ?_)
        have hf := wk_nmE hf ey5
        refine lv_istore (lv' := [(5, .int y5), (0, .ref a_this), (1, .int x1), (2, .int x2), (3, .int x3), (4, .int x4), (6, .int x6)]) hx hb dX11_otherwise_98 hl (by decide) rfl (fun ls hl => ?_)
        obtain ⟨y6, ey6⟩ : ∃ y : Int32, y = x6 + (1 : Int32) := ⟨_, rfl⟩
        have hf := wk_nmE hf ey6
        refine lv_iinc (v := y6) (lv' := [(6, .int y6), (5, .int y5), (0, .ref a_this), (1, .int x1), (2, .int x2), (3, .int x3), (4, .int x4)]) hx hb dX11_otherwise_100 hl (k := 6) rfl (by rw [ey6]; rfl) (by decide) rfl (fun ls hl => ?_)
        refine lv_goto (tgt := 47) hx hb dX11_otherwise_103 (by decide) ?_
        exact ih47 _ _ _ _ _ _ hf _ _ _ hP hD hS (lv_sub hl [2, 3, 4, 5, 6, 1, 0] rfl)
      · have hf := wk_itF hf c4
        refine lv_aload_n hx hb dX11_otherwise_70 rfl (lv_at hl 0 rfl) ?_
        refine lv_iload hx hb dX11_otherwise_71 (lv_at hl 6 rfl) ?_
        refine lv_iload_n hx hb dX11_otherwise_73 rfl (lv_at hl 2 rfl) ?_
        refine lv_iload_n hx hb dX11_otherwise_74 rfl (lv_at hl 3 rfl) ?_
        refine lv_iconst (v := (0 : Int32)) hx hb dX11_otherwise_75 (by decide) ?_
        obtain ⟨r7, hc7, hf⟩ := wk_b1E hf
        refine wk_callVi2 C hP hD hS (c_X11_voteOf l D cB cI cJ N a_this a_cards a_county a_holes a_text a_letter a_where a_rank a_value a_hour a_readLetter a_readWhere a_readRank a_readValue a_readHour a_listName a_listDay a_voterName a_voterDay a_voterCounty a_heaps a_speed a_four a_byRules a_hours a_rest a_yet a_put v_kept v_length v_items v_readItems v_at v_lists v_voters v_needed v_county v_holes v_hour v_letter v_rank v_value v_where x6 x2 x3 (0 : Int32) hc7) (cwV 4 hts gX11_otherwise_X11_voteOf rfl rfl rfl hd_X11_voteOf ⟨Nat.le_of_ble_eq_true rfl, Nat.le_of_ble_eq_true rfl⟩) hl.1 ⟨Nat.zero_le _, Nat.zero_le _⟩ [0, 2, 3, 4, 5, 6, 7, 8] [1] 9 (by decide +kernel) rfl (Wn := w_X11_otherwise cB cI cJ a_this a_cards a_county a_holes a_text a_letter a_where a_rank a_value a_hour a_readLetter a_readWhere a_readRank a_readValue a_readHour a_listName a_listDay a_voterName a_voterDay a_voterCounty a_heaps a_speed a_four a_byRules a_hours a_rest a_yet a_put v_kept v_length v_items v_readItems v_at v_lists v_voters v_needed v_cards v_county v_holes v_hour v_letter v_rank v_value v_where) rfl rfl rfl rfl rfl rfl (ci := 11) rfl rfl (q0 := 0) rfl rfl rfl (Nat.le_of_ble_eq_true rfl) dX11_otherwise_76 (fun H locs hP hD hS => ?_)
        refine lv_aload_n hx hb dX11_otherwise_79 rfl (lv_at hl 0 rfl) ?_
        refine lv_iload hx hb dX11_otherwise_80 (lv_at hl 6 rfl) ?_
        refine lv_iload_n hx hb dX11_otherwise_82 rfl (lv_at hl 2 rfl) ?_
        refine lv_iload hx hb dX11_otherwise_83 (lv_at hl 4 rfl) ?_
        refine lv_iconst (v := (0 : Int32)) hx hb dX11_otherwise_85 (by decide) ?_
        obtain ⟨r8, hc8, hf⟩ := wk_b1E hf
        refine wk_callVi2 C hP hD hS (c_X11_voteOf l D cB cI cJ N a_this a_cards a_county a_holes a_text a_letter a_where a_rank a_value a_hour a_readLetter a_readWhere a_readRank a_readValue a_readHour a_listName a_listDay a_voterName a_voterDay a_voterCounty a_heaps a_speed a_four a_byRules a_hours a_rest a_yet a_put v_kept v_length v_items v_readItems v_at v_lists v_voters v_needed v_county v_holes v_hour v_letter v_rank v_value v_where x6 x2 x4 (0 : Int32) hc8) (cwV 4 hts gX11_otherwise_X11_voteOf rfl rfl rfl hd_X11_voteOf ⟨Nat.le_of_ble_eq_true rfl, Nat.le_of_ble_eq_true rfl⟩) hl.1 ⟨Nat.zero_le _, Nat.zero_le _⟩ [0, 2, 3, 4, 5, 6, 7, 8] [1] 9 (by decide +kernel) rfl (Wn := w_X11_otherwise cB cI cJ a_this a_cards a_county a_holes a_text a_letter a_where a_rank a_value a_hour a_readLetter a_readWhere a_readRank a_readValue a_readHour a_listName a_listDay a_voterName a_voterDay a_voterCounty a_heaps a_speed a_four a_byRules a_hours a_rest a_yet a_put v_kept v_length v_items v_readItems v_at v_lists v_voters v_needed v_cards v_county v_holes v_hour v_letter v_rank v_value v_where) rfl rfl rfl rfl rfl rfl (ci := 11) rfl rfl (q0 := 0) rfl rfl rfl (Nat.le_of_ble_eq_true rfl) dX11_otherwise_86 (fun H locs hP hD hS => ?_)
        refine lv_icmp_eq (tgt := 96) hx hb dX11_otherwise_89 (by decide) (fun c9 => ?_) (fun c9 => ?_)
        · have hf := wk_itT hf c9
          refine lv_iconst (v := (0 : Int32)) hx hb dX11_otherwise_96 (by decide) ?_
          refine lv_iadd hx hb dX11_otherwise_97 ?_
          refine lv_topi (fun y10 ey10 => ?_)
          have hf := wk_nmE hf ey10
          refine lv_istore (lv' := [(5, .int y10), (0, .ref a_this), (1, .int x1), (2, .int x2), (3, .int x3), (4, .int x4), (6, .int x6)]) hx hb dX11_otherwise_98 hl (by decide) rfl (fun ls hl => ?_)
          obtain ⟨y11, ey11⟩ : ∃ y : Int32, y = x6 + (1 : Int32) := ⟨_, rfl⟩
          have hf := wk_nmE hf ey11
          refine lv_iinc (v := y11) (lv' := [(6, .int y11), (5, .int y10), (0, .ref a_this), (1, .int x1), (2, .int x2), (3, .int x3), (4, .int x4)]) hx hb dX11_otherwise_100 hl (k := 6) rfl (by rw [ey11]; rfl) (by decide) rfl (fun ls hl => ?_)
          refine lv_goto (tgt := 47) hx hb dX11_otherwise_103 (by decide) ?_
          exact ih47 _ _ _ _ _ _ hf _ _ _ hP hD hS (lv_sub hl [2, 3, 4, 5, 6, 1, 0] rfl)
        · have hf := wk_itF hf c9
          refine lv_iconst (v := (1 : Int32)) hx hb dX11_otherwise_92 (by decide) ?_
          refine lv_goto (tgt := 97) hx hb dX11_otherwise_93 (by decide) ?_
          refine lv_iadd hx hb dX11_otherwise_97 ?_
          refine lv_topi (fun y12 ey12 => ?_)
          have hf := wk_nmE hf ey12
          refine lv_istore (lv' := [(5, .int y12), (0, .ref a_this), (1, .int x1), (2, .int x2), (3, .int x3), (4, .int x4), (6, .int x6)]) hx hb dX11_otherwise_98 hl (by decide) rfl (fun ls hl => ?_)
          obtain ⟨y13, ey13⟩ : ∃ y : Int32, y = x6 + (1 : Int32) := ⟨_, rfl⟩
          have hf := wk_nmE hf ey13
          refine lv_iinc (v := y13) (lv' := [(6, .int y13), (5, .int y12), (0, .ref a_this), (1, .int x1), (2, .int x2), (3, .int x3), (4, .int x4)]) hx hb dX11_otherwise_100 hl (k := 6) rfl (by rw [ey13]; rfl) (by decide) rfl (fun ls hl => ?_)
          refine lv_goto (tgt := 47) hx hb dX11_otherwise_103 (by decide) ?_
          exact ih47 _ _ _ _ _ _ hf _ _ _ hP hD hS (lv_sub hl [2, 3, 4, 5, 6, 1, 0] rfl))
  unfold f_X11_otherwise at hf
  refine lv_iload_n hx hb dX11_otherwise_0 rfl (lv_at hl 1 rfl) ?_
  refine lv_i2l (v := (x1.toInt64)) hx hb dX11_otherwise_1 rfl ?_
  refine lv_lconst (v := (0 : Int64)) hx hb dX11_otherwise_2 (by decide) ?_
  refine lv_ldc2 (v := (5 : Int64)) hx hb hown (hts (.constantLong RX11 157 (5)) (List.mem_of_getElem? (i := 1) rfl)) dX11_otherwise_3 ?_
  obtain ⟨r14, hc14, hf⟩ := wk_b1E hf
  refine wk_callSi2 C hP hD hS (c_X11_in l D cB cI cJ N (x1.toInt64) (0 : Int64) (5 : Int64) hc14) (va_cwS 3 hts gX11_otherwise_X11_in rfl rfl rfl hd_X11_in.2 ⟨Nat.le_of_ble_eq_true rfl, Nat.le_of_ble_eq_true rfl⟩) hl.1 ⟨Nat.zero_le _, Nat.zero_le _⟩ [] [0, 1, 2, 3, 4, 5, 6, 7, 8] 9 (by decide +kernel) rfl (Wn := w_X11_otherwise cB cI cJ a_this a_cards a_county a_holes a_text a_letter a_where a_rank a_value a_hour a_readLetter a_readWhere a_readRank a_readValue a_readHour a_listName a_listDay a_voterName a_voterDay a_voterCounty a_heaps a_speed a_four a_byRules a_hours a_rest a_yet a_put v_kept v_length v_items v_readItems v_at v_lists v_voters v_needed v_cards v_county v_holes v_hour v_letter v_rank v_value v_where) rfl rfl rfl rfl rfl rfl rfl rfl (Nat.le_of_ble_eq_true rfl) dX11_otherwise_6 (fun H locs hP hD hS => ?_)
  refine lv_if_eq (tgt := 39) hx hb dX11_otherwise_9 (by decide) (fun c15 => ?_) (fun c15 => ?_)
  · have hf := wk_itT hf c15
    refine lv_iconst (v := (-1 : Int32)) hx hb dX11_otherwise_39 (by decide) ?_
    exact hret _ _ _ _ _ _ dX11_otherwise_40 (wk_rt hf (fun z => z)) rfl hP hD hS
  · have hf := wk_itF hf c15
    refine lv_iload_n hx hb dX11_otherwise_12 rfl (lv_at hl 2 rfl) ?_
    refine lv_i2l (v := (x2.toInt64)) hx hb dX11_otherwise_13 rfl ?_
    refine lv_lconst (v := (0 : Int64)) hx hb dX11_otherwise_14 (by decide) ?_
    refine lv_ldc2 (v := (2 : Int64)) hx hb hown (hts (.constantLong RX11 115 (2)) (List.mem_of_getElem? (i := 2) rfl)) dX11_otherwise_15 ?_
    obtain ⟨r16, hc16, hf⟩ := wk_b1E hf
    refine wk_callSi2 C hP hD hS (c_X11_in l D cB cI cJ N (x2.toInt64) (0 : Int64) (2 : Int64) hc16) (va_cwS 3 hts gX11_otherwise_X11_in rfl rfl rfl hd_X11_in.2 ⟨Nat.le_of_ble_eq_true rfl, Nat.le_of_ble_eq_true rfl⟩) hl.1 ⟨Nat.zero_le _, Nat.zero_le _⟩ [] [0, 1, 2, 3, 4, 5, 6, 7, 8] 9 (by decide +kernel) rfl (Wn := w_X11_otherwise cB cI cJ a_this a_cards a_county a_holes a_text a_letter a_where a_rank a_value a_hour a_readLetter a_readWhere a_readRank a_readValue a_readHour a_listName a_listDay a_voterName a_voterDay a_voterCounty a_heaps a_speed a_four a_byRules a_hours a_rest a_yet a_put v_kept v_length v_items v_readItems v_at v_lists v_voters v_needed v_cards v_county v_holes v_hour v_letter v_rank v_value v_where) rfl rfl rfl rfl rfl rfl rfl rfl (Nat.le_of_ble_eq_true rfl) dX11_otherwise_18 (fun H locs hP hD hS => ?_)
    refine lv_if_eq (tgt := 39) hx hb dX11_otherwise_21 (by decide) (fun c17 => ?_) (fun c17 => ?_)
    · have hf := wk_itT hf c17
      refine lv_iconst (v := (-1 : Int32)) hx hb dX11_otherwise_39 (by decide) ?_
      exact hret _ _ _ _ _ _ dX11_otherwise_40 (wk_rt hf (fun z => z)) rfl hP hD hS
    · have hf := wk_itF hf c17
      refine lv_iload_n hx hb dX11_otherwise_24 rfl (lv_at hl 3 rfl) ?_
      obtain ⟨r18, hc18, hf⟩ := wk_b1E hf
      refine wk_callSi2 C hP hD hS (c_X11_isHour l D cB cI cJ N x3 hc18) (va_cwS 1 hts gX11_otherwise_X11_isHour rfl rfl rfl hd_X11_isHour.2 ⟨Nat.le_of_ble_eq_true rfl, Nat.le_of_ble_eq_true rfl⟩) hl.1 ⟨Nat.zero_le _, Nat.zero_le _⟩ [] [0, 1, 2, 3, 4, 5, 6, 7, 8] 9 (by decide +kernel) rfl (Wn := w_X11_otherwise cB cI cJ a_this a_cards a_county a_holes a_text a_letter a_where a_rank a_value a_hour a_readLetter a_readWhere a_readRank a_readValue a_readHour a_listName a_listDay a_voterName a_voterDay a_voterCounty a_heaps a_speed a_four a_byRules a_hours a_rest a_yet a_put v_kept v_length v_items v_readItems v_at v_lists v_voters v_needed v_cards v_county v_holes v_hour v_letter v_rank v_value v_where) rfl rfl rfl rfl rfl rfl rfl rfl (Nat.le_of_ble_eq_true rfl) dX11_otherwise_25 (fun H locs hP hD hS => ?_)
      refine lv_if_eq (tgt := 39) hx hb dX11_otherwise_28 (by decide) (fun c19 => ?_) (fun c19 => ?_)
      · have hf := wk_itT hf c19
        refine lv_iconst (v := (-1 : Int32)) hx hb dX11_otherwise_39 (by decide) ?_
        exact hret _ _ _ _ _ _ dX11_otherwise_40 (wk_rt hf (fun z => z)) rfl hP hD hS
      · have hf := wk_itF hf c19
        refine lv_iload hx hb dX11_otherwise_31 (lv_at hl 4 rfl) ?_
        obtain ⟨r20, hc20, hf⟩ := wk_b1E hf
        refine wk_callSi2 C hP hD hS (c_X11_isHour l D cB cI cJ N x4 hc20) (va_cwS 1 hts gX11_otherwise_X11_isHour rfl rfl rfl hd_X11_isHour.2 ⟨Nat.le_of_ble_eq_true rfl, Nat.le_of_ble_eq_true rfl⟩) hl.1 ⟨Nat.zero_le _, Nat.zero_le _⟩ [] [0, 1, 2, 3, 4, 5, 6, 7, 8] 9 (by decide +kernel) rfl (Wn := w_X11_otherwise cB cI cJ a_this a_cards a_county a_holes a_text a_letter a_where a_rank a_value a_hour a_readLetter a_readWhere a_readRank a_readValue a_readHour a_listName a_listDay a_voterName a_voterDay a_voterCounty a_heaps a_speed a_four a_byRules a_hours a_rest a_yet a_put v_kept v_length v_items v_readItems v_at v_lists v_voters v_needed v_cards v_county v_holes v_hour v_letter v_rank v_value v_where) rfl rfl rfl rfl rfl rfl rfl rfl (Nat.le_of_ble_eq_true rfl) dX11_otherwise_33 (fun H locs hP hD hS => ?_)
        refine lv_if_ne (tgt := 41) hx hb dX11_otherwise_36 (by decide) (fun c21 => ?_) (fun c21 => ?_)
        · have hf := wk_itF hf c21
          refine lv_iconst (v := (0 : Int32)) hx hb dX11_otherwise_41 (by decide) ?_
          refine lv_istore (lv' := [(5, .int (0 : Int32)), (0, .ref a_this), (1, .int x1), (2, .int x2), (3, .int x3), (4, .int x4)]) hx hb dX11_otherwise_42 hl (by decide) rfl (fun ls hl => ?_)
          refine lv_iconst (v := (0 : Int32)) hx hb dX11_otherwise_44 (by decide) ?_
          refine lv_istore (lv' := [(6, .int (0 : Int32)), (5, .int (0 : Int32)), (0, .ref a_this), (1, .int x1), (2, .int x2), (3, .int x3), (4, .int x4)]) hx hb dX11_otherwise_45 hl (by decide) rfl (fun ls hl => ?_)
          exact L47 N _ _ _ _ _ _ hf _ _ _ hP hD hS (lv_sub hl [2, 3, 4, 5, 6, 1, 0] rfl)
        · have hf := wk_itT hf c21
          refine lv_iconst (v := (-1 : Int32)) hx hb dX11_otherwise_39 (by decide) ?_
          exact hret _ _ _ _ _ _ dX11_otherwise_40 (wk_rt hf (fun z => z)) rfl hP hD hS
