abbrev w_X11_sign (cB cI cJ : ClassId) : va_W := []
theorem hd_X11_sign : yX11_sign.cls = RX11 ∧ yX11_sign.cls ≠ "java/lang/invoke/MethodHandle" ∧ yX11_sign.cls ≠ "java/lang/invoke/VarHandle" ∧ (parseMethodDescriptor yX11_sign.desc).map (fun d => d.parameters.length) = some 2 := by decide +kernel
abbrev rm_X11_sign : Room := { frames := 0, cells := 0, slots := 0, locals := 0 }
set_option maxHeartbeats 4000000 in
set_option maxRecDepth 100000 in
theorem c_X11_sign (l : Launch) (D : va_G) (cB cI cJ : ClassId) (N : Nat) (x0 : Int64) (x2 : Int32) {r : Int32} (hf : f_X11_sign N x0 x2 = some r) : MTi l yX11_sign wsX11_sign rm_X11_sign D (wk_T cB cI cJ) [.long x0, .int x2] (w_X11_sign cB cI cJ) (w_X11_sign cB cI cJ) r := by
  refine MTi.of (cc := cX11_sign) (nL := 3) (rt := .int) (own := RX11) pn_X11 rfl rfl (Nat.le_of_ble_eq_true rfl) rfl ?_
  intro p e s m args below meth c A ls Q C hP hD hS hl hret
  obtain ⟨hx, hb, hml, hts, hown, hK, hN, hA, hlk⟩ := id C
  have hl : lv_has ls 3 [(0, .long x0), (2, .int x2)] := hl
  unfold f_X11_sign at hf
  refine lv_lload_n hx hb dX11_sign_0 rfl (lv_at hl 0 rfl) ?_
  refine lv_bipush (v := (8 : Int32)) hx hb dX11_sign_1 (by decide) ?_
  refine lv_bipush (v := (7 : Int32)) hx hb dX11_sign_3 (by decide) ?_
  refine lv_iload_n hx hb dX11_sign_5 rfl (lv_at hl 1 rfl) ?_
  refine lv_isub hx hb dX11_sign_6 ?_
  refine lv_imul hx hb dX11_sign_7 ?_
  refine lv_lshr (v := (x0 >>> (((8 : Int32) * ((7 : Int32) - x2)).toInt64 &&& 63))) hx hb dX11_sign_8 rfl ?_
  refine lv_ldc2 (v := (255 : Int64)) hx hb hown (hts (.constantLong RX11 214 (255)) (List.mem_of_getElem? (i := 1) rfl)) dX11_sign_9 ?_
  refine lv_land hx hb dX11_sign_12 ?_
  refine lv_l2i (v := (((x0 >>> (((8 : Int32) * ((7 : Int32) - x2)).toInt64 &&& 63)) &&& (255 : Int64)).toInt32)) hx hb dX11_sign_13 rfl ?_
  exact hret _ _ _ _ _ _ dX11_sign_14 (wk_rt hf (fun z => z)) rfl hP hD hS
abbrev w_X11_isName (cB cI cJ : ClassId) : va_W := []
theorem hd_X11_isName : yX11_isName.cls = RX11 ∧ yX11_isName.cls ≠ "java/lang/invoke/MethodHandle" ∧ yX11_isName.cls ≠ "java/lang/invoke/VarHandle" ∧ (parseMethodDescriptor yX11_isName.desc).map (fun d => d.parameters.length) = some 1 := by decide +kernel
abbrev rm_X11_isName : Room := { frames := 1, cells := 0, slots := 0, locals := 25 }
set_option maxHeartbeats 4000000 in
set_option maxRecDepth 100000 in
theorem c_X11_isName (l : Launch) (D : va_G) (cB cI cJ : ClassId) (N : Nat) (x0 : Int64) {r : Bool} (hf : f_X11_isName N x0 = some r) : MTi l yX11_isName wsX11_isName rm_X11_isName D (wk_T cB cI cJ) [.long x0] (w_X11_isName cB cI cJ) (w_X11_isName cB cI cJ) (wk_bI r) := by
  refine MTi.of (cc := cX11_isName) (nL := 5) (rt := .boolean) (own := RX11) pn_X11 rfl rfl (Nat.le_of_ble_eq_true rfl) (wk_nz r) ?_
  intro p e s m args below meth c A ls Q C hP hD hS hl hret
  obtain ⟨hx, hb, hml, hts, hown, hK, hN, hA, hlk⟩ := id C
  have hl : lv_has ls 5 [(0, .long x0)] := hl
  have L4 := wk_loopI (F := (fun k4 : Int64 → Int32 → Int32 → Option Bool => B_X11_isName_4 N k4)) (bot := fun _ _ _ => none) (fun k4 : Int64 → Int32 → Int32 → Option Bool => ∀ (x0 : Int64) (x2 : Int32) (x3 : Int32), k4 x0 x2 x3 = some r → ∀ (H : Heap) (locs : List Loc) (ls : Array Slot), va_P D vwCl (w_X11_isName cB cI cJ) H → va_D A (w_X11_isName cB cI cJ) → va_S A s.heap H locs → lv_has ls 5 [(0, .long x0), (2, .int x2), (3, .int x3)] → W p l e rm_X11_isName s m args below meth c H locs 0 0 Q (F0 m 4 ls [])) (by intro x0 x2 x3 hf; exact wk_no hf) (by
    intro k4 ih4
    have J31 : ∀ (x0 : Int64) (x3 : Int32) (x4 : Int32) (s0 : Int32), B_X11_isName_31 N k4 x0 x3 x4 s0 = some r → ∀ (H : Heap) (locs : List Loc) (ls : Array Slot), va_P D vwCl (w_X11_isName cB cI cJ) H → va_D A (w_X11_isName cB cI cJ) → va_S A s.heap H locs → lv_has ls 5 [(0, .long x0), (3, .int x3), (4, .int x4)] → W p l e rm_X11_isName s m args below meth c H locs 0 0 Q (F0 m 31 ls [.int s0]) := by
      intro x0 x3 x4 s0 hf H locs ls hP hD hS hl
      unfold B_X11_isName_31 at hf
      refine lv_istore_n (lv' := [(2, .int s0), (0, .long x0), (3, .int x3), (4, .int x4)]) hx hb dX11_isName_31 rfl hl (by decide) rfl (fun ls hl => ?_)
      refine lv_iload_n hx hb dX11_isName_32 rfl (lv_at hl 0 rfl) ?_
      refine lv_if_eq (tgt := 44) hx hb dX11_isName_33 (by decide) (fun c1 => ?_) (fun c1 => ?_)
      · have hf := wk_itT hf c1
        refine lv_iload hx hb dX11_isName_44 (lv_at hl 3 rfl) ?_
        refine lv_i2l (v := (x4.toInt64)) hx hb dX11_isName_46 rfl ?_
        refine lv_ldc2 (v := (97 : Int64)) hx hb hown (hts (.constantLong RX11 220 (97)) (List.mem_of_getElem? (i := 1) rfl)) dX11_isName_47 ?_
        refine lv_ldc2 (v := (122 : Int64)) hx hb hown (hts (.constantLong RX11 222 (122)) (List.mem_of_getElem? (i := 2) rfl)) dX11_isName_50 ?_
        obtain ⟨r2, hc2, hf⟩ := wk_b1E hf
        refine wk_callSi2 C hP hD hS (c_X11_in l D cB cI cJ N (x4.toInt64) (97 : Int64) (122 : Int64) hc2) (va_cwS 3 hts gX11_isName_X11_in rfl rfl rfl hd_X11_in.2 ⟨Nat.le_of_ble_eq_true rfl, Nat.le_of_ble_eq_true rfl⟩) hl.1 ⟨Nat.zero_le _, Nat.zero_le _⟩ [] [] 0 (by decide +kernel) rfl (Wn := w_X11_isName cB cI cJ) rfl rfl rfl rfl rfl rfl rfl rfl (Nat.le_of_ble_eq_true rfl) dX11_isName_53 (fun H locs hP hD hS => ?_)
        refine lv_if_ne (tgt := 61) hx hb dX11_isName_56 (by decide) (fun c3 => ?_) (fun c3 => ?_)
        · have hf := wk_itF hf c3
          obtain ⟨y4, ey4⟩ : ∃ y : Int32, y = x3 + (1 : Int32) := ⟨_, rfl⟩
          have hf := wk_nmE hf ey4
          refine lv_iinc (v := y4) (lv' := [(3, .int y4), (2, .int s0), (0, .long x0), (4, .int x4)]) hx hb dX11_isName_61 hl (k := 2) rfl (by rw [ey4]; rfl) (by decide) rfl (fun ls hl => ?_)
          refine lv_goto (tgt := 4) hx hb dX11_isName_64 (by decide) ?_
          exact ih4 _ _ _ hf _ _ _ hP hD hS (lv_sub hl [2, 1, 0] rfl)
        · have hf := wk_itT hf c3
          refine lv_iconst (v := (0 : Int32)) hx hb dX11_isName_59 (by decide) ?_
          exact hret _ _ _ _ _ _ dX11_isName_60 (wk_rt hf (fun z => wk_bI z)) rfl hP hD hS
      · have hf := wk_itF hf c1
        refine lv_iload hx hb dX11_isName_36 (lv_at hl 3 rfl) ?_
        refine lv_if_eq (tgt := 61) hx hb dX11_isName_38 (by decide) (fun c5 => ?_) (fun c5 => ?_)
        · have hf := wk_itT hf c5
          obtain ⟨y6, ey6⟩ : ∃ y : Int32, y = x3 + (1 : Int32) := ⟨_, rfl⟩
          have hf := wk_nmE hf ey6
          refine lv_iinc (v := y6) (lv' := [(3, .int y6), (2, .int s0), (0, .long x0), (4, .int x4)]) hx hb dX11_isName_61 hl (k := 2) rfl (by rw [ey6]; rfl) (by decide) rfl (fun ls hl => ?_)
          refine lv_goto (tgt := 4) hx hb dX11_isName_64 (by decide) ?_
          exact ih4 _ _ _ hf _ _ _ hP hD hS (lv_sub hl [2, 1, 0] rfl)
        · have hf := wk_itF hf c5
          refine lv_goto (tgt := 59) hx hb dX11_isName_41 (by decide) ?_
          refine lv_iconst (v := (0 : Int32)) hx hb dX11_isName_59 (by decide) ?_
          exact hret _ _ _ _ _ _ dX11_isName_60 (wk_rt hf (fun z => wk_bI z)) rfl hP hD hS
    intro x0 x2 x3 hf H locs ls hP hD hS hl
    have hf : B_X11_isName_4 N k4 x0 x2 x3 = some r := hf
    unfold B_X11_isName_4 at hf
    refine lv_iload_n hx hb dX11_isName_4 rfl (lv_at hl 2 rfl) ?_
    refine lv_bipush (v := (8 : Int32)) hx hb dX11_isName_5 (by decide) ?_
    refine lv_icmp_ge (tgt := 67) hx hb dX11_isName_7 (by decide) (fun c7 => ?_) (fun c7 => ?_)
    · have hf := wk_itT hf c7
      refine lv_iconst (v := (1 : Int32)) hx hb dX11_isName_67 (by decide) ?_
      exact hret _ _ _ _ _ _ dX11_isName_68 (wk_rt hf (fun z => wk_bI z)) rfl hP hD hS
    · have hf := wk_itF hf c7
      refine lv_lload_n hx hb dX11_isName_10 rfl (lv_at hl 0 rfl) ?_
      refine lv_iload_n hx hb dX11_isName_11 rfl (lv_at hl 2 rfl) ?_
      obtain ⟨r8, hc8, hf⟩ := wk_b1E hf
      refine wk_callSi2 C hP hD hS (c_X11_sign l D cB cI cJ N x0 x3 hc8) (va_cwS 2 hts gX11_isName_X11_sign rfl rfl rfl hd_X11_sign.2 ⟨Nat.le_of_ble_eq_true rfl, Nat.le_of_ble_eq_true rfl⟩) hl.1 ⟨Nat.zero_le _, Nat.zero_le _⟩ [] [] 0 (by decide +kernel) rfl (Wn := w_X11_isName cB cI cJ) rfl rfl rfl rfl rfl rfl rfl rfl (Nat.le_of_ble_eq_true rfl) dX11_isName_12 (fun H locs hP hD hS => ?_)
      refine lv_istore (lv' := [(4, .int r8), (0, .long x0), (2, .int x2), (3, .int x3)]) hx hb dX11_isName_15 hl (by decide) rfl (fun ls hl => ?_)
      refine lv_iload_n hx hb dX11_isName_17 rfl (lv_at hl 2 rfl) ?_
      refine lv_if_ne (tgt := 26) hx hb dX11_isName_18 (by decide) (fun c9 => ?_) (fun c9 => ?_)
      · have hf := wk_itF hf c9
        refine lv_iconst (v := (1 : Int32)) hx hb dX11_isName_26 (by decide) ?_
        refine lv_goto (tgt := 31) hx hb dX11_isName_27 (by decide) ?_
        exact J31 _ _ _ _ hf _ _ _ hP hD hS (lv_sub hl [1, 3, 0] rfl)
      · have hf := wk_itT hf c9
        refine lv_iload hx hb dX11_isName_21 (lv_at hl 0 rfl) ?_
        refine lv_if_ne (tgt := 30) hx hb dX11_isName_23 (by decide) (fun c10 => ?_) (fun c10 => ?_)
        · have hf := wk_itF hf c10
          refine lv_iconst (v := (0 : Int32)) hx hb dX11_isName_30 (by decide) ?_
          exact J31 _ _ _ _ hf _ _ _ hP hD hS (lv_sub hl [1, 3, 0] rfl)
        · have hf := wk_itT hf c10
          refine lv_iconst (v := (1 : Int32)) hx hb dX11_isName_26 (by decide) ?_
          refine lv_goto (tgt := 31) hx hb dX11_isName_27 (by decide) ?_
          exact J31 _ _ _ _ hf _ _ _ hP hD hS (lv_sub hl [1, 3, 0] rfl))
  unfold f_X11_isName at hf
  refine lv_iconst (v := (0 : Int32)) hx hb dX11_isName_0 (by decide) ?_
  refine lv_istore_n (lv' := [(2, .int (0 : Int32)), (0, .long x0)]) hx hb dX11_isName_1 rfl hl (by decide) rfl (fun ls hl => ?_)
  refine lv_iconst (v := (0 : Int32)) hx hb dX11_isName_2 (by decide) ?_
  refine lv_istore_n (lv' := [(3, .int (0 : Int32)), (2, .int (0 : Int32)), (0, .long x0)]) hx hb dX11_isName_3 rfl hl (by decide) rfl (fun ls hl => ?_)
  exact L4 N _ _ _ hf _ _ _ hP hD hS (lv_sub hl [2, 1, 0] rfl)
abbrev w_X11_long1 (cB cI cJ : ClassId) : va_W := []
theorem hd_X11_long1 : yX11_long1.cls = RX11 ∧ yX11_long1.cls ≠ "java/lang/invoke/MethodHandle" ∧ yX11_long1.cls ≠ "java/lang/invoke/VarHandle" ∧ (parseMethodDescriptor yX11_long1.desc).map (fun d => d.parameters.length) = some 1 := by decide +kernel
abbrev rm_X11_long1 : Room := { frames := 1, cells := 0, slots := 0, locals := 22 }
set_option maxHeartbeats 4000000 in
set_option maxRecDepth 100000 in
theorem c_X11_long1 (l : Launch) (D : va_G) (cB cI cJ : ClassId) (N : Nat) (x0 : Int64) {r : Int32} (hf : f_X11_long1 N x0 = some r) : MTi l yX11_long1 wsX11_long1 rm_X11_long1 D (wk_T cB cI cJ) [.long x0] (w_X11_long1 cB cI cJ) (w_X11_long1 cB cI cJ) r := by
  refine MTi.of (cc := cX11_long1) (nL := 3) (rt := .int) (own := RX11) pn_X11 rfl rfl (Nat.le_of_ble_eq_true rfl) rfl ?_
  intro p e s m args below meth c A ls Q C hP hD hS hl hret
  obtain ⟨hx, hb, hml, hts, hown, hK, hN, hA, hlk⟩ := id C
  have hl : lv_has ls 3 [(0, .long x0)] := hl
  have L2 := wk_loopI (F := (fun k2 : Int64 → Int32 → Option Int32 => B_X11_long1_2 N k2)) (bot := fun _ _ => none) (fun k2 : Int64 → Int32 → Option Int32 => ∀ (x0 : Int64) (x2 : Int32), k2 x0 x2 = some r → ∀ (H : Heap) (locs : List Loc) (ls : Array Slot), va_P D vwCl (w_X11_long1 cB cI cJ) H → va_D A (w_X11_long1 cB cI cJ) → va_S A s.heap H locs → lv_has ls 3 [(0, .long x0), (2, .int x2)] → W p l e rm_X11_long1 s m args below meth c H locs 0 0 Q (F0 m 2 ls [])) (by intro x0 x2 hf; exact wk_no hf) (by
    intro k2 ih2
    intro x0 x2 hf H locs ls hP hD hS hl
    have hf : B_X11_long1_2 N k2 x0 x2 = some r := hf
    unfold B_X11_long1_2 at hf
    refine lv_iload_n hx hb dX11_long1_2 rfl (lv_at hl 1 rfl) ?_
    refine lv_bipush (v := (8 : Int32)) hx hb dX11_long1_3 (by decide) ?_
    refine lv_icmp_ge (tgt := 22) hx hb dX11_long1_5 (by decide) (fun c1 => ?_) (fun c1 => ?_)
    · have hf := wk_itT hf c1
      refine lv_iload_n hx hb dX11_long1_22 rfl (lv_at hl 1 rfl) ?_
      exact hret _ _ _ _ _ _ dX11_long1_23 (wk_rt hf (fun z => z)) rfl hP hD hS
    · have hf := wk_itF hf c1
      refine lv_lload_n hx hb dX11_long1_8 rfl (lv_at hl 0 rfl) ?_
      refine lv_iload_n hx hb dX11_long1_9 rfl (lv_at hl 1 rfl) ?_
      obtain ⟨r2, hc2, hf⟩ := wk_b1E hf
      refine wk_callSi2 C hP hD hS (c_X11_sign l D cB cI cJ N x0 x2 hc2) (va_cwS 2 hts gX11_long1_X11_sign rfl rfl rfl hd_X11_sign.2 ⟨Nat.le_of_ble_eq_true rfl, Nat.le_of_ble_eq_true rfl⟩) hl.1 ⟨Nat.zero_le _, Nat.zero_le _⟩ [] [] 0 (by decide +kernel) rfl (Wn := w_X11_long1 cB cI cJ) rfl rfl rfl rfl rfl rfl rfl rfl (Nat.le_of_ble_eq_true rfl) dX11_long1_10 (fun H locs hP hD hS => ?_)
      refine lv_if_eq (tgt := 22) hx hb dX11_long1_13 (by decide) (fun c3 => ?_) (fun c3 => ?_)
      · have hf := wk_itT hf c3
        refine lv_iload_n hx hb dX11_long1_22 rfl (lv_at hl 1 rfl) ?_
        exact hret _ _ _ _ _ _ dX11_long1_23 (wk_rt hf (fun z => z)) rfl hP hD hS
      · have hf := wk_itF hf c3
        obtain ⟨y4, ey4⟩ : ∃ y : Int32, y = x2 + (1 : Int32) := ⟨_, rfl⟩
        have hf := wk_nmE hf ey4
        refine lv_iinc (v := y4) (lv' := [(2, .int y4), (0, .long x0)]) hx hb dX11_long1_16 hl (k := 1) rfl (by rw [ey4]; rfl) (by decide) rfl (fun ls hl => ?_)
        refine lv_goto (tgt := 2) hx hb dX11_long1_19 (by decide) ?_
        exact ih2 _ _ hf _ _ _ hP hD hS (lv_sub hl [1, 0] rfl))
  unfold f_X11_long1 at hf
  refine lv_iconst (v := (0 : Int32)) hx hb dX11_long1_0 (by decide) ?_
  refine lv_istore_n (lv' := [(2, .int (0 : Int32)), (0, .long x0)]) hx hb dX11_long1_1 rfl hl (by decide) rfl (fun ls hl => ?_)
  exact L2 N _ _ hf _ _ _ hP hD hS (lv_sub hl [1, 0] rfl)
abbrev w_X11_listed (cB cI cJ : ClassId) (a_this : Nat) (a_cards : Nat) (a_county : Nat) (a_holes : Nat) (a_text : Nat) (a_letter : Nat) (a_where : Nat) (a_rank : Nat) (a_value : Nat) (a_hour : Nat) (a_readLetter : Nat) (a_readWhere : Nat) (a_readRank : Nat) (a_readValue : Nat) (a_readHour : Nat) (a_listName : Nat) (a_listDay : Nat) (a_voterName : Nat) (a_voterDay : Nat) (a_voterCounty : Nat) (a_heaps : Nat) (a_speed : Nat) (a_four : Nat) (a_byRules : Nat) (a_hours : Nat) (a_rest : Nat) (a_yet : Nat) (a_put : Nat) (v_kept : Int32) (v_length : Int32) (v_items : Int32) (v_readItems : Int32) (v_at : Int32) (v_lists : Int32) (v_voters : Int32) (v_needed : Int32) (v_listDay : Nat → Int32) (v_listName : Nat → Int64) : va_W := [(a_this, .inr (11, [.ref a_cards, .ref a_county, .ref a_holes, .int v_kept, .int v_length, .ref a_text, .int v_items, .ref a_letter, .ref a_where, .ref a_rank, .ref a_value, .ref a_hour, .int v_readItems, .ref a_readLetter, .ref a_readWhere, .ref a_readRank, .ref a_readValue, .ref a_readHour, .int v_at, .int v_lists, .ref a_listName, .ref a_listDay, .int v_voters, .ref a_voterName, .ref a_voterDay, .ref a_voterCounty, .int v_needed, .ref a_heaps, .ref a_speed, .ref a_four, .ref a_byRules, .ref a_hours, .ref a_rest, .ref a_yet, .ref a_put])), (a_listDay, .inl (cI, 8, .inl v_listDay)), (a_listName, .inl (cJ, 8, .inr (.inl v_listName)))]
theorem hd_X11_listed : yX11_listed.cls = RX11 ∧ yX11_listed.cls ≠ "java/lang/invoke/MethodHandle" ∧ yX11_listed.cls ≠ "java/lang/invoke/VarHandle" ∧ (parseMethodDescriptor yX11_listed.desc).map (fun d => d.parameters.length) = some 2 := by decide +kernel
abbrev rm_X11_listed : Room := { frames := 2, cells := 0, slots := 0, locals := 49 }
theorem in_X11_listed_X11 : ∀ w ∈ wsX110, w ∈ wsX11_listed := fun w h => List.mem_cons_of_mem _ (List.mem_append_right _ h)
set_option maxHeartbeats 4000000 in
set_option maxRecDepth 100000 in
theorem c_X11_listed (l : Launch) (D : va_G) (cB cI cJ : ClassId) (N : Nat) (a_this : Nat) (a_cards : Nat) (a_county : Nat) (a_holes : Nat) (a_text : Nat) (a_letter : Nat) (a_where : Nat) (a_rank : Nat) (a_value : Nat) (a_hour : Nat) (a_readLetter : Nat) (a_readWhere : Nat) (a_readRank : Nat) (a_readValue : Nat) (a_readHour : Nat) (a_listName : Nat) (a_listDay : Nat) (a_voterName : Nat) (a_voterDay : Nat) (a_voterCounty : Nat) (a_heaps : Nat) (a_speed : Nat) (a_four : Nat) (a_byRules : Nat) (a_hours : Nat) (a_rest : Nat) (a_yet : Nat) (a_put : Nat) (v_kept : Int32) (v_length : Int32) (v_items : Int32) (v_readItems : Int32) (v_at : Int32) (v_lists : Int32) (v_voters : Int32) (v_needed : Int32) (v_listDay : Nat → Int32) (v_listName : Nat → Int64) (x1 : Int64) (x3 : Int32) {r : Int32} {o_lists : Int32} {o_listDay : Nat → Int32} {o_listName : Nat → Int64} (hf : f_X11_listed N v_lists v_listDay v_listName x1 x3 = some (r, o_lists, o_listDay, o_listName)) : MTi l yX11_listed wsX11_listed rm_X11_listed D (wk_T cB cI cJ) [.ref a_this, .long x1, .int x3] (w_X11_listed cB cI cJ a_this a_cards a_county a_holes a_text a_letter a_where a_rank a_value a_hour a_readLetter a_readWhere a_readRank a_readValue a_readHour a_listName a_listDay a_voterName a_voterDay a_voterCounty a_heaps a_speed a_four a_byRules a_hours a_rest a_yet a_put v_kept v_length v_items v_readItems v_at v_lists v_voters v_needed v_listDay v_listName) (w_X11_listed cB cI cJ a_this a_cards a_county a_holes a_text a_letter a_where a_rank a_value a_hour a_readLetter a_readWhere a_readRank a_readValue a_readHour a_listName a_listDay a_voterName a_voterDay a_voterCounty a_heaps a_speed a_four a_byRules a_hours a_rest a_yet a_put v_kept v_length v_items v_readItems v_at o_lists v_voters v_needed o_listDay o_listName) r := by
  refine MTi.of (cc := cX11_listed) (nL := 4) (rt := .int) (own := RX11) pn_X11 rfl rfl (Nat.le_of_ble_eq_true rfl) rfl ?_
  intro p e s m args below meth c A ls Q C hP hD hS hl hret
  obtain ⟨hx, hb, hml, hts, hown, hK, hN, hA, hlk⟩ := id C
  have hl : lv_has ls 4 [(0, .ref a_this), (1, .long x1), (3, .int x3)] := hl
  unfold f_X11_listed at hf
  refine lv_lload_n hx hb dX11_listed_0 rfl (lv_at hl 1 rfl) ?_
  obtain ⟨r1, hc1, hf⟩ := wk_b1E hf
  refine wk_callSi2 C hP hD hS (c_X11_isName l D cB cI cJ N x1 hc1) (va_cwS 1 hts gX11_listed_X11_isName rfl rfl rfl hd_X11_isName.2 ⟨Nat.le_of_ble_eq_true rfl, Nat.le_of_ble_eq_true rfl⟩) hl.1 ⟨Nat.zero_le _, Nat.zero_le _⟩ [] [0, 1, 2] 3 (by decide +kernel) rfl (Wn := w_X11_listed cB cI cJ a_this a_cards a_county a_holes a_text a_letter a_where a_rank a_value a_hour a_readLetter a_readWhere a_readRank a_readValue a_readHour a_listName a_listDay a_voterName a_voterDay a_voterCounty a_heaps a_speed a_four a_byRules a_hours a_rest a_yet a_put v_kept v_length v_items v_readItems v_at v_lists v_voters v_needed v_listDay v_listName) rfl rfl rfl rfl rfl rfl rfl rfl (Nat.le_of_ble_eq_true rfl) dX11_listed_1 (fun H locs hP hD hS => ?_)
  refine lv_if_eq (tgt := 21) hx hb dX11_listed_4 (by decide) (fun c2 => ?_) (fun c2 => ?_)
  · have hf := wk_itT hf c2
    refine lv_iconst (v := (-1 : Int32)) hx hb dX11_listed_21 (by decide) ?_
    exact hret _ _ _ _ _ _ dX11_listed_22 (wk_rt hf (fun z => z.1)) (wk_rt hf (fun z => w_X11_listed cB cI cJ a_this a_cards a_county a_holes a_text a_letter a_where a_rank a_value a_hour a_readLetter a_readWhere a_readRank a_readValue a_readHour a_listName a_listDay a_voterName a_voterDay a_voterCounty a_heaps a_speed a_four a_byRules a_hours a_rest a_yet a_put v_kept v_length v_items v_readItems v_at (z.2.1) v_voters v_needed (z.2.2.1) (z.2.2.2))) hP hD hS
  · have hf := wk_itF hf c2
    refine lv_iload_n hx hb dX11_listed_7 rfl (lv_at hl 2 rfl) ?_
    refine lv_i2l (v := (x3.toInt64)) hx hb dX11_listed_8 rfl ?_
    refine lv_ldc2 (v := (-1 : Int64)) hx hb hown (hts (.constantLong RX11 198 (-1)) (List.mem_of_getElem? (i := 1) rfl)) dX11_listed_9 ?_
    refine lv_ldc2 (v := (36500 : Int64)) hx hb hown (hts (.constantLong RX11 228 (36500)) (List.mem_of_getElem? (i := 2) rfl)) dX11_listed_12 ?_
    obtain ⟨r3, hc3, hf⟩ := wk_b1E hf
    refine wk_callSi2 C hP hD hS (c_X11_in l D cB cI cJ N (x3.toInt64) (-1 : Int64) (36500 : Int64) hc3) (va_cwS 3 hts gX11_listed_X11_in rfl rfl rfl hd_X11_in.2 ⟨Nat.le_of_ble_eq_true rfl, Nat.le_of_ble_eq_true rfl⟩) hl.1 ⟨Nat.zero_le _, Nat.zero_le _⟩ [] [0, 1, 2] 3 (by decide +kernel) rfl (Wn := w_X11_listed cB cI cJ a_this a_cards a_county a_holes a_text a_letter a_where a_rank a_value a_hour a_readLetter a_readWhere a_readRank a_readValue a_readHour a_listName a_listDay a_voterName a_voterDay a_voterCounty a_heaps a_speed a_four a_byRules a_hours a_rest a_yet a_put v_kept v_length v_items v_readItems v_at v_lists v_voters v_needed v_listDay v_listName) rfl rfl rfl rfl rfl rfl rfl rfl (Nat.le_of_ble_eq_true rfl) dX11_listed_15 (fun H locs hP hD hS => ?_)
    refine lv_if_ne (tgt := 23) hx hb dX11_listed_18 (by decide) (fun c4 => ?_) (fun c4 => ?_)
    · have hf := wk_itF hf c4
      refine lv_aload_n hx hb dX11_listed_23 rfl (lv_at hl 0 rfl) ?_
      refine va_get (D := D) (ci := 11) (v := .int v_lists) (C := RX11) (T := TX11) (N := 35) hx hb hts in_X11_listed_X11 hown hK hP 0 rfl rfl 19 (by decide) (hts (.fieldLink RX11 230 "HangingCardsModel" "lists" "I") (List.mem_of_getElem? (i := 3) rfl)) (fun _ h9 => h9) rfl dX11_listed_24 ?_
      refine lv_bipush (v := (8 : Int32)) hx hb dX11_listed_27 (by decide) ?_
      refine lv_icmp_ne (tgt := 35) hx hb dX11_listed_29 (by decide) (fun c5 => ?_) (fun c5 => ?_)
      · have hf := wk_itF hf c5
        refine lv_aload_n hx hb dX11_listed_35 rfl (lv_at hl 0 rfl) ?_
        refine va_get (D := D) (ci := 11) (v := .ref a_listName) (C := RX11) (T := TX11) (N := 35) hx hb hts in_X11_listed_X11 hown hK hP 0 rfl rfl 20 (by decide) (hts (.fieldLink RX11 53 "HangingCardsModel" "listName" "[J") (List.mem_of_getElem? (i := 4) rfl)) (fun _ h9 => h9) rfl dX11_listed_36 ?_
        refine lv_aload_n hx hb dX11_listed_39 rfl (lv_at hl 0 rfl) ?_
        refine va_get (D := D) (ci := 11) (v := .int v_lists) (C := RX11) (T := TX11) (N := 35) hx hb hts in_X11_listed_X11 hown hK hP 0 rfl rfl 19 (by decide) (hts (.fieldLink RX11 230 "HangingCardsModel" "lists" "I") (List.mem_of_getElem? (i := 3) rfl)) (fun _ h9 => h9) rfl dX11_listed_40 ?_
        refine lv_lload_n hx hb dX11_listed_43 rfl (lv_at hl 1 rfl) ?_
        obtain ⟨hi6, hf⟩ := wk_ckE hf
        refine va_last hx hb hK hP hD hS 2 2 rfl rfl hi6 dX11_listed_44 (fun H locs hP hD hS => ?_)
        have hP : va_P D vwCl (w_X11_listed cB cI cJ a_this a_cards a_county a_holes a_text a_letter a_where a_rank a_value a_hour a_readLetter a_readWhere a_readRank a_readValue a_readHour a_listName a_listDay a_voterName a_voterDay a_voterCounty a_heaps a_speed a_four a_byRules a_hours a_rest a_yet a_put v_kept v_length v_items v_readItems v_at v_lists v_voters v_needed v_listDay (vp_updL v_listName v_lists.toNatClampNeg x1)) H := hP
        have hD : va_D A (w_X11_listed cB cI cJ a_this a_cards a_county a_holes a_text a_letter a_where a_rank a_value a_hour a_readLetter a_readWhere a_readRank a_readValue a_readHour a_listName a_listDay a_voterName a_voterDay a_voterCounty a_heaps a_speed a_four a_byRules a_hours a_rest a_yet a_put v_kept v_length v_items v_readItems v_at v_lists v_voters v_needed v_listDay (vp_updL v_listName v_lists.toNatClampNeg x1)) := hD
        refine lv_aload_n hx hb dX11_listed_45 rfl (lv_at hl 0 rfl) ?_
        refine va_get (D := D) (ci := 11) (v := .ref a_listDay) (C := RX11) (T := TX11) (N := 35) hx hb hts in_X11_listed_X11 hown hK hP 0 rfl rfl 21 (by decide) (hts (.fieldLink RX11 57 "HangingCardsModel" "listDay" "[I") (List.mem_of_getElem? (i := 5) rfl)) (fun _ h9 => h9) rfl dX11_listed_46 ?_
        refine lv_aload_n hx hb dX11_listed_49 rfl (lv_at hl 0 rfl) ?_
        refine va_get (D := D) (ci := 11) (v := .int v_lists) (C := RX11) (T := TX11) (N := 35) hx hb hts in_X11_listed_X11 hown hK hP 0 rfl rfl 19 (by decide) (hts (.fieldLink RX11 230 "HangingCardsModel" "lists" "I") (List.mem_of_getElem? (i := 3) rfl)) (fun _ h9 => h9) rfl dX11_listed_50 ?_
        refine lv_iload_n hx hb dX11_listed_53 rfl (lv_at hl 2 rfl) ?_
        obtain ⟨hi7, hf⟩ := wk_ckE hf
        refine va_iast hx hb hK hP hD hS 1 0 rfl rfl hi7 dX11_listed_54 (fun H locs hP hD hS => ?_)
        have hP : va_P D vwCl (w_X11_listed cB cI cJ a_this a_cards a_county a_holes a_text a_letter a_where a_rank a_value a_hour a_readLetter a_readWhere a_readRank a_readValue a_readHour a_listName a_listDay a_voterName a_voterDay a_voterCounty a_heaps a_speed a_four a_byRules a_hours a_rest a_yet a_put v_kept v_length v_items v_readItems v_at v_lists v_voters v_needed (upd v_listDay v_lists.toNatClampNeg x3) (vp_updL v_listName v_lists.toNatClampNeg x1)) H := hP
        have hD : va_D A (w_X11_listed cB cI cJ a_this a_cards a_county a_holes a_text a_letter a_where a_rank a_value a_hour a_readLetter a_readWhere a_readRank a_readValue a_readHour a_listName a_listDay a_voterName a_voterDay a_voterCounty a_heaps a_speed a_four a_byRules a_hours a_rest a_yet a_put v_kept v_length v_items v_readItems v_at v_lists v_voters v_needed (upd v_listDay v_lists.toNatClampNeg x3) (vp_updL v_listName v_lists.toNatClampNeg x1)) := hD
        refine lv_aload_n hx hb dX11_listed_55 rfl (lv_at hl 0 rfl) ?_
        refine lv_dup hx hb dX11_listed_56 rfl ?_
        refine va_get (D := D) (ci := 11) (v := .int v_lists) (C := RX11) (T := TX11) (N := 35) hx hb hts in_X11_listed_X11 hown hK hP 0 rfl rfl 19 (by decide) (hts (.fieldLink RX11 230 "HangingCardsModel" "lists" "I") (List.mem_of_getElem? (i := 3) rfl)) (fun _ h9 => h9) rfl dX11_listed_57 ?_
        refine lv_iconst (v := (1 : Int32)) hx hb dX11_listed_60 (by decide) ?_
        refine lv_iadd hx hb dX11_listed_61 ?_
        refine va_put (D := D) (ci := 11) (v := .int (v_lists + (1 : Int32))) (ty := .int) (C := RX11) (T := TX11) (N := 35) hx hb hts in_X11_listed_X11 tyX11 tyX11_ok nmX11 hown hK hP hD hS 0 rfl rfl 19 (by decide) (hts (.fieldLink RX11 230 "HangingCardsModel" "lists" "I") (List.mem_of_getElem? (i := 3) rfl)) (fun _ h9 => h9) rfl (by decide +kernel) rfl rfl (Nat.le_of_ble_eq_true rfl) dX11_listed_62 (fun H locs hP hD hS => ?_)
        have hP : va_P D vwCl (w_X11_listed cB cI cJ a_this a_cards a_county a_holes a_text a_letter a_where a_rank a_value a_hour a_readLetter a_readWhere a_readRank a_readValue a_readHour a_listName a_listDay a_voterName a_voterDay a_voterCounty a_heaps a_speed a_four a_byRules a_hours a_rest a_yet a_put v_kept v_length v_items v_readItems v_at (v_lists + (1 : Int32)) v_voters v_needed (upd v_listDay v_lists.toNatClampNeg x3) (vp_updL v_listName v_lists.toNatClampNeg x1)) H := hP
        have hD : va_D A (w_X11_listed cB cI cJ a_this a_cards a_county a_holes a_text a_letter a_where a_rank a_value a_hour a_readLetter a_readWhere a_readRank a_readValue a_readHour a_listName a_listDay a_voterName a_voterDay a_voterCounty a_heaps a_speed a_four a_byRules a_hours a_rest a_yet a_put v_kept v_length v_items v_readItems v_at (v_lists + (1 : Int32)) v_voters v_needed (upd v_listDay v_lists.toNatClampNeg x3) (vp_updL v_listName v_lists.toNatClampNeg x1)) := hD
        refine lv_aload_n hx hb dX11_listed_65 rfl (lv_at hl 0 rfl) ?_
        refine va_get (D := D) (ci := 11) (v := .int (v_lists + (1 : Int32))) (C := RX11) (T := TX11) (N := 35) hx hb hts in_X11_listed_X11 hown hK hP 0 rfl rfl 19 (by decide) (hts (.fieldLink RX11 230 "HangingCardsModel" "lists" "I") (List.mem_of_getElem? (i := 3) rfl)) (fun _ h9 => h9) rfl dX11_listed_66 ?_
        refine lv_iconst (v := (1 : Int32)) hx hb dX11_listed_69 (by decide) ?_
        refine lv_isub hx hb dX11_listed_70 ?_
        exact hret _ _ _ _ _ _ dX11_listed_71 (wk_rt hf (fun z => z.1)) (wk_rt hf (fun z => w_X11_listed cB cI cJ a_this a_cards a_county a_holes a_text a_letter a_where a_rank a_value a_hour a_readLetter a_readWhere a_readRank a_readValue a_readHour a_listName a_listDay a_voterName a_voterDay a_voterCounty a_heaps a_speed a_four a_byRules a_hours a_rest a_yet a_put v_kept v_length v_items v_readItems v_at (z.2.1) v_voters v_needed (z.2.2.1) (z.2.2.2))) hP hD hS
      · have hf := wk_itT hf c5
        refine lv_bipush (v := (-3 : Int32)) hx hb dX11_listed_32 (by decide) ?_
        exact hret _ _ _ _ _ _ dX11_listed_34 (wk_rt hf (fun z => z.1)) (wk_rt hf (fun z => w_X11_listed cB cI cJ a_this a_cards a_county a_holes a_text a_letter a_where a_rank a_value a_hour a_readLetter a_readWhere a_readRank a_readValue a_readHour a_listName a_listDay a_voterName a_voterDay a_voterCounty a_heaps a_speed a_four a_byRules a_hours a_rest a_yet a_put v_kept v_length v_items v_readItems v_at (z.2.1) v_voters v_needed (z.2.2.1) (z.2.2.2))) hP hD hS
    · have hf := wk_itT hf c4
      refine lv_iconst (v := (-1 : Int32)) hx hb dX11_listed_21 (by decide) ?_
      exact hret _ _ _ _ _ _ dX11_listed_22 (wk_rt hf (fun z => z.1)) (wk_rt hf (fun z => w_X11_listed cB cI cJ a_this a_cards a_county a_holes a_text a_letter a_where a_rank a_value a_hour a_readLetter a_readWhere a_readRank a_readValue a_readHour a_listName a_listDay a_voterName a_voterDay a_voterCounty a_heaps a_speed a_four a_byRules a_hours a_rest a_yet a_put v_kept v_length v_items v_readItems v_at (z.2.1) v_voters v_needed (z.2.2.1) (z.2.2.2))) hP hD hS
abbrev w_X11_voter (cB cI cJ : ClassId) (a_this : Nat) (a_cards : Nat) (a_county : Nat) (a_holes : Nat) (a_text : Nat) (a_letter : Nat) (a_where : Nat) (a_rank : Nat) (a_value : Nat) (a_hour : Nat) (a_readLetter : Nat) (a_readWhere : Nat) (a_readRank : Nat) (a_readValue : Nat) (a_readHour : Nat) (a_listName : Nat) (a_listDay : Nat) (a_voterName : Nat) (a_voterDay : Nat) (a_voterCounty : Nat) (a_heaps : Nat) (a_speed : Nat) (a_four : Nat) (a_byRules : Nat) (a_hours : Nat) (a_rest : Nat) (a_yet : Nat) (a_put : Nat) (v_kept : Int32) (v_length : Int32) (v_items : Int32) (v_readItems : Int32) (v_at : Int32) (v_lists : Int32) (v_voters : Int32) (v_needed : Int32) (v_voterCounty : Nat → Int32) (v_voterDay : Nat → Int32) (v_voterName : Nat → Int64) : va_W := [(a_this, .inr (11, [.ref a_cards, .ref a_county, .ref a_holes, .int v_kept, .int v_length, .ref a_text, .int v_items, .ref a_letter, .ref a_where, .ref a_rank, .ref a_value, .ref a_hour, .int v_readItems, .ref a_readLetter, .ref a_readWhere, .ref a_readRank, .ref a_readValue, .ref a_readHour, .int v_at, .int v_lists, .ref a_listName, .ref a_listDay, .int v_voters, .ref a_voterName, .ref a_voterDay, .ref a_voterCounty, .int v_needed, .ref a_heaps, .ref a_speed, .ref a_four, .ref a_byRules, .ref a_hours, .ref a_rest, .ref a_yet, .ref a_put])), (a_voterCounty, .inl (cI, 12, .inl v_voterCounty)), (a_voterDay, .inl (cI, 12, .inl v_voterDay)), (a_voterName, .inl (cJ, 12, .inr (.inl v_voterName)))]
theorem hd_X11_voter : yX11_voter.cls = RX11 ∧ yX11_voter.cls ≠ "java/lang/invoke/MethodHandle" ∧ yX11_voter.cls ≠ "java/lang/invoke/VarHandle" ∧ (parseMethodDescriptor yX11_voter.desc).map (fun d => d.parameters.length) = some 3 := by decide +kernel
abbrev rm_X11_voter : Room := { frames := 2, cells := 0, slots := 0, locals := 49 }
theorem in_X11_voter_X11 : ∀ w ∈ wsX110, w ∈ wsX11_voter := fun w h => List.mem_cons_of_mem _ (List.mem_append_right _ h)
set_option maxHeartbeats 4000000 in
set_option maxRecDepth 100000 in
theorem c_X11_voter (l : Launch) (D : va_G) (cB cI cJ : ClassId) (N : Nat) (a_this : Nat) (a_cards : Nat) (a_county : Nat) (a_holes : Nat) (a_text : Nat) (a_letter : Nat) (a_where : Nat) (a_rank : Nat) (a_value : Nat) (a_hour : Nat) (a_readLetter : Nat) (a_readWhere : Nat) (a_readRank : Nat) (a_readValue : Nat) (a_readHour : Nat) (a_listName : Nat) (a_listDay : Nat) (a_voterName : Nat) (a_voterDay : Nat) (a_voterCounty : Nat) (a_heaps : Nat) (a_speed : Nat) (a_four : Nat) (a_byRules : Nat) (a_hours : Nat) (a_rest : Nat) (a_yet : Nat) (a_put : Nat) (v_kept : Int32) (v_length : Int32) (v_items : Int32) (v_readItems : Int32) (v_at : Int32) (v_lists : Int32) (v_voters : Int32) (v_needed : Int32) (v_voterCounty : Nat → Int32) (v_voterDay : Nat → Int32) (v_voterName : Nat → Int64) (x1 : Int64) (x3 : Int32) (x4 : Int32) {r : Int32} {o_voters : Int32} {o_voterCounty : Nat → Int32} {o_voterDay : Nat → Int32} {o_voterName : Nat → Int64} (hf : f_X11_voter N v_voters v_voterCounty v_voterDay v_voterName x1 x3 x4 = some (r, o_voters, o_voterCounty, o_voterDay, o_voterName)) : MTi l yX11_voter wsX11_voter rm_X11_voter D (wk_T cB cI cJ) [.ref a_this, .long x1, .int x3, .int x4] (w_X11_voter cB cI cJ a_this a_cards a_county a_holes a_text a_letter a_where a_rank a_value a_hour a_readLetter a_readWhere a_readRank a_readValue a_readHour a_listName a_listDay a_voterName a_voterDay a_voterCounty a_heaps a_speed a_four a_byRules a_hours a_rest a_yet a_put v_kept v_length v_items v_readItems v_at v_lists v_voters v_needed v_voterCounty v_voterDay v_voterName) (w_X11_voter cB cI cJ a_this a_cards a_county a_holes a_text a_letter a_where a_rank a_value a_hour a_readLetter a_readWhere a_readRank a_readValue a_readHour a_listName a_listDay a_voterName a_voterDay a_voterCounty a_heaps a_speed a_four a_byRules a_hours a_rest a_yet a_put v_kept v_length v_items v_readItems v_at v_lists o_voters v_needed o_voterCounty o_voterDay o_voterName) r := by
  refine MTi.of (cc := cX11_voter) (nL := 5) (rt := .int) (own := RX11) pn_X11 rfl rfl (Nat.le_of_ble_eq_true rfl) rfl ?_
  intro p e s m args below meth c A ls Q C hP hD hS hl hret
  obtain ⟨hx, hb, hml, hts, hown, hK, hN, hA, hlk⟩ := id C
  have hl : lv_has ls 5 [(0, .ref a_this), (1, .long x1), (3, .int x3), (4, .int x4)] := hl
  unfold f_X11_voter at hf
  refine lv_lload_n hx hb dX11_voter_0 rfl (lv_at hl 1 rfl) ?_
  obtain ⟨r1, hc1, hf⟩ := wk_b1E hf
  refine wk_callSi2 C hP hD hS (c_X11_isName l D cB cI cJ N x1 hc1) (va_cwS 1 hts gX11_voter_X11_isName rfl rfl rfl hd_X11_isName.2 ⟨Nat.le_of_ble_eq_true rfl, Nat.le_of_ble_eq_true rfl⟩) hl.1 ⟨Nat.zero_le _, Nat.zero_le _⟩ [] [0, 1, 2, 3] 4 (by decide +kernel) rfl (Wn := w_X11_voter cB cI cJ a_this a_cards a_county a_holes a_text a_letter a_where a_rank a_value a_hour a_readLetter a_readWhere a_readRank a_readValue a_readHour a_listName a_listDay a_voterName a_voterDay a_voterCounty a_heaps a_speed a_four a_byRules a_hours a_rest a_yet a_put v_kept v_length v_items v_readItems v_at v_lists v_voters v_needed v_voterCounty v_voterDay v_voterName) rfl rfl rfl rfl rfl rfl rfl rfl (Nat.le_of_ble_eq_true rfl) dX11_voter_1 (fun H locs hP hD hS => ?_)
  refine lv_if_eq (tgt := 34) hx hb dX11_voter_4 (by decide) (fun c2 => ?_) (fun c2 => ?_)
  · have hf := wk_itT hf c2
    refine lv_iconst (v := (-1 : Int32)) hx hb dX11_voter_34 (by decide) ?_
    exact hret _ _ _ _ _ _ dX11_voter_35 (wk_rt hf (fun z => z.1)) (wk_rt hf (fun z => w_X11_voter cB cI cJ a_this a_cards a_county a_holes a_text a_letter a_where a_rank a_value a_hour a_readLetter a_readWhere a_readRank a_readValue a_readHour a_listName a_listDay a_voterName a_voterDay a_voterCounty a_heaps a_speed a_four a_byRules a_hours a_rest a_yet a_put v_kept v_length v_items v_readItems v_at v_lists (z.2.1) v_needed (z.2.2.1) (z.2.2.2.1) (z.2.2.2.2))) hP hD hS
  · have hf := wk_itF hf c2
    refine lv_iload_n hx hb dX11_voter_7 rfl (lv_at hl 2 rfl) ?_
    refine lv_i2l (v := (x3.toInt64)) hx hb dX11_voter_8 rfl ?_
    refine lv_ldc2 (v := (-1 : Int64)) hx hb hown (hts (.constantLong RX11 198 (-1)) (List.mem_of_getElem? (i := 1) rfl)) dX11_voter_9 ?_
    refine lv_ldc2 (v := (36500 : Int64)) hx hb hown (hts (.constantLong RX11 228 (36500)) (List.mem_of_getElem? (i := 2) rfl)) dX11_voter_12 ?_
    obtain ⟨r3, hc3, hf⟩ := wk_b1E hf
    refine wk_callSi2 C hP hD hS (c_X11_in l D cB cI cJ N (x3.toInt64) (-1 : Int64) (36500 : Int64) hc3) (va_cwS 3 hts gX11_voter_X11_in rfl rfl rfl hd_X11_in.2 ⟨Nat.le_of_ble_eq_true rfl, Nat.le_of_ble_eq_true rfl⟩) hl.1 ⟨Nat.zero_le _, Nat.zero_le _⟩ [] [0, 1, 2, 3] 4 (by decide +kernel) rfl (Wn := w_X11_voter cB cI cJ a_this a_cards a_county a_holes a_text a_letter a_where a_rank a_value a_hour a_readLetter a_readWhere a_readRank a_readValue a_readHour a_listName a_listDay a_voterName a_voterDay a_voterCounty a_heaps a_speed a_four a_byRules a_hours a_rest a_yet a_put v_kept v_length v_items v_readItems v_at v_lists v_voters v_needed v_voterCounty v_voterDay v_voterName) rfl rfl rfl rfl rfl rfl rfl rfl (Nat.le_of_ble_eq_true rfl) dX11_voter_15 (fun H locs hP hD hS => ?_)
    refine lv_if_eq (tgt := 34) hx hb dX11_voter_18 (by decide) (fun c4 => ?_) (fun c4 => ?_)
    · have hf := wk_itT hf c4
      refine lv_iconst (v := (-1 : Int32)) hx hb dX11_voter_34 (by decide) ?_
      exact hret _ _ _ _ _ _ dX11_voter_35 (wk_rt hf (fun z => z.1)) (wk_rt hf (fun z => w_X11_voter cB cI cJ a_this a_cards a_county a_holes a_text a_letter a_where a_rank a_value a_hour a_readLetter a_readWhere a_readRank a_readValue a_readHour a_listName a_listDay a_voterName a_voterDay a_voterCounty a_heaps a_speed a_four a_byRules a_hours a_rest a_yet a_put v_kept v_length v_items v_readItems v_at v_lists (z.2.1) v_needed (z.2.2.1) (z.2.2.2.1) (z.2.2.2.2))) hP hD hS
    · have hf := wk_itF hf c4
      refine lv_iload hx hb dX11_voter_21 (lv_at hl 3 rfl) ?_
      refine lv_i2l (v := (x4.toInt64)) hx hb dX11_voter_23 rfl ?_
      refine lv_lconst (v := (0 : Int64)) hx hb dX11_voter_24 (by decide) ?_
      refine lv_ldc2 (v := (4 : Int64)) hx hb hown (hts (.constantLong RX11 101 (4)) (List.mem_of_getElem? (i := 3) rfl)) dX11_voter_25 ?_
      obtain ⟨r5, hc5, hf⟩ := wk_b1E hf
      refine wk_callSi2 C hP hD hS (c_X11_in l D cB cI cJ N (x4.toInt64) (0 : Int64) (4 : Int64) hc5) (va_cwS 3 hts gX11_voter_X11_in rfl rfl rfl hd_X11_in.2 ⟨Nat.le_of_ble_eq_true rfl, Nat.le_of_ble_eq_true rfl⟩) hl.1 ⟨Nat.zero_le _, Nat.zero_le _⟩ [] [0, 1, 2, 3] 4 (by decide +kernel) rfl (Wn := w_X11_voter cB cI cJ a_this a_cards a_county a_holes a_text a_letter a_where a_rank a_value a_hour a_readLetter a_readWhere a_readRank a_readValue a_readHour a_listName a_listDay a_voterName a_voterDay a_voterCounty a_heaps a_speed a_four a_byRules a_hours a_rest a_yet a_put v_kept v_length v_items v_readItems v_at v_lists v_voters v_needed v_voterCounty v_voterDay v_voterName) rfl rfl rfl rfl rfl rfl rfl rfl (Nat.le_of_ble_eq_true rfl) dX11_voter_28 (fun H locs hP hD hS => ?_)
      refine lv_if_ne (tgt := 36) hx hb dX11_voter_31 (by decide) (fun c6 => ?_) (fun c6 => ?_)
      · have hf := wk_itF hf c6
        refine lv_aload_n hx hb dX11_voter_36 rfl (lv_at hl 0 rfl) ?_
        refine va_get (D := D) (ci := 11) (v := .int v_voters) (C := RX11) (T := TX11) (N := 35) hx hb hts in_X11_voter_X11 hown hK hP 0 rfl rfl 22 (by decide) (hts (.fieldLink RX11 233 "HangingCardsModel" "voters" "I") (List.mem_of_getElem? (i := 4) rfl)) (fun _ h9 => h9) rfl dX11_voter_37 ?_
        refine lv_bipush (v := (12 : Int32)) hx hb dX11_voter_40 (by decide) ?_
        refine lv_icmp_ne (tgt := 48) hx hb dX11_voter_42 (by decide) (fun c7 => ?_) (fun c7 => ?_)
        · have hf := wk_itF hf c7
          refine lv_aload_n hx hb dX11_voter_48 rfl (lv_at hl 0 rfl) ?_
          refine va_get (D := D) (ci := 11) (v := .ref a_voterName) (C := RX11) (T := TX11) (N := 35) hx hb hts in_X11_voter_X11 hown hK hP 0 rfl rfl 23 (by decide) (hts (.fieldLink RX11 60 "HangingCardsModel" "voterName" "[J") (List.mem_of_getElem? (i := 5) rfl)) (fun _ h9 => h9) rfl dX11_voter_49 ?_
          refine lv_aload_n hx hb dX11_voter_52 rfl (lv_at hl 0 rfl) ?_
          refine va_get (D := D) (ci := 11) (v := .int v_voters) (C := RX11) (T := TX11) (N := 35) hx hb hts in_X11_voter_X11 hown hK hP 0 rfl rfl 22 (by decide) (hts (.fieldLink RX11 233 "HangingCardsModel" "voters" "I") (List.mem_of_getElem? (i := 4) rfl)) (fun _ h9 => h9) rfl dX11_voter_53 ?_
          refine lv_lload_n hx hb dX11_voter_56 rfl (lv_at hl 1 rfl) ?_
          obtain ⟨hi8, hf⟩ := wk_ckE hf
          refine va_last hx hb hK hP hD hS 3 2 rfl rfl hi8 dX11_voter_57 (fun H locs hP hD hS => ?_)
          have hP : va_P D vwCl (w_X11_voter cB cI cJ a_this a_cards a_county a_holes a_text a_letter a_where a_rank a_value a_hour a_readLetter a_readWhere a_readRank a_readValue a_readHour a_listName a_listDay a_voterName a_voterDay a_voterCounty a_heaps a_speed a_four a_byRules a_hours a_rest a_yet a_put v_kept v_length v_items v_readItems v_at v_lists v_voters v_needed v_voterCounty v_voterDay (vp_updL v_voterName v_voters.toNatClampNeg x1)) H := hP
          have hD : va_D A (w_X11_voter cB cI cJ a_this a_cards a_county a_holes a_text a_letter a_where a_rank a_value a_hour a_readLetter a_readWhere a_readRank a_readValue a_readHour a_listName a_listDay a_voterName a_voterDay a_voterCounty a_heaps a_speed a_four a_byRules a_hours a_rest a_yet a_put v_kept v_length v_items v_readItems v_at v_lists v_voters v_needed v_voterCounty v_voterDay (vp_updL v_voterName v_voters.toNatClampNeg x1)) := hD
          refine lv_aload_n hx hb dX11_voter_58 rfl (lv_at hl 0 rfl) ?_
          refine va_get (D := D) (ci := 11) (v := .ref a_voterDay) (C := RX11) (T := TX11) (N := 35) hx hb hts in_X11_voter_X11 hown hK hP 0 rfl rfl 24 (by decide) (hts (.fieldLink RX11 63 "HangingCardsModel" "voterDay" "[I") (List.mem_of_getElem? (i := 6) rfl)) (fun _ h9 => h9) rfl dX11_voter_59 ?_
          refine lv_aload_n hx hb dX11_voter_62 rfl (lv_at hl 0 rfl) ?_
          refine va_get (D := D) (ci := 11) (v := .int v_voters) (C := RX11) (T := TX11) (N := 35) hx hb hts in_X11_voter_X11 hown hK hP 0 rfl rfl 22 (by decide) (hts (.fieldLink RX11 233 "HangingCardsModel" "voters" "I") (List.mem_of_getElem? (i := 4) rfl)) (fun _ h9 => h9) rfl dX11_voter_63 ?_
          refine lv_iload_n hx hb dX11_voter_66 rfl (lv_at hl 2 rfl) ?_
          obtain ⟨hi9, hf⟩ := wk_ckE hf
          refine va_iast hx hb hK hP hD hS 2 0 rfl rfl hi9 dX11_voter_67 (fun H locs hP hD hS => ?_)
          have hP : va_P D vwCl (w_X11_voter cB cI cJ a_this a_cards a_county a_holes a_text a_letter a_where a_rank a_value a_hour a_readLetter a_readWhere a_readRank a_readValue a_readHour a_listName a_listDay a_voterName a_voterDay a_voterCounty a_heaps a_speed a_four a_byRules a_hours a_rest a_yet a_put v_kept v_length v_items v_readItems v_at v_lists v_voters v_needed v_voterCounty (upd v_voterDay v_voters.toNatClampNeg x3) (vp_updL v_voterName v_voters.toNatClampNeg x1)) H := hP
          have hD : va_D A (w_X11_voter cB cI cJ a_this a_cards a_county a_holes a_text a_letter a_where a_rank a_value a_hour a_readLetter a_readWhere a_readRank a_readValue a_readHour a_listName a_listDay a_voterName a_voterDay a_voterCounty a_heaps a_speed a_four a_byRules a_hours a_rest a_yet a_put v_kept v_length v_items v_readItems v_at v_lists v_voters v_needed v_voterCounty (upd v_voterDay v_voters.toNatClampNeg x3) (vp_updL v_voterName v_voters.toNatClampNeg x1)) := hD
          refine lv_aload_n hx hb dX11_voter_68 rfl (lv_at hl 0 rfl) ?_
          refine va_get (D := D) (ci := 11) (v := .ref a_voterCounty) (C := RX11) (T := TX11) (N := 35) hx hb hts in_X11_voter_X11 hown hK hP 0 rfl rfl 25 (by decide) (hts (.fieldLink RX11 66 "HangingCardsModel" "voterCounty" "[I") (List.mem_of_getElem? (i := 7) rfl)) (fun _ h9 => h9) rfl dX11_voter_69 ?_
          refine lv_aload_n hx hb dX11_voter_72 rfl (lv_at hl 0 rfl) ?_
          refine va_get (D := D) (ci := 11) (v := .int v_voters) (C := RX11) (T := TX11) (N := 35) hx hb hts in_X11_voter_X11 hown hK hP 0 rfl rfl 22 (by decide) (hts (.fieldLink RX11 233 "HangingCardsModel" "voters" "I") (List.mem_of_getElem? (i := 4) rfl)) (fun _ h9 => h9) rfl dX11_voter_73 ?_
          refine lv_iload hx hb dX11_voter_76 (lv_at hl 3 rfl) ?_
          obtain ⟨hi10, hf⟩ := wk_ckE hf
          refine va_iast hx hb hK hP hD hS 1 0 rfl rfl hi10 dX11_voter_78 (fun H locs hP hD hS => ?_)
          have hP : va_P D vwCl (w_X11_voter cB cI cJ a_this a_cards a_county a_holes a_text a_letter a_where a_rank a_value a_hour a_readLetter a_readWhere a_readRank a_readValue a_readHour a_listName a_listDay a_voterName a_voterDay a_voterCounty a_heaps a_speed a_four a_byRules a_hours a_rest a_yet a_put v_kept v_length v_items v_readItems v_at v_lists v_voters v_needed (upd v_voterCounty v_voters.toNatClampNeg x4) (upd v_voterDay v_voters.toNatClampNeg x3) (vp_updL v_voterName v_voters.toNatClampNeg x1)) H := hP
          have hD : va_D A (w_X11_voter cB cI cJ a_this a_cards a_county a_holes a_text a_letter a_where a_rank a_value a_hour a_readLetter a_readWhere a_readRank a_readValue a_readHour a_listName a_listDay a_voterName a_voterDay a_voterCounty a_heaps a_speed a_four a_byRules a_hours a_rest a_yet a_put v_kept v_length v_items v_readItems v_at v_lists v_voters v_needed (upd v_voterCounty v_voters.toNatClampNeg x4) (upd v_voterDay v_voters.toNatClampNeg x3) (vp_updL v_voterName v_voters.toNatClampNeg x1)) := hD
          refine lv_aload_n hx hb dX11_voter_79 rfl (lv_at hl 0 rfl) ?_
          refine lv_dup hx hb dX11_voter_80 rfl ?_
          refine va_get (D := D) (ci := 11) (v := .int v_voters) (C := RX11) (T := TX11) (N := 35) hx hb hts in_X11_voter_X11 hown hK hP 0 rfl rfl 22 (by decide) (hts (.fieldLink RX11 233 "HangingCardsModel" "voters" "I") (List.mem_of_getElem? (i := 4) rfl)) (fun _ h9 => h9) rfl dX11_voter_81 ?_
          refine lv_iconst (v := (1 : Int32)) hx hb dX11_voter_84 (by decide) ?_
          refine lv_iadd hx hb dX11_voter_85 ?_
          refine va_put (D := D) (ci := 11) (v := .int (v_voters + (1 : Int32))) (ty := .int) (C := RX11) (T := TX11) (N := 35) hx hb hts in_X11_voter_X11 tyX11 tyX11_ok nmX11 hown hK hP hD hS 0 rfl rfl 22 (by decide) (hts (.fieldLink RX11 233 "HangingCardsModel" "voters" "I") (List.mem_of_getElem? (i := 4) rfl)) (fun _ h9 => h9) rfl (by decide +kernel) rfl rfl (Nat.le_of_ble_eq_true rfl) dX11_voter_86 (fun H locs hP hD hS => ?_)
          have hP : va_P D vwCl (w_X11_voter cB cI cJ a_this a_cards a_county a_holes a_text a_letter a_where a_rank a_value a_hour a_readLetter a_readWhere a_readRank a_readValue a_readHour a_listName a_listDay a_voterName a_voterDay a_voterCounty a_heaps a_speed a_four a_byRules a_hours a_rest a_yet a_put v_kept v_length v_items v_readItems v_at v_lists (v_voters + (1 : Int32)) v_needed (upd v_voterCounty v_voters.toNatClampNeg x4) (upd v_voterDay v_voters.toNatClampNeg x3) (vp_updL v_voterName v_voters.toNatClampNeg x1)) H := hP
          have hD : va_D A (w_X11_voter cB cI cJ a_this a_cards a_county a_holes a_text a_letter a_where a_rank a_value a_hour a_readLetter a_readWhere a_readRank a_readValue a_readHour a_listName a_listDay a_voterName a_voterDay a_voterCounty a_heaps a_speed a_four a_byRules a_hours a_rest a_yet a_put v_kept v_length v_items v_readItems v_at v_lists (v_voters + (1 : Int32)) v_needed (upd v_voterCounty v_voters.toNatClampNeg x4) (upd v_voterDay v_voters.toNatClampNeg x3) (vp_updL v_voterName v_voters.toNatClampNeg x1)) := hD
          refine lv_aload_n hx hb dX11_voter_89 rfl (lv_at hl 0 rfl) ?_
          refine va_get (D := D) (ci := 11) (v := .int (v_voters + (1 : Int32))) (C := RX11) (T := TX11) (N := 35) hx hb hts in_X11_voter_X11 hown hK hP 0 rfl rfl 22 (by decide) (hts (.fieldLink RX11 233 "HangingCardsModel" "voters" "I") (List.mem_of_getElem? (i := 4) rfl)) (fun _ h9 => h9) rfl dX11_voter_90 ?_
          refine lv_iconst (v := (1 : Int32)) hx hb dX11_voter_93 (by decide) ?_
          refine lv_isub hx hb dX11_voter_94 ?_
          exact hret _ _ _ _ _ _ dX11_voter_95 (wk_rt hf (fun z => z.1)) (wk_rt hf (fun z => w_X11_voter cB cI cJ a_this a_cards a_county a_holes a_text a_letter a_where a_rank a_value a_hour a_readLetter a_readWhere a_readRank a_readValue a_readHour a_listName a_listDay a_voterName a_voterDay a_voterCounty a_heaps a_speed a_four a_byRules a_hours a_rest a_yet a_put v_kept v_length v_items v_readItems v_at v_lists (z.2.1) v_needed (z.2.2.1) (z.2.2.2.1) (z.2.2.2.2))) hP hD hS
        · have hf := wk_itT hf c7
          refine lv_bipush (v := (-3 : Int32)) hx hb dX11_voter_45 (by decide) ?_
          exact hret _ _ _ _ _ _ dX11_voter_47 (wk_rt hf (fun z => z.1)) (wk_rt hf (fun z => w_X11_voter cB cI cJ a_this a_cards a_county a_holes a_text a_letter a_where a_rank a_value a_hour a_readLetter a_readWhere a_readRank a_readValue a_readHour a_listName a_listDay a_voterName a_voterDay a_voterCounty a_heaps a_speed a_four a_byRules a_hours a_rest a_yet a_put v_kept v_length v_items v_readItems v_at v_lists (z.2.1) v_needed (z.2.2.1) (z.2.2.2.1) (z.2.2.2.2))) hP hD hS
      · have hf := wk_itT hf c6
        refine lv_iconst (v := (-1 : Int32)) hx hb dX11_voter_34 (by decide) ?_
        exact hret _ _ _ _ _ _ dX11_voter_35 (wk_rt hf (fun z => z.1)) (wk_rt hf (fun z => w_X11_voter cB cI cJ a_this a_cards a_county a_holes a_text a_letter a_where a_rank a_value a_hour a_readLetter a_readWhere a_readRank a_readValue a_readHour a_listName a_listDay a_voterName a_voterDay a_voterCounty a_heaps a_speed a_four a_byRules a_hours a_rest a_yet a_put v_kept v_length v_items v_readItems v_at v_lists (z.2.1) v_needed (z.2.2.1) (z.2.2.2.1) (z.2.2.2.2))) hP hD hS
abbrev w_X11_likeness (cB cI cJ : ClassId) (a_this : Nat) (a_cards : Nat) (a_county : Nat) (a_holes : Nat) (a_text : Nat) (a_letter : Nat) (a_where : Nat) (a_rank : Nat) (a_value : Nat) (a_hour : Nat) (a_readLetter : Nat) (a_readWhere : Nat) (a_readRank : Nat) (a_readValue : Nat) (a_readHour : Nat) (a_listName : Nat) (a_listDay : Nat) (a_voterName : Nat) (a_voterDay : Nat) (a_voterCounty : Nat) (a_heaps : Nat) (a_speed : Nat) (a_four : Nat) (a_byRules : Nat) (a_hours : Nat) (a_rest : Nat) (a_yet : Nat) (a_put : Nat) (v_kept : Int32) (v_length : Int32) (v_items : Int32) (v_readItems : Int32) (v_at : Int32) (v_lists : Int32) (v_voters : Int32) (v_needed : Int32) : va_W := [(a_this, .inr (11, [.ref a_cards, .ref a_county, .ref a_holes, .int v_kept, .int v_length, .ref a_text, .int v_items, .ref a_letter, .ref a_where, .ref a_rank, .ref a_value, .ref a_hour, .int v_readItems, .ref a_readLetter, .ref a_readWhere, .ref a_readRank, .ref a_readValue, .ref a_readHour, .int v_at, .int v_lists, .ref a_listName, .ref a_listDay, .int v_voters, .ref a_voterName, .ref a_voterDay, .ref a_voterCounty, .int v_needed, .ref a_heaps, .ref a_speed, .ref a_four, .ref a_byRules, .ref a_hours, .ref a_rest, .ref a_yet, .ref a_put]))]
theorem hd_X11_likeness : yX11_likeness.cls = RX11 ∧ yX11_likeness.cls ≠ "java/lang/invoke/MethodHandle" ∧ yX11_likeness.cls ≠ "java/lang/invoke/VarHandle" ∧ (parseMethodDescriptor yX11_likeness.desc).map (fun d => d.parameters.length) = some 1 := by decide +kernel
abbrev rm_X11_likeness : Room := { frames := 1, cells := 0, slots := 0, locals := 25 }
theorem in_X11_likeness_X11 : ∀ w ∈ wsX110, w ∈ wsX11_likeness := fun w h => List.mem_cons_of_mem _ (List.mem_append_right _ h)
set_option maxHeartbeats 4000000 in
set_option maxRecDepth 100000 in
theorem c_X11_likeness (l : Launch) (D : va_G) (cB cI cJ : ClassId) (N : Nat) (a_this : Nat) (a_cards : Nat) (a_county : Nat) (a_holes : Nat) (a_text : Nat) (a_letter : Nat) (a_where : Nat) (a_rank : Nat) (a_value : Nat) (a_hour : Nat) (a_readLetter : Nat) (a_readWhere : Nat) (a_readRank : Nat) (a_readValue : Nat) (a_readHour : Nat) (a_listName : Nat) (a_listDay : Nat) (a_voterName : Nat) (a_voterDay : Nat) (a_voterCounty : Nat) (a_heaps : Nat) (a_speed : Nat) (a_four : Nat) (a_byRules : Nat) (a_hours : Nat) (a_rest : Nat) (a_yet : Nat) (a_put : Nat) (v_kept : Int32) (v_length : Int32) (v_items : Int32) (v_readItems : Int32) (v_at : Int32) (v_lists : Int32) (v_voters : Int32) (v_needed : Int32) (x1 : Int32) {r : Int32} {o_needed : Int32} (hf : f_X11_likeness N v_needed x1 = some (r, o_needed)) : MTi l yX11_likeness wsX11_likeness rm_X11_likeness D (wk_T cB cI cJ) [.ref a_this, .int x1] (w_X11_likeness cB cI cJ a_this a_cards a_county a_holes a_text a_letter a_where a_rank a_value a_hour a_readLetter a_readWhere a_readRank a_readValue a_readHour a_listName a_listDay a_voterName a_voterDay a_voterCounty a_heaps a_speed a_four a_byRules a_hours a_rest a_yet a_put v_kept v_length v_items v_readItems v_at v_lists v_voters v_needed) (w_X11_likeness cB cI cJ a_this a_cards a_county a_holes a_text a_letter a_where a_rank a_value a_hour a_readLetter a_readWhere a_readRank a_readValue a_readHour a_listName a_listDay a_voterName a_voterDay a_voterCounty a_heaps a_speed a_four a_byRules a_hours a_rest a_yet a_put v_kept v_length v_items v_readItems v_at v_lists v_voters o_needed) r := by
  refine MTi.of (cc := cX11_likeness) (nL := 3) (rt := .int) (own := RX11) pn_X11 rfl rfl (Nat.le_of_ble_eq_true rfl) rfl ?_
  intro p e s m args below meth c A ls Q C hP hD hS hl hret
  obtain ⟨hx, hb, hml, hts, hown, hK, hN, hA, hlk⟩ := id C
  have hl : lv_has ls 3 [(0, .ref a_this), (1, .int x1)] := hl
  unfold f_X11_likeness at hf
  refine lv_iload_n hx hb dX11_likeness_0 rfl (lv_at hl 1 rfl) ?_
  refine lv_i2l (v := (x1.toInt64)) hx hb dX11_likeness_1 rfl ?_
  refine lv_lconst (v := (1 : Int64)) hx hb dX11_likeness_2 (by decide) ?_
  refine lv_ldc2 (v := (100 : Int64)) hx hb hown (hts (.constantLong RX11 236 (100)) (List.mem_of_getElem? (i := 1) rfl)) dX11_likeness_3 ?_
  obtain ⟨r1, hc1, hf⟩ := wk_b1E hf
  refine wk_callSi2 C hP hD hS (c_X11_in l D cB cI cJ N (x1.toInt64) (1 : Int64) (100 : Int64) hc1) (va_cwS 3 hts gX11_likeness_X11_in rfl rfl rfl hd_X11_in.2 ⟨Nat.le_of_ble_eq_true rfl, Nat.le_of_ble_eq_true rfl⟩) hl.1 ⟨Nat.zero_le _, Nat.zero_le _⟩ [] [0] 1 (by decide +kernel) rfl (Wn := w_X11_likeness cB cI cJ a_this a_cards a_county a_holes a_text a_letter a_where a_rank a_value a_hour a_readLetter a_readWhere a_readRank a_readValue a_readHour a_listName a_listDay a_voterName a_voterDay a_voterCounty a_heaps a_speed a_four a_byRules a_hours a_rest a_yet a_put v_kept v_length v_items v_readItems v_at v_lists v_voters v_needed) rfl rfl rfl rfl rfl rfl rfl rfl (Nat.le_of_ble_eq_true rfl) dX11_likeness_6 (fun H locs hP hD hS => ?_)
  refine lv_if_ne (tgt := 14) hx hb dX11_likeness_9 (by decide) (fun c2 => ?_) (fun c2 => ?_)
  · have hf := wk_itF hf c2
    refine lv_aload_n hx hb dX11_likeness_14 rfl (lv_at hl 0 rfl) ?_
    refine va_get (D := D) (ci := 11) (v := .int v_needed) (C := RX11) (T := TX11) (N := 35) hx hb hts in_X11_likeness_X11 hown hK hP 0 rfl rfl 26 (by decide) (hts (.fieldLink RX11 69 "HangingCardsModel" "needed" "I") (List.mem_of_getElem? (i := 2) rfl)) (fun _ h9 => h9) rfl dX11_likeness_15 ?_
    refine lv_istore_n (lv' := [(2, .int v_needed), (0, .ref a_this), (1, .int x1)]) hx hb dX11_likeness_18 rfl hl (by decide) rfl (fun ls hl => ?_)
    refine lv_aload_n hx hb dX11_likeness_19 rfl (lv_at hl 1 rfl) ?_
    refine lv_iload_n hx hb dX11_likeness_20 rfl (lv_at hl 2 rfl) ?_
    refine va_put (D := D) (ci := 11) (v := .int x1) (ty := .int) (C := RX11) (T := TX11) (N := 35) hx hb hts in_X11_likeness_X11 tyX11 tyX11_ok nmX11 hown hK hP hD hS 0 rfl rfl 26 (by decide) (hts (.fieldLink RX11 69 "HangingCardsModel" "needed" "I") (List.mem_of_getElem? (i := 2) rfl)) (fun _ h9 => h9) rfl (by decide +kernel) rfl rfl (Nat.le_of_ble_eq_true rfl) dX11_likeness_21 (fun H locs hP hD hS => ?_)
    have hP : va_P D vwCl (w_X11_likeness cB cI cJ a_this a_cards a_county a_holes a_text a_letter a_where a_rank a_value a_hour a_readLetter a_readWhere a_readRank a_readValue a_readHour a_listName a_listDay a_voterName a_voterDay a_voterCounty a_heaps a_speed a_four a_byRules a_hours a_rest a_yet a_put v_kept v_length v_items v_readItems v_at v_lists v_voters x1) H := hP
    have hD : va_D A (w_X11_likeness cB cI cJ a_this a_cards a_county a_holes a_text a_letter a_where a_rank a_value a_hour a_readLetter a_readWhere a_readRank a_readValue a_readHour a_listName a_listDay a_voterName a_voterDay a_voterCounty a_heaps a_speed a_four a_byRules a_hours a_rest a_yet a_put v_kept v_length v_items v_readItems v_at v_lists v_voters x1) := hD
    refine lv_iload_n hx hb dX11_likeness_24 rfl (lv_at hl 0 rfl) ?_
    exact hret _ _ _ _ _ _ dX11_likeness_25 (wk_rt hf (fun z => z.1)) (wk_rt hf (fun z => w_X11_likeness cB cI cJ a_this a_cards a_county a_holes a_text a_letter a_where a_rank a_value a_hour a_readLetter a_readWhere a_readRank a_readValue a_readHour a_listName a_listDay a_voterName a_voterDay a_voterCounty a_heaps a_speed a_four a_byRules a_hours a_rest a_yet a_put v_kept v_length v_items v_readItems v_at v_lists v_voters (z.2))) hP hD hS
  · have hf := wk_itT hf c2
    refine lv_iconst (v := (-1 : Int32)) hx hb dX11_likeness_12 (by decide) ?_
    exact hret _ _ _ _ _ _ dX11_likeness_13 (wk_rt hf (fun z => z.1)) (wk_rt hf (fun z => w_X11_likeness cB cI cJ a_this a_cards a_county a_holes a_text a_letter a_where a_rank a_value a_hour a_readLetter a_readWhere a_readRank a_readValue a_readHour a_listName a_listDay a_voterName a_voterDay a_voterCounty a_heaps a_speed a_four a_byRules a_hours a_rest a_yet a_put v_kept v_length v_items v_readItems v_at v_lists v_voters (z.2))) hP hD hS
abbrev w_X11_likeOf (cB cI cJ : ClassId) (a_this : Nat) (a_cards : Nat) (a_county : Nat) (a_holes : Nat) (a_text : Nat) (a_letter : Nat) (a_where : Nat) (a_rank : Nat) (a_value : Nat) (a_hour : Nat) (a_readLetter : Nat) (a_readWhere : Nat) (a_readRank : Nat) (a_readValue : Nat) (a_readHour : Nat) (a_listName : Nat) (a_listDay : Nat) (a_voterName : Nat) (a_voterDay : Nat) (a_voterCounty : Nat) (a_heaps : Nat) (a_speed : Nat) (a_four : Nat) (a_byRules : Nat) (a_hours : Nat) (a_rest : Nat) (a_yet : Nat) (a_put : Nat) (v_kept : Int32) (v_length : Int32) (v_items : Int32) (v_readItems : Int32) (v_at : Int32) (v_lists : Int32) (v_voters : Int32) (v_needed : Int32) (v_listName : Nat → Int64) (v_voterName : Nat → Int64) : va_W := [(a_this, .inr (11, [.ref a_cards, .ref a_county, .ref a_holes, .int v_kept, .int v_length, .ref a_text, .int v_items, .ref a_letter, .ref a_where, .ref a_rank, .ref a_value, .ref a_hour, .int v_readItems, .ref a_readLetter, .ref a_readWhere, .ref a_readRank, .ref a_readValue, .ref a_readHour, .int v_at, .int v_lists, .ref a_listName, .ref a_listDay, .int v_voters, .ref a_voterName, .ref a_voterDay, .ref a_voterCounty, .int v_needed, .ref a_heaps, .ref a_speed, .ref a_four, .ref a_byRules, .ref a_hours, .ref a_rest, .ref a_yet, .ref a_put])), (a_listName, .inl (cJ, 8, .inr (.inl v_listName))), (a_voterName, .inl (cJ, 12, .inr (.inl v_voterName)))]
theorem hd_X11_likeOf : yX11_likeOf.cls = RX11 ∧ yX11_likeOf.cls ≠ "java/lang/invoke/MethodHandle" ∧ yX11_likeOf.cls ≠ "java/lang/invoke/VarHandle" ∧ (parseMethodDescriptor yX11_likeOf.desc).map (fun d => d.parameters.length) = some 2 := by decide +kernel
abbrev rm_X11_likeOf : Room := { frames := 2, cells := 0, slots := 0, locals := 44 }
theorem in_X11_likeOf_X11 : ∀ w ∈ wsX110, w ∈ wsX11_likeOf := fun w h => List.mem_cons_of_mem _ (List.mem_append_right _ h)
set_option maxHeartbeats 4000000 in
set_option maxRecDepth 100000 in
theorem c_X11_likeOf (l : Launch) (D : va_G) (cB cI cJ : ClassId) (N : Nat) (a_this : Nat) (a_cards : Nat) (a_county : Nat) (a_holes : Nat) (a_text : Nat) (a_letter : Nat) (a_where : Nat) (a_rank : Nat) (a_value : Nat) (a_hour : Nat) (a_readLetter : Nat) (a_readWhere : Nat) (a_readRank : Nat) (a_readValue : Nat) (a_readHour : Nat) (a_listName : Nat) (a_listDay : Nat) (a_voterName : Nat) (a_voterDay : Nat) (a_voterCounty : Nat) (a_heaps : Nat) (a_speed : Nat) (a_four : Nat) (a_byRules : Nat) (a_hours : Nat) (a_rest : Nat) (a_yet : Nat) (a_put : Nat) (v_kept : Int32) (v_length : Int32) (v_items : Int32) (v_readItems : Int32) (v_at : Int32) (v_lists : Int32) (v_voters : Int32) (v_needed : Int32) (v_listName : Nat → Int64) (v_voterName : Nat → Int64) (x1 : Int32) (x2 : Int32) {r : Int32} (hf : f_X11_likeOf N v_listName v_voterName x1 x2 = some r) : MTi l yX11_likeOf wsX11_likeOf rm_X11_likeOf D (wk_T cB cI cJ) [.ref a_this, .int x1, .int x2] (w_X11_likeOf cB cI cJ a_this a_cards a_county a_holes a_text a_letter a_where a_rank a_value a_hour a_readLetter a_readWhere a_readRank a_readValue a_readHour a_listName a_listDay a_voterName a_voterDay a_voterCounty a_heaps a_speed a_four a_byRules a_hours a_rest a_yet a_put v_kept v_length v_items v_readItems v_at v_lists v_voters v_needed v_listName v_voterName) (w_X11_likeOf cB cI cJ a_this a_cards a_county a_holes a_text a_letter a_where a_rank a_value a_hour a_readLetter a_readWhere a_readRank a_readValue a_readHour a_listName a_listDay a_voterName a_voterDay a_voterCounty a_heaps a_speed a_four a_byRules a_hours a_rest a_yet a_put v_kept v_length v_items v_readItems v_at v_lists v_voters v_needed v_listName v_voterName) r := by
  refine MTi.of (cc := cX11_likeOf) (nL := 7) (rt := .int) (own := RX11) pn_X11 rfl rfl (Nat.le_of_ble_eq_true rfl) rfl ?_
  intro p e s m args below meth c A ls Q C hP hD hS hl hret
  obtain ⟨hx, hb, hml, hts, hown, hK, hN, hA, hlk⟩ := id C
  have hl : lv_has ls 7 [(0, .ref a_this), (1, .int x1), (2, .int x2)] := hl
  have J92 : ∀ (x3 : Int32) (x4 : Int32) (x5 : Int32), B_X11_likeOf_92 N v_listName v_voterName x3 x4 x5 = some r → ∀ (H : Heap) (locs : List Loc) (ls : Array Slot), va_P D vwCl (w_X11_likeOf cB cI cJ a_this a_cards a_county a_holes a_text a_letter a_where a_rank a_value a_hour a_readLetter a_readWhere a_readRank a_readValue a_readHour a_listName a_listDay a_voterName a_voterDay a_voterCounty a_heaps a_speed a_four a_byRules a_hours a_rest a_yet a_put v_kept v_length v_items v_readItems v_at v_lists v_voters v_needed v_listName v_voterName) H → va_D A (w_X11_likeOf cB cI cJ a_this a_cards a_county a_holes a_text a_letter a_where a_rank a_value a_hour a_readLetter a_readWhere a_readRank a_readValue a_readHour a_listName a_listDay a_voterName a_voterDay a_voterCounty a_heaps a_speed a_four a_byRules a_hours a_rest a_yet a_put v_kept v_length v_items v_readItems v_at v_lists v_voters v_needed v_listName v_voterName) → va_S A s.heap H locs → lv_has ls 7 [(3, .int x3), (4, .int x4), (5, .int x5)] → W p l e rm_X11_likeOf s m args below meth c H locs 0 0 Q (F0 m 92 ls []) := by
    intro x3 x4 x5 hf H locs ls hP hD hS hl
    unfold B_X11_likeOf_92 at hf
    refine lv_bipush (v := (100 : Int32)) hx hb dX11_likeOf_92 (by decide) ?_
    refine lv_iload hx hb dX11_likeOf_94 (lv_at hl 2 rfl) ?_
    refine lv_imul hx hb dX11_likeOf_96 ?_
    refine lv_iload_n hx hb dX11_likeOf_97 rfl (lv_at hl 0 rfl) ?_
    refine lv_iload hx hb dX11_likeOf_98 (lv_at hl 1 rfl) ?_
    refine lv_icmp_le (tgt := 107) hx hb dX11_likeOf_100 (by decide) (fun c1 => ?_) (fun c1 => ?_)
    · have hf := wk_itT hf c1
      refine lv_iload hx hb dX11_likeOf_107 (lv_at hl 1 rfl) ?_
      obtain ⟨hz2, hf⟩ := wk_dvE hf
      refine lv_idiv hx hb dX11_likeOf_109 hz2 ?_
      exact hret _ _ _ _ _ _ dX11_likeOf_110 (wk_rt hf (fun z => z)) rfl hP hD hS
    · have hf := wk_itF hf c1
      refine lv_iload_n hx hb dX11_likeOf_103 rfl (lv_at hl 0 rfl) ?_
      refine lv_goto (tgt := 109) hx hb dX11_likeOf_104 (by decide) ?_
      obtain ⟨hz3, hf⟩ := wk_dvE hf
      refine lv_idiv hx hb dX11_likeOf_109 hz3 ?_
      exact hret _ _ _ _ _ _ dX11_likeOf_110 (wk_rt hf (fun z => z)) rfl hP hD hS
  have L38 := wk_loopI (F := (fun k38 : Int32 → Int32 → Int32 → Int32 → Int32 → Int32 → Option Int32 => B_X11_likeOf_38 N v_listName v_voterName k38)) (bot := fun _ _ _ _ _ _ => none) (fun k38 : Int32 → Int32 → Int32 → Int32 → Int32 → Int32 → Option Int32 => ∀ (x1 : Int32) (x2 : Int32) (x3 : Int32) (x4 : Int32) (x5 : Int32) (x6 : Int32), k38 x1 x2 x3 x4 x5 x6 = some r → ∀ (H : Heap) (locs : List Loc) (ls : Array Slot), va_P D vwCl (w_X11_likeOf cB cI cJ a_this a_cards a_county a_holes a_text a_letter a_where a_rank a_value a_hour a_readLetter a_readWhere a_readRank a_readValue a_readHour a_listName a_listDay a_voterName a_voterDay a_voterCounty a_heaps a_speed a_four a_byRules a_hours a_rest a_yet a_put v_kept v_length v_items v_readItems v_at v_lists v_voters v_needed v_listName v_voterName) H → va_D A (w_X11_likeOf cB cI cJ a_this a_cards a_county a_holes a_text a_letter a_where a_rank a_value a_hour a_readLetter a_readWhere a_readRank a_readValue a_readHour a_listName a_listDay a_voterName a_voterDay a_voterCounty a_heaps a_speed a_four a_byRules a_hours a_rest a_yet a_put v_kept v_length v_items v_readItems v_at v_lists v_voters v_needed v_listName v_voterName) → va_S A s.heap H locs → lv_has ls 7 [(0, .ref a_this), (1, .int x1), (2, .int x2), (3, .int x3), (4, .int x4), (5, .int x5), (6, .int x6)] → W p l e rm_X11_likeOf s m args below meth c H locs 0 0 Q (F0 m 38 ls [])) (by intro x1 x2 x3 x4 x5 x6 hf; exact wk_no hf) (by
    intro k38 ih38
    intro x1 x2 x3 x4 x5 x6 hf H locs ls hP hD hS hl
    have hf : B_X11_likeOf_38 N v_listName v_voterName k38 x1 x2 x3 x4 x5 x6 = some r := hf
    unfold B_X11_likeOf_38 at hf
    refine lv_iload hx hb dX11_likeOf_38 (lv_at hl 6 rfl) ?_
    refine lv_iload_n hx hb dX11_likeOf_40 rfl (lv_at hl 3 rfl) ?_
    refine lv_icmp_ge (tgt := 92) hx hb dX11_likeOf_41 (by decide) (fun c4 => ?_) (fun c4 => ?_)
    · have hf := wk_itT hf c4
      exact J92 _ _ _ hf _ _ _ hP hD hS (lv_sub hl [3, 4, 5] rfl)
    · have hf := wk_itF hf c4
      refine lv_iload hx hb dX11_likeOf_44 (lv_at hl 6 rfl) ?_
      refine lv_iload hx hb dX11_likeOf_46 (lv_at hl 4 rfl) ?_
      refine lv_icmp_ge (tgt := 92) hx hb dX11_likeOf_48 (by decide) (fun c5 => ?_) (fun c5 => ?_)
      · have hf := wk_itT hf c5
        exact J92 _ _ _ hf _ _ _ hP hD hS (lv_sub hl [3, 4, 5] rfl)
      · have hf := wk_itF hf c5
        refine lv_iload hx hb dX11_likeOf_51 (lv_at hl 5 rfl) ?_
        refine lv_aload_n hx hb dX11_likeOf_53 rfl (lv_at hl 0 rfl) ?_
        refine va_get (D := D) (ci := 11) (v := .ref a_voterName) (C := RX11) (T := TX11) (N := 35) hx hb hts in_X11_likeOf_X11 hown hK hP 0 rfl rfl 23 (by decide) (hts (.fieldLink RX11 60 "HangingCardsModel" "voterName" "[J") (List.mem_of_getElem? (i := 1) rfl)) (fun _ h9 => h9) rfl dX11_likeOf_54 ?_
        refine lv_iload_n hx hb dX11_likeOf_57 rfl (lv_at hl 1 rfl) ?_
        obtain ⟨hi6, hf⟩ := wk_ckE hf
        refine va_lald hx hb hK hP 2 2 rfl rfl hi6 dX11_likeOf_58 ?_
        refine lv_iload hx hb dX11_likeOf_59 (lv_at hl 6 rfl) ?_
        obtain ⟨r7, hc7, hf⟩ := wk_b1E hf
        refine wk_callSi2 C hP hD hS (c_X11_sign l D cB cI cJ N (v_voterName x1.toNatClampNeg) x6 hc7) (va_cwS 2 hts gX11_likeOf_X11_sign rfl rfl rfl hd_X11_sign.2 ⟨Nat.le_of_ble_eq_true rfl, Nat.le_of_ble_eq_true rfl⟩) hl.1 ⟨Nat.zero_le _, Nat.zero_le _⟩ [] [0, 1, 2] 3 (by decide +kernel) rfl (Wn := w_X11_likeOf cB cI cJ a_this a_cards a_county a_holes a_text a_letter a_where a_rank a_value a_hour a_readLetter a_readWhere a_readRank a_readValue a_readHour a_listName a_listDay a_voterName a_voterDay a_voterCounty a_heaps a_speed a_four a_byRules a_hours a_rest a_yet a_put v_kept v_length v_items v_readItems v_at v_lists v_voters v_needed v_listName v_voterName) rfl rfl rfl rfl rfl rfl rfl rfl (Nat.le_of_ble_eq_true rfl) dX11_likeOf_61 (fun H locs hP hD hS => ?_)
        refine lv_aload_n hx hb dX11_likeOf_64 rfl (lv_at hl 0 rfl) ?_
        refine va_get (D := D) (ci := 11) (v := .ref a_listName) (C := RX11) (T := TX11) (N := 35) hx hb hts in_X11_likeOf_X11 hown hK hP 0 rfl rfl 20 (by decide) (hts (.fieldLink RX11 53 "HangingCardsModel" "listName" "[J") (List.mem_of_getElem? (i := 2) rfl)) (fun _ h9 => h9) rfl dX11_likeOf_65 ?_
        refine lv_iload_n hx hb dX11_likeOf_68 rfl (lv_at hl 2 rfl) ?_
        obtain ⟨hi8, hf⟩ := wk_ckE hf
        refine va_lald hx hb hK hP 1 2 rfl rfl hi8 dX11_likeOf_69 ?_
        refine lv_iload hx hb dX11_likeOf_70 (lv_at hl 6 rfl) ?_
        obtain ⟨r9, hc9, hf⟩ := wk_b1E hf
        refine wk_callSi2 C hP hD hS (c_X11_sign l D cB cI cJ N (v_listName x2.toNatClampNeg) x6 hc9) (va_cwS 2 hts gX11_likeOf_X11_sign rfl rfl rfl hd_X11_sign.2 ⟨Nat.le_of_ble_eq_true rfl, Nat.le_of_ble_eq_true rfl⟩) hl.1 ⟨Nat.zero_le _, Nat.zero_le _⟩ [] [0, 1, 2] 3 (by decide +kernel) rfl (Wn := w_X11_likeOf cB cI cJ a_this a_cards a_county a_holes a_text a_letter a_where a_rank a_value a_hour a_readLetter a_readWhere a_readRank a_readValue a_readHour a_listName a_listDay a_voterName a_voterDay a_voterCounty a_heaps a_speed a_four a_byRules a_hours a_rest a_yet a_put v_kept v_length v_items v_readItems v_at v_lists v_voters v_needed v_listName v_voterName) rfl rfl rfl rfl rfl rfl rfl rfl (Nat.le_of_ble_eq_true rfl) dX11_likeOf_72 (fun H locs hP hD hS => ?_)
        refine lv_icmp_ne (tgt := 82) hx hb dX11_likeOf_75 (by decide) (fun c10 => ?_) (fun c10 => ?_)
        · have hf := wk_itF hf c10
          refine lv_iconst (v := (0 : Int32)) hx hb dX11_likeOf_82 (by decide) ?_
          refine lv_iadd hx hb dX11_likeOf_83 ?_
          refine lv_topi (fun y11 ey11 => ?_)
          have hf := wk_nmE hf ey11
          refine lv_istore (lv' := [(5, .int y11), (0, .ref a_this), (1, .int x1), (2, .int x2), (3, .int x3), (4, .int x4), (6, .int x6)]) hx hb dX11_likeOf_84 hl (by decide) rfl (fun ls hl => ?_)
          obtain ⟨y12, ey12⟩ : ∃ y : Int32, y = x6 + (1 : Int32) := ⟨_, rfl⟩
          have hf := wk_nmE hf ey12
          refine lv_iinc (v := y12) (lv' := [(6, .int y12), (5, .int y11), (0, .ref a_this), (1, .int x1), (2, .int x2), (3, .int x3), (4, .int x4)]) hx hb dX11_likeOf_86 hl (k := 6) rfl (by rw [ey12]; rfl) (by decide) rfl (fun ls hl => ?_)
          refine lv_goto (tgt := 38) hx hb dX11_likeOf_89 (by decide) ?_
          exact ih38 _ _ _ _ _ _ hf _ _ _ hP hD hS (lv_sub hl [2, 3, 4, 5, 6, 1, 0] rfl)
        · have hf := wk_itT hf c10
          refine lv_iconst (v := (1 : Int32)) hx hb dX11_likeOf_78 (by decide) ?_
          refine lv_goto (tgt := 83) hx hb dX11_likeOf_79 (by decide) ?_
          refine lv_iadd hx hb dX11_likeOf_83 ?_
          refine lv_topi (fun y13 ey13 => ?_)
          have hf := wk_nmE hf ey13
          refine lv_istore (lv' := [(5, .int y13), (0, .ref a_this), (1, .int x1), (2, .int x2), (3, .int x3), (4, .int x4), (6, .int x6)]) hx hb dX11_likeOf_84 hl (by decide) rfl (fun ls hl => ?_)
          obtain ⟨y14, ey14⟩ : ∃ y : Int32, y = x6 + (1 : Int32) := ⟨_, rfl⟩
          have hf := wk_nmE hf ey14
          refine lv_iinc (v := y14) (lv' := [(6, .int y14), (5, .int y13), (0, .ref a_this), (1, .int x1), (2, .int x2), (3, .int x3), (4, .int x4)]) hx hb dX11_likeOf_86 hl (k := 6) rfl (by rw [ey14]; rfl) (by decide) rfl (fun ls hl => ?_)
          refine lv_goto (tgt := 38) hx hb dX11_likeOf_89 (by decide) ?_
          exact ih38 _ _ _ _ _ _ hf _ _ _ hP hD hS (lv_sub hl [2, 3, 4, 5, 6, 1, 0] rfl))
  unfold f_X11_likeOf at hf
  refine lv_aload_n hx hb dX11_likeOf_0 rfl (lv_at hl 0 rfl) ?_
  refine va_get (D := D) (ci := 11) (v := .ref a_voterName) (C := RX11) (T := TX11) (N := 35) hx hb hts in_X11_likeOf_X11 hown hK hP 0 rfl rfl 23 (by decide) (hts (.fieldLink RX11 60 "HangingCardsModel" "voterName" "[J") (List.mem_of_getElem? (i := 1) rfl)) (fun _ h9 => h9) rfl dX11_likeOf_1 ?_
  refine lv_iload_n hx hb dX11_likeOf_4 rfl (lv_at hl 1 rfl) ?_
  obtain ⟨hi15, hf⟩ := wk_ckE hf
  refine va_lald hx hb hK hP 2 2 rfl rfl hi15 dX11_likeOf_5 ?_
  obtain ⟨r16, hc16, hf⟩ := wk_b1E hf
  refine wk_callSi2 C hP hD hS (c_X11_long1 l D cB cI cJ N (v_voterName x1.toNatClampNeg) hc16) (va_cwS 1 hts gX11_likeOf_X11_long1 rfl rfl rfl hd_X11_long1.2 ⟨Nat.le_of_ble_eq_true rfl, Nat.le_of_ble_eq_true rfl⟩) hl.1 ⟨Nat.zero_le _, Nat.zero_le _⟩ [] [0, 1, 2] 3 (by decide +kernel) rfl (Wn := w_X11_likeOf cB cI cJ a_this a_cards a_county a_holes a_text a_letter a_where a_rank a_value a_hour a_readLetter a_readWhere a_readRank a_readValue a_readHour a_listName a_listDay a_voterName a_voterDay a_voterCounty a_heaps a_speed a_four a_byRules a_hours a_rest a_yet a_put v_kept v_length v_items v_readItems v_at v_lists v_voters v_needed v_listName v_voterName) rfl rfl rfl rfl rfl rfl rfl rfl (Nat.le_of_ble_eq_true rfl) dX11_likeOf_6 (fun H locs hP hD hS => ?_)
  refine lv_istore_n (lv' := [(3, .int r16), (0, .ref a_this), (1, .int x1), (2, .int x2)]) hx hb dX11_likeOf_9 rfl hl (by decide) rfl (fun ls hl => ?_)
  refine lv_aload_n hx hb dX11_likeOf_10 rfl (lv_at hl 1 rfl) ?_
  refine va_get (D := D) (ci := 11) (v := .ref a_listName) (C := RX11) (T := TX11) (N := 35) hx hb hts in_X11_likeOf_X11 hown hK hP 0 rfl rfl 20 (by decide) (hts (.fieldLink RX11 53 "HangingCardsModel" "listName" "[J") (List.mem_of_getElem? (i := 2) rfl)) (fun _ h9 => h9) rfl dX11_likeOf_11 ?_
  refine lv_iload_n hx hb dX11_likeOf_14 rfl (lv_at hl 3 rfl) ?_
  obtain ⟨hi17, hf⟩ := wk_ckE hf
  refine va_lald hx hb hK hP 1 2 rfl rfl hi17 dX11_likeOf_15 ?_
  obtain ⟨r18, hc18, hf⟩ := wk_b1E hf
  refine wk_callSi2 C hP hD hS (c_X11_long1 l D cB cI cJ N (v_listName x2.toNatClampNeg) hc18) (va_cwS 1 hts gX11_likeOf_X11_long1 rfl rfl rfl hd_X11_long1.2 ⟨Nat.le_of_ble_eq_true rfl, Nat.le_of_ble_eq_true rfl⟩) hl.1 ⟨Nat.zero_le _, Nat.zero_le _⟩ [] [0, 1, 2] 3 (by decide +kernel) rfl (Wn := w_X11_likeOf cB cI cJ a_this a_cards a_county a_holes a_text a_letter a_where a_rank a_value a_hour a_readLetter a_readWhere a_readRank a_readValue a_readHour a_listName a_listDay a_voterName a_voterDay a_voterCounty a_heaps a_speed a_four a_byRules a_hours a_rest a_yet a_put v_kept v_length v_items v_readItems v_at v_lists v_voters v_needed v_listName v_voterName) rfl rfl rfl rfl rfl rfl rfl rfl (Nat.le_of_ble_eq_true rfl) dX11_likeOf_16 (fun H locs hP hD hS => ?_)
  refine lv_istore (lv' := [(4, .int r18), (3, .int r16), (0, .ref a_this), (1, .int x1), (2, .int x2)]) hx hb dX11_likeOf_19 hl (by decide) rfl (fun ls hl => ?_)
  refine lv_iload_n hx hb dX11_likeOf_21 rfl (lv_at hl 1 rfl) ?_
  refine lv_if_eq (tgt := 30) hx hb dX11_likeOf_22 (by decide) (fun c19 => ?_) (fun c19 => ?_)
  · have hf := wk_itT hf c19
    refine lv_iconst (v := (0 : Int32)) hx hb dX11_likeOf_30 (by decide) ?_
    exact hret _ _ _ _ _ _ dX11_likeOf_31 (wk_rt hf (fun z => z)) rfl hP hD hS
  · have hf := wk_itF hf c19
    refine lv_iload hx hb dX11_likeOf_25 (lv_at hl 0 rfl) ?_
    refine lv_if_ne (tgt := 32) hx hb dX11_likeOf_27 (by decide) (fun c20 => ?_) (fun c20 => ?_)
    · have hf := wk_itF hf c20
      refine lv_iconst (v := (0 : Int32)) hx hb dX11_likeOf_32 (by decide) ?_
      refine lv_istore (lv' := [(5, .int (0 : Int32)), (4, .int r18), (3, .int r16), (0, .ref a_this), (1, .int x1), (2, .int x2)]) hx hb dX11_likeOf_33 hl (by decide) rfl (fun ls hl => ?_)
      refine lv_iconst (v := (0 : Int32)) hx hb dX11_likeOf_35 (by decide) ?_
      refine lv_istore (lv' := [(6, .int (0 : Int32)), (5, .int (0 : Int32)), (4, .int r18), (3, .int r16), (0, .ref a_this), (1, .int x1), (2, .int x2)]) hx hb dX11_likeOf_36 hl (by decide) rfl (fun ls hl => ?_)
      exact L38 N _ _ _ _ _ _ hf _ _ _ hP hD hS (lv_sub hl [4, 5, 6, 3, 2, 1, 0] rfl)
    · have hf := wk_itT hf c20
      refine lv_iconst (v := (0 : Int32)) hx hb dX11_likeOf_30 (by decide) ?_
      exact hret _ _ _ _ _ _ dX11_likeOf_31 (wk_rt hf (fun z => z)) rfl hP hD hS
abbrev w_X11_isVoter (cB cI cJ : ClassId) (a_this : Nat) (a_cards : Nat) (a_county : Nat) (a_holes : Nat) (a_text : Nat) (a_letter : Nat) (a_where : Nat) (a_rank : Nat) (a_value : Nat) (a_hour : Nat) (a_readLetter : Nat) (a_readWhere : Nat) (a_readRank : Nat) (a_readValue : Nat) (a_readHour : Nat) (a_listName : Nat) (a_listDay : Nat) (a_voterName : Nat) (a_voterDay : Nat) (a_voterCounty : Nat) (a_heaps : Nat) (a_speed : Nat) (a_four : Nat) (a_byRules : Nat) (a_hours : Nat) (a_rest : Nat) (a_yet : Nat) (a_put : Nat) (v_kept : Int32) (v_length : Int32) (v_items : Int32) (v_readItems : Int32) (v_at : Int32) (v_lists : Int32) (v_voters : Int32) (v_needed : Int32) : va_W := [(a_this, .inr (11, [.ref a_cards, .ref a_county, .ref a_holes, .int v_kept, .int v_length, .ref a_text, .int v_items, .ref a_letter, .ref a_where, .ref a_rank, .ref a_value, .ref a_hour, .int v_readItems, .ref a_readLetter, .ref a_readWhere, .ref a_readRank, .ref a_readValue, .ref a_readHour, .int v_at, .int v_lists, .ref a_listName, .ref a_listDay, .int v_voters, .ref a_voterName, .ref a_voterDay, .ref a_voterCounty, .int v_needed, .ref a_heaps, .ref a_speed, .ref a_four, .ref a_byRules, .ref a_hours, .ref a_rest, .ref a_yet, .ref a_put]))]
theorem hd_X11_isVoter : yX11_isVoter.cls = RX11 ∧ yX11_isVoter.cls ≠ "java/lang/invoke/MethodHandle" ∧ yX11_isVoter.cls ≠ "java/lang/invoke/VarHandle" ∧ (parseMethodDescriptor yX11_isVoter.desc).map (fun d => d.parameters.length) = some 1 := by decide +kernel
abbrev rm_X11_isVoter : Room := { frames := 1, cells := 0, slots := 0, locals := 25 }
theorem in_X11_isVoter_X11 : ∀ w ∈ wsX110, w ∈ wsX11_isVoter := fun w h => List.mem_cons_of_mem _ (List.mem_append_right _ h)
set_option maxHeartbeats 4000000 in
set_option maxRecDepth 100000 in
theorem c_X11_isVoter (l : Launch) (D : va_G) (cB cI cJ : ClassId) (N : Nat) (a_this : Nat) (a_cards : Nat) (a_county : Nat) (a_holes : Nat) (a_text : Nat) (a_letter : Nat) (a_where : Nat) (a_rank : Nat) (a_value : Nat) (a_hour : Nat) (a_readLetter : Nat) (a_readWhere : Nat) (a_readRank : Nat) (a_readValue : Nat) (a_readHour : Nat) (a_listName : Nat) (a_listDay : Nat) (a_voterName : Nat) (a_voterDay : Nat) (a_voterCounty : Nat) (a_heaps : Nat) (a_speed : Nat) (a_four : Nat) (a_byRules : Nat) (a_hours : Nat) (a_rest : Nat) (a_yet : Nat) (a_put : Nat) (v_kept : Int32) (v_length : Int32) (v_items : Int32) (v_readItems : Int32) (v_at : Int32) (v_lists : Int32) (v_voters : Int32) (v_needed : Int32) (x1 : Int32) {r : Bool} (hf : f_X11_isVoter N v_voters x1 = some r) : MTi l yX11_isVoter wsX11_isVoter rm_X11_isVoter D (wk_T cB cI cJ) [.ref a_this, .int x1] (w_X11_isVoter cB cI cJ a_this a_cards a_county a_holes a_text a_letter a_where a_rank a_value a_hour a_readLetter a_readWhere a_readRank a_readValue a_readHour a_listName a_listDay a_voterName a_voterDay a_voterCounty a_heaps a_speed a_four a_byRules a_hours a_rest a_yet a_put v_kept v_length v_items v_readItems v_at v_lists v_voters v_needed) (w_X11_isVoter cB cI cJ a_this a_cards a_county a_holes a_text a_letter a_where a_rank a_value a_hour a_readLetter a_readWhere a_readRank a_readValue a_readHour a_listName a_listDay a_voterName a_voterDay a_voterCounty a_heaps a_speed a_four a_byRules a_hours a_rest a_yet a_put v_kept v_length v_items v_readItems v_at v_lists v_voters v_needed) (wk_bI r) := by
  refine MTi.of (cc := cX11_isVoter) (nL := 2) (rt := .boolean) (own := RX11) pn_X11 rfl rfl (Nat.le_of_ble_eq_true rfl) (wk_nz r) ?_
  intro p e s m args below meth c A ls Q C hP hD hS hl hret
  obtain ⟨hx, hb, hml, hts, hown, hK, hN, hA, hlk⟩ := id C
  have hl : lv_has ls 2 [(0, .ref a_this), (1, .int x1)] := hl
  unfold f_X11_isVoter at hf
  refine lv_iload_n hx hb dX11_isVoter_0 rfl (lv_at hl 1 rfl) ?_
  refine lv_i2l (v := (x1.toInt64)) hx hb dX11_isVoter_1 rfl ?_
  refine lv_lconst (v := (0 : Int64)) hx hb dX11_isVoter_2 (by decide) ?_
  refine lv_aload_n hx hb dX11_isVoter_3 rfl (lv_at hl 0 rfl) ?_
  refine va_get (D := D) (ci := 11) (v := .int v_voters) (C := RX11) (T := TX11) (N := 35) hx hb hts in_X11_isVoter_X11 hown hK hP 0 rfl rfl 22 (by decide) (hts (.fieldLink RX11 233 "HangingCardsModel" "voters" "I") (List.mem_of_getElem? (i := 1) rfl)) (fun _ h9 => h9) rfl dX11_isVoter_4 ?_
  refine lv_iconst (v := (1 : Int32)) hx hb dX11_isVoter_7 (by decide) ?_
  refine lv_isub hx hb dX11_isVoter_8 ?_
  refine lv_i2l (v := ((v_voters - (1 : Int32)).toInt64)) hx hb dX11_isVoter_9 rfl ?_
  obtain ⟨r1, hc1, hf⟩ := wk_b1E hf
  refine wk_callSi2 C hP hD hS (c_X11_in l D cB cI cJ N (x1.toInt64) (0 : Int64) ((v_voters - (1 : Int32)).toInt64) hc1) (va_cwS 3 hts gX11_isVoter_X11_in rfl rfl rfl hd_X11_in.2 ⟨Nat.le_of_ble_eq_true rfl, Nat.le_of_ble_eq_true rfl⟩) hl.1 ⟨Nat.zero_le _, Nat.zero_le _⟩ [] [0] 1 (by decide +kernel) rfl (Wn := w_X11_isVoter cB cI cJ a_this a_cards a_county a_holes a_text a_letter a_where a_rank a_value a_hour a_readLetter a_readWhere a_readRank a_readValue a_readHour a_listName a_listDay a_voterName a_voterDay a_voterCounty a_heaps a_speed a_four a_byRules a_hours a_rest a_yet a_put v_kept v_length v_items v_readItems v_at v_lists v_voters v_needed) rfl rfl rfl rfl rfl rfl rfl rfl (Nat.le_of_ble_eq_true rfl) dX11_isVoter_10 (fun H locs hP hD hS => ?_)
  exact hret _ _ _ _ _ _ dX11_isVoter_13 (wk_rt hf (fun z => wk_bI z)) rfl hP hD hS
