abbrev w_X9_length (cB cI cJ : ClassId) (a_this : Nat) (a_bytes : Nat) (a_numbers : Nat) (v_length : Int32) (v_behind : Int32) (v_kind : Int32) (v_county : Int32) (v_rank : Int32) (v_value : Int32) (v_hour : Int32) : va_W := [(a_this, .inr (9, [.ref a_bytes, .int v_length, .ref a_numbers, .int v_behind, .int v_kind, .int v_county, .int v_rank, .int v_value, .int v_hour]))]
theorem hd_X9_length : yX9_length.cls = RX9 ∧ yX9_length.cls ≠ "java/lang/invoke/MethodHandle" ∧ yX9_length.cls ≠ "java/lang/invoke/VarHandle" ∧ (parseMethodDescriptor yX9_length.desc).map (fun d => d.parameters.length) = some 0 := by decide +kernel
abbrev rm_X9_length : Room := { frames := 0, cells := 0, slots := 0, locals := 0 }
theorem in_X9_length_X9 : ∀ w ∈ wsX90, w ∈ wsX9_length := fun w h => List.mem_cons_of_mem _ (List.mem_append_right _ h)
set_option maxHeartbeats 4000000 in
set_option maxRecDepth 100000 in
theorem c_X9_length (l : Launch) (D : va_G) (cB cI cJ : ClassId) (N : Nat) (a_this : Nat) (a_bytes : Nat) (a_numbers : Nat) (v_length : Int32) (v_behind : Int32) (v_kind : Int32) (v_county : Int32) (v_rank : Int32) (v_value : Int32) (v_hour : Int32) {r : Int32} (hf : f_X9_length N v_length = some r) : MTi l yX9_length wsX9_length rm_X9_length D (wk_T cB cI cJ) [.ref a_this] (w_X9_length cB cI cJ a_this a_bytes a_numbers v_length v_behind v_kind v_county v_rank v_value v_hour) (w_X9_length cB cI cJ a_this a_bytes a_numbers v_length v_behind v_kind v_county v_rank v_value v_hour) r := by
  refine MTi.of (cc := cX9_length) (nL := 1) (rt := .int) (own := RX9) pn_X9 rfl rfl (Nat.le_of_ble_eq_true rfl) rfl ?_
  intro p e s m args below meth c A ls Q C hP hD hS hl hret
  obtain ⟨hx, hb, hml, hts, hown, hK, hN, hA, hlk⟩ := id C
  have hl : lv_has ls 1 [(0, .ref a_this)] := hl
  unfold f_X9_length at hf
  refine lv_aload_n hx hb dX9_length_0 rfl (lv_at hl 0 rfl) ?_
  refine va_get (D := D) (ci := 9) (v := .int v_length) (C := RX9) (T := TX9) (N := 9) hx hb hts in_X9_length_X9 hown hK hP 0 rfl rfl 1 (by decide) (hts (.fieldLink RX9 20 "HangingCards$Text" "length" "I") (List.mem_of_getElem? (i := 1) rfl)) (fun _ h9 => h9) rfl dX9_length_1 ?_
  exact hret _ _ _ _ _ _ dX9_length_4 (wk_rt hf (fun z => z)) rfl hP hD hS
abbrev w_X9_byteAt (cB cI cJ : ClassId) (a_this : Nat) (a_bytes : Nat) (a_numbers : Nat) (a_bytes_cells : Nat) (v_length : Int32) (v_behind : Int32) (v_kind : Int32) (v_county : Int32) (v_rank : Int32) (v_value : Int32) (v_hour : Int32) (v_bytes : Nat → Int32) : va_W := [(a_this, .inr (9, [.ref a_bytes, .int v_length, .ref a_numbers, .int v_behind, .int v_kind, .int v_county, .int v_rank, .int v_value, .int v_hour])), (a_bytes, .inr (6, [.ref a_bytes_cells])), (a_bytes_cells, .inl (cI, 200, .inl v_bytes))]
theorem hd_X9_byteAt : yX9_byteAt.cls = RX9 ∧ yX9_byteAt.cls ≠ "java/lang/invoke/MethodHandle" ∧ yX9_byteAt.cls ≠ "java/lang/invoke/VarHandle" ∧ (parseMethodDescriptor yX9_byteAt.desc).map (fun d => d.parameters.length) = some 1 := by decide +kernel
abbrev rm_X9_byteAt : Room := { frames := 1, cells := 0, slots := 0, locals := 21 }
theorem in_X9_byteAt_X9 : ∀ w ∈ wsX90, w ∈ wsX9_byteAt := fun w h => List.mem_cons_of_mem _ (List.mem_append_left _ (List.mem_append_right _ h))
set_option maxHeartbeats 4000000 in
set_option maxRecDepth 100000 in
theorem c_X9_byteAt (l : Launch) (D : va_G) (cB cI cJ : ClassId) (N : Nat) (a_this : Nat) (a_bytes : Nat) (a_numbers : Nat) (a_bytes_cells : Nat) (v_length : Int32) (v_behind : Int32) (v_kind : Int32) (v_county : Int32) (v_rank : Int32) (v_value : Int32) (v_hour : Int32) (v_bytes : Nat → Int32) (x1 : Int32) {r : Int32} (hf : f_X9_byteAt N v_length v_bytes x1 = some r) : MTi l yX9_byteAt wsX9_byteAt rm_X9_byteAt D (wk_T cB cI cJ) [.ref a_this, .int x1] (w_X9_byteAt cB cI cJ a_this a_bytes a_numbers a_bytes_cells v_length v_behind v_kind v_county v_rank v_value v_hour v_bytes) (w_X9_byteAt cB cI cJ a_this a_bytes a_numbers a_bytes_cells v_length v_behind v_kind v_county v_rank v_value v_hour v_bytes) r := by
  refine MTi.of (cc := cX9_byteAt) (nL := 2) (rt := .int) (own := RX9) pn_X9 rfl rfl (Nat.le_of_ble_eq_true rfl) rfl ?_
  intro p e s m args below meth c A ls Q C hP hD hS hl hret
  obtain ⟨hx, hb, hml, hts, hown, hK, hN, hA, hlk⟩ := id C
  have hl : lv_has ls 2 [(0, .ref a_this), (1, .int x1)] := hl
  unfold f_X9_byteAt at hf
  refine lv_iload_n hx hb dX9_byteAt_0 rfl (lv_at hl 1 rfl) ?_
  refine lv_aload_n hx hb dX9_byteAt_1 rfl (lv_at hl 0 rfl) ?_
  refine va_get (D := D) (ci := 9) (v := .int v_length) (C := RX9) (T := TX9) (N := 9) hx hb hts in_X9_byteAt_X9 hown hK hP 0 rfl rfl 1 (by decide) (hts (.fieldLink RX9 20 "HangingCards$Text" "length" "I") (List.mem_of_getElem? (i := 1) rfl)) (fun _ h9 => h9) rfl dX9_byteAt_2 ?_
  refine lv_icmp_ge (tgt := 19) hx hb dX9_byteAt_5 (by decide) (fun c1 => ?_) (fun c1 => ?_)
  · have hf := wk_itT hf c1
    refine lv_iconst (v := (-1 : Int32)) hx hb dX9_byteAt_19 (by decide) ?_
    exact hret _ _ _ _ _ _ dX9_byteAt_20 (wk_rt hf (fun z => z)) rfl hP hD hS
  · have hf := wk_itF hf c1
    refine lv_aload_n hx hb dX9_byteAt_8 rfl (lv_at hl 0 rfl) ?_
    refine va_get (D := D) (ci := 9) (v := .ref a_bytes) (C := RX9) (T := TX9) (N := 9) hx hb hts in_X9_byteAt_X9 hown hK hP 0 rfl rfl 0 (by decide) (hts (.fieldLink RX9 14 "HangingCards$Text" "bytes" "LHangingCards$Row;") (List.mem_of_getElem? (i := 2) rfl)) (fun _ h9 => h9) rfl dX9_byteAt_9 ?_
    refine lv_iload_n hx hb dX9_byteAt_12 rfl (lv_at hl 1 rfl) ?_
    obtain ⟨r2, hc2, hf⟩ := wk_b1E hf
    refine wk_callVi2 C hP hD hS (c_X6_get l D cB cI cJ N a_bytes a_bytes_cells 200 v_bytes x1 hc2) (cwV 1 hts gX9_byteAt_X6_get rfl rfl rfl hd_X6_get ⟨Nat.le_of_ble_eq_true rfl, Nat.le_of_ble_eq_true rfl⟩) hl.1 ⟨Nat.zero_le _, Nat.zero_le _⟩ [1, 2] [0] 3 (by decide +kernel) rfl (Wn := w_X9_byteAt cB cI cJ a_this a_bytes a_numbers a_bytes_cells v_length v_behind v_kind v_county v_rank v_value v_hour v_bytes) rfl rfl rfl rfl rfl rfl (ci := 6) rfl rfl (q0 := 1) rfl rfl rfl (Nat.le_of_ble_eq_true rfl) dX9_byteAt_13 (fun H locs hP hD hS => ?_)
    refine lv_goto (tgt := 20) hx hb dX9_byteAt_16 (by decide) ?_
    exact hret _ _ _ _ _ _ dX9_byteAt_20 (wk_rt hf (fun z => z)) rfl hP hD hS
abbrev w_X9_kindOf (cB cI cJ : ClassId) : va_W := []
theorem hd_X9_kindOf : yX9_kindOf.cls = RX9 ∧ yX9_kindOf.cls ≠ "java/lang/invoke/MethodHandle" ∧ yX9_kindOf.cls ≠ "java/lang/invoke/VarHandle" ∧ (parseMethodDescriptor yX9_kindOf.desc).map (fun d => d.parameters.length) = some 1 := by decide +kernel
abbrev rm_X9_kindOf : Room := { frames := 0, cells := 0, slots := 0, locals := 0 }
set_option maxHeartbeats 4000000 in
set_option maxRecDepth 100000 in
theorem c_X9_kindOf (l : Launch) (D : va_G) (cB cI cJ : ClassId) (N : Nat) (x0 : Int32) {r : Int32} (hf : f_X9_kindOf N x0 = some r) : MTi l yX9_kindOf wsX9_kindOf rm_X9_kindOf D (wk_T cB cI cJ) [.int x0] (w_X9_kindOf cB cI cJ) (w_X9_kindOf cB cI cJ) r := by
  refine MTi.of (cc := cX9_kindOf) (nL := 1) (rt := .int) (own := RX9) pn_X9 rfl rfl (Nat.le_of_ble_eq_true rfl) rfl ?_
  intro p e s m args below meth c A ls Q C hP hD hS hl hret
  obtain ⟨hx, hb, hml, hts, hown, hK, hN, hA, hlk⟩ := id C
  have hl : lv_has ls 1 [(0, .int x0)] := hl
  unfold f_X9_kindOf at hf
  refine lv_iload_n hx hb dX9_kindOf_0 rfl (lv_at hl 0 rfl) ?_
  by_cases c1 : x0 = (100 : Int32)
  · have hf := wk_itT hf c1
    refine lv_lookup (off := 45) (tgt := 46) hx hb dX9_kindOf_1 (by decide) (by rw [c1]; rfl) (by decide) ?_
    refine lv_iconst (v := (1 : Int32)) hx hb dX9_kindOf_46 (by decide) ?_
    exact hret _ _ _ _ _ _ dX9_kindOf_47 (wk_rt hf (fun z => z)) rfl hP hD hS
  have hf := wk_itF hf c1
  by_cases c2 : x0 = (109 : Int32)
  · have hf := wk_itT hf c2
    refine lv_lookup (off := 47) (tgt := 48) hx hb dX9_kindOf_1 (by decide) (by rw [c2]; rfl) (by decide) ?_
    refine lv_iconst (v := (2 : Int32)) hx hb dX9_kindOf_48 (by decide) ?_
    exact hret _ _ _ _ _ _ dX9_kindOf_49 (wk_rt hf (fun z => z)) rfl hP hD hS
  have hf := wk_itF hf c2
  by_cases c3 : x0 = (111 : Int32)
  · have hf := wk_itT hf c3
    refine lv_lookup (off := 49) (tgt := 50) hx hb dX9_kindOf_1 (by decide) (by rw [c3]; rfl) (by decide) ?_
    refine lv_iconst (v := (3 : Int32)) hx hb dX9_kindOf_50 (by decide) ?_
    exact hret _ _ _ _ _ _ dX9_kindOf_51 (wk_rt hf (fun z => z)) rfl hP hD hS
  have hf := wk_itF hf c3
  by_cases c4 : x0 = (118 : Int32)
  · have hf := wk_itT hf c4
    refine lv_lookup (off := 43) (tgt := 44) hx hb dX9_kindOf_1 (by decide) (by rw [c4]; rfl) (by decide) ?_
    refine lv_iconst (v := (0 : Int32)) hx hb dX9_kindOf_44 (by decide) ?_
    exact hret _ _ _ _ _ _ dX9_kindOf_45 (wk_rt hf (fun z => z)) rfl hP hD hS
  have hf := wk_itF hf c4
  refine lv_lookup (off := 51) (tgt := 52) hx hb dX9_kindOf_1 (by decide) ((lv_osw c1 rfl).trans ((lv_osw c2 rfl).trans ((lv_osw c3 rfl).trans ((lv_osw c4 rfl).trans rfl)))) (by decide) ?_
  refine lv_bipush (v := (-4 : Int32)) hx hb dX9_kindOf_52 (by decide) ?_
  exact hret _ _ _ _ _ _ dX9_kindOf_54 (wk_rt hf (fun z => z)) rfl hP hD hS
abbrev w_X9_numbersOf (cB cI cJ : ClassId) : va_W := []
theorem hd_X9_numbersOf : yX9_numbersOf.cls = RX9 ∧ yX9_numbersOf.cls ≠ "java/lang/invoke/MethodHandle" ∧ yX9_numbersOf.cls ≠ "java/lang/invoke/VarHandle" ∧ (parseMethodDescriptor yX9_numbersOf.desc).map (fun d => d.parameters.length) = some 1 := by decide +kernel
abbrev rm_X9_numbersOf : Room := { frames := 0, cells := 0, slots := 0, locals := 0 }
set_option maxHeartbeats 4000000 in
set_option maxRecDepth 100000 in
theorem c_X9_numbersOf (l : Launch) (D : va_G) (cB cI cJ : ClassId) (N : Nat) (x0 : Int32) {r : Int32} (hf : f_X9_numbersOf N x0 = some r) : MTi l yX9_numbersOf wsX9_numbersOf rm_X9_numbersOf D (wk_T cB cI cJ) [.int x0] (w_X9_numbersOf cB cI cJ) (w_X9_numbersOf cB cI cJ) r := by
  refine MTi.of (cc := cX9_numbersOf) (nL := 1) (rt := .int) (own := RX9) pn_X9 rfl rfl (Nat.le_of_ble_eq_true rfl) rfl ?_
  intro p e s m args below meth c A ls Q C hP hD hS hl hret
  obtain ⟨hx, hb, hml, hts, hown, hK, hN, hA, hlk⟩ := id C
  have hl : lv_has ls 1 [(0, .int x0)] := hl
  unfold f_X9_numbersOf at hf
  refine lv_iload_n hx hb dX9_numbersOf_0 rfl (lv_at hl 0 rfl) ?_
  by_cases c1 : x0 = (0 : Int32)
  · have hf := wk_itT hf c1
    refine lv_tableIn (off := 31) (tgt := 32) hx hb dX9_numbersOf_1 (by rw [c1]; decide) (by rw [c1]; decide) (by rw [c1]; rfl) (by decide) ?_
    refine lv_iconst (v := (3 : Int32)) hx hb dX9_numbersOf_32 (by decide) ?_
    exact hret _ _ _ _ _ _ dX9_numbersOf_33 (wk_rt hf (fun z => z)) rfl hP hD hS
  have hf := wk_itF hf c1
  by_cases c2 : x0 = (1 : Int32)
  · have hf := wk_itT hf c2
    refine lv_tableIn (off := 33) (tgt := 34) hx hb dX9_numbersOf_1 (by rw [c2]; decide) (by rw [c2]; decide) (by rw [c2]; rfl) (by decide) ?_
    refine lv_iconst (v := (3 : Int32)) hx hb dX9_numbersOf_34 (by decide) ?_
    exact hret _ _ _ _ _ _ dX9_numbersOf_35 (wk_rt hf (fun z => z)) rfl hP hD hS
  have hf := wk_itF hf c2
  by_cases c3 : x0 = (2 : Int32)
  · have hf := wk_itT hf c3
    refine lv_tableIn (off := 35) (tgt := 36) hx hb dX9_numbersOf_1 (by rw [c3]; decide) (by rw [c3]; decide) (by rw [c3]; rfl) (by decide) ?_
    refine lv_iconst (v := (2 : Int32)) hx hb dX9_numbersOf_36 (by decide) ?_
    exact hret _ _ _ _ _ _ dX9_numbersOf_37 (wk_rt hf (fun z => z)) rfl hP hD hS
  have hf := wk_itF hf c3
  by_cases c4 : x0 = (3 : Int32)
  · have hf := wk_itT hf c4
    refine lv_tableIn (off := 37) (tgt := 38) hx hb dX9_numbersOf_1 (by rw [c4]; decide) (by rw [c4]; decide) (by rw [c4]; rfl) (by decide) ?_
    refine lv_iconst (v := (4 : Int32)) hx hb dX9_numbersOf_38 (by decide) ?_
    exact hret _ _ _ _ _ _ dX9_numbersOf_39 (wk_rt hf (fun z => z)) rfl hP hD hS
  have hf := wk_itF hf c4
  have t1 := lv_neT (a := 0) c1 rfl
  have t2 := lv_neT (a := 1) c2 rfl
  have t3 := lv_neT (a := 2) c3 rfl
  have t4 := lv_neT (a := 3) c4 rfl
  refine lv_tableOut (tgt := 40) hx hb dX9_numbersOf_1 (by omega) (by decide) ?_
  refine lv_iconst (v := (0 : Int32)) hx hb dX9_numbersOf_40 (by decide) ?_
  exact hret _ _ _ _ _ _ dX9_numbersOf_41 (wk_rt hf (fun z => z)) rfl hP hD hS
abbrev w_X9_isFigure (cB cI cJ : ClassId) : va_W := []
theorem hd_X9_isFigure : yX9_isFigure.cls = RX9 ∧ yX9_isFigure.cls ≠ "java/lang/invoke/MethodHandle" ∧ yX9_isFigure.cls ≠ "java/lang/invoke/VarHandle" ∧ (parseMethodDescriptor yX9_isFigure.desc).map (fun d => d.parameters.length) = some 1 := by decide +kernel
abbrev rm_X9_isFigure : Room := { frames := 0, cells := 0, slots := 0, locals := 0 }
set_option maxHeartbeats 4000000 in
set_option maxRecDepth 100000 in
theorem c_X9_isFigure (l : Launch) (D : va_G) (cB cI cJ : ClassId) (N : Nat) (x0 : Int32) {r : Bool} (hf : f_X9_isFigure N x0 = some r) : MTi l yX9_isFigure wsX9_isFigure rm_X9_isFigure D (wk_T cB cI cJ) [.int x0] (w_X9_isFigure cB cI cJ) (w_X9_isFigure cB cI cJ) (wk_bI r) := by
  refine MTi.of (cc := cX9_isFigure) (nL := 1) (rt := .boolean) (own := RX9) pn_X9 rfl rfl (Nat.le_of_ble_eq_true rfl) (wk_nz r) ?_
  intro p e s m args below meth c A ls Q C hP hD hS hl hret
  obtain ⟨hx, hb, hml, hts, hown, hK, hN, hA, hlk⟩ := id C
  have hl : lv_has ls 1 [(0, .int x0)] := hl
  unfold f_X9_isFigure at hf
  refine lv_iload_n hx hb dX9_isFigure_0 rfl (lv_at hl 0 rfl) ?_
  refine lv_bipush (v := (48 : Int32)) hx hb dX9_isFigure_1 (by decide) ?_
  refine lv_icmp_lt (tgt := 16) hx hb dX9_isFigure_3 (by decide) (fun c1 => ?_) (fun c1 => ?_)
  · have hf := wk_itT hf c1
    refine lv_iconst (v := (0 : Int32)) hx hb dX9_isFigure_16 (by decide) ?_
    exact hret _ _ _ _ _ _ dX9_isFigure_17 (wk_rt hf (fun z => wk_bI z)) rfl hP hD hS
  · have hf := wk_itF hf c1
    refine lv_iload_n hx hb dX9_isFigure_6 rfl (lv_at hl 0 rfl) ?_
    refine lv_bipush (v := (57 : Int32)) hx hb dX9_isFigure_7 (by decide) ?_
    refine lv_icmp_gt (tgt := 16) hx hb dX9_isFigure_9 (by decide) (fun c2 => ?_) (fun c2 => ?_)
    · have hf := wk_itT hf c2
      refine lv_iconst (v := (0 : Int32)) hx hb dX9_isFigure_16 (by decide) ?_
      exact hret _ _ _ _ _ _ dX9_isFigure_17 (wk_rt hf (fun z => wk_bI z)) rfl hP hD hS
    · have hf := wk_itF hf c2
      refine lv_iconst (v := (1 : Int32)) hx hb dX9_isFigure_12 (by decide) ?_
      refine lv_goto (tgt := 17) hx hb dX9_isFigure_13 (by decide) ?_
      exact hret _ _ _ _ _ _ dX9_isFigure_17 (wk_rt hf (fun z => wk_bI z)) rfl hP hD hS
abbrev w_X9_readNumber (cB cI cJ : ClassId) (a_this : Nat) (a_bytes : Nat) (a_numbers : Nat) (a_bytes_cells : Nat) (a_numbers_cells : Nat) (v_length : Int32) (v_behind : Int32) (v_kind : Int32) (v_county : Int32) (v_rank : Int32) (v_value : Int32) (v_hour : Int32) (v_bytes : Nat → Int32) (v_numbers : Nat → Int32) : va_W := [(a_this, .inr (9, [.ref a_bytes, .int v_length, .ref a_numbers, .int v_behind, .int v_kind, .int v_county, .int v_rank, .int v_value, .int v_hour])), (a_bytes, .inr (6, [.ref a_bytes_cells])), (a_bytes_cells, .inl (cI, 200, .inl v_bytes)), (a_numbers, .inr (6, [.ref a_numbers_cells])), (a_numbers_cells, .inl (cI, 4, .inl v_numbers))]
theorem hd_X9_readNumber : yX9_readNumber.cls = RX9 ∧ yX9_readNumber.cls ≠ "java/lang/invoke/MethodHandle" ∧ yX9_readNumber.cls ≠ "java/lang/invoke/VarHandle" ∧ (parseMethodDescriptor yX9_readNumber.desc).map (fun d => d.parameters.length) = some 2 := by decide +kernel
abbrev rm_X9_readNumber : Room := { frames := 2, cells := 0, slots := 0, locals := 42 }
theorem in_X9_readNumber_X9 : ∀ w ∈ wsX90, w ∈ wsX9_readNumber := fun w h => List.mem_cons_of_mem _ (List.mem_append_left _ (List.mem_append_right _ h))
set_option maxHeartbeats 4000000 in
set_option maxRecDepth 100000 in
theorem c_X9_readNumber (l : Launch) (D : va_G) (cB cI cJ : ClassId) (N : Nat) (a_this : Nat) (a_bytes : Nat) (a_numbers : Nat) (a_bytes_cells : Nat) (a_numbers_cells : Nat) (v_length : Int32) (v_behind : Int32) (v_kind : Int32) (v_county : Int32) (v_rank : Int32) (v_value : Int32) (v_hour : Int32) (v_bytes : Nat → Int32) (v_numbers : Nat → Int32) (x1 : Int32) (x2 : Int32) {r : Int32} {o_numbers : Nat → Int32} (hf : f_X9_readNumber N v_length v_bytes v_numbers x1 x2 = some (r, o_numbers)) : MTi l yX9_readNumber wsX9_readNumber rm_X9_readNumber D (wk_T cB cI cJ) [.ref a_this, .int x1, .int x2] (w_X9_readNumber cB cI cJ a_this a_bytes a_numbers a_bytes_cells a_numbers_cells v_length v_behind v_kind v_county v_rank v_value v_hour v_bytes v_numbers) (w_X9_readNumber cB cI cJ a_this a_bytes a_numbers a_bytes_cells a_numbers_cells v_length v_behind v_kind v_county v_rank v_value v_hour v_bytes o_numbers) r := by
  refine MTi.of (cc := cX9_readNumber) (nL := 5) (rt := .int) (own := RX9) pn_X9 rfl rfl (Nat.le_of_ble_eq_true rfl) rfl ?_
  intro p e s m args below meth c A ls Q C hP hD hS hl hret
  obtain ⟨hx, hb, hml, hts, hown, hK, hN, hA, hlk⟩ := id C
  have hl : lv_has ls 5 [(0, .ref a_this), (1, .int x1), (2, .int x2)] := hl
  have J47 : ∀ (v_numbers : Nat → Int32) (x2 : Int32) (x3 : Int32) (x4 : Int32), B_X9_readNumber_47 N v_length v_bytes v_numbers x2 x3 x4 = some (r, o_numbers) → ∀ (H : Heap) (locs : List Loc) (ls : Array Slot), va_P D vwCl (w_X9_readNumber cB cI cJ a_this a_bytes a_numbers a_bytes_cells a_numbers_cells v_length v_behind v_kind v_county v_rank v_value v_hour v_bytes v_numbers) H → va_D A (w_X9_readNumber cB cI cJ a_this a_bytes a_numbers a_bytes_cells a_numbers_cells v_length v_behind v_kind v_county v_rank v_value v_hour v_bytes v_numbers) → va_S A s.heap H locs → lv_has ls 5 [(0, .ref a_this), (2, .int x2), (3, .int x3), (4, .int x4)] → W p l e rm_X9_readNumber s m args below meth c H locs 0 0 Q (F0 m 47 ls []) := by
    intro v_numbers x2 x3 x4 hf H locs ls hP hD hS hl
    unfold B_X9_readNumber_47 at hf
    refine lv_aload_n hx hb dX9_readNumber_47 rfl (lv_at hl 0 rfl) ?_
    refine va_get (D := D) (ci := 9) (v := .ref a_numbers) (C := RX9) (T := TX9) (N := 9) hx hb hts in_X9_readNumber_X9 hown hK hP 0 rfl rfl 2 (by decide) (hts (.fieldLink RX9 24 "HangingCards$Text" "numbers" "LHangingCards$Row;") (List.mem_of_getElem? (i := 1) rfl)) (fun _ h9 => h9) rfl dX9_readNumber_48 ?_
    refine lv_iload_n hx hb dX9_readNumber_51 rfl (lv_at hl 1 rfl) ?_
    refine lv_iload hx hb dX9_readNumber_52 (lv_at hl 3 rfl) ?_
    obtain ⟨o1_0, hc1, hf⟩ := wk_b1E hf
    refine wk_callVv2 C hP hD hS (c_X6_set l D cB cI cJ N a_numbers a_numbers_cells 4 v_numbers x2 x4 hc1) (cwV 2 hts gX9_readNumber_X6_set rfl rfl rfl hd_X6_set ⟨Nat.le_of_ble_eq_true rfl, Nat.le_of_ble_eq_true rfl⟩) hl.1 ⟨Nat.zero_le _, Nat.zero_le _⟩ [3, 4] [0, 1, 2] 5 (by decide +kernel) rfl (Wn := w_X9_readNumber cB cI cJ a_this a_bytes a_numbers a_bytes_cells a_numbers_cells v_length v_behind v_kind v_county v_rank v_value v_hour v_bytes o1_0) rfl rfl rfl rfl rfl rfl (ci := 6) rfl rfl (q0 := 3) rfl rfl rfl (Nat.le_of_ble_eq_true rfl) dX9_readNumber_54 (fun H locs hP hD hS => ?_)
    refine lv_iload_n hx hb dX9_readNumber_57 rfl (lv_at hl 2 rfl) ?_
    exact hret _ _ _ _ _ _ dX9_readNumber_58 (wk_rt hf (fun z => z.1)) (wk_rt hf (fun z => w_X9_readNumber cB cI cJ a_this a_bytes a_numbers a_bytes_cells a_numbers_cells v_length v_behind v_kind v_county v_rank v_value v_hour v_bytes (z.2))) hP hD hS
  have L5 := wk_loopI (F := (fun k5 : (Nat → Int32) → Int32 → Int32 → Int32 → Int32 → Option (Int32 × (Nat → Int32)) => B_X9_readNumber_5 N v_length v_bytes k5)) (bot := fun _ _ _ _ _ => none) (fun k5 : (Nat → Int32) → Int32 → Int32 → Int32 → Int32 → Option (Int32 × (Nat → Int32)) => ∀ (v_numbers : Nat → Int32) (x1 : Int32) (x2 : Int32) (x3 : Int32) (x4 : Int32), k5 v_numbers x1 x2 x3 x4 = some (r, o_numbers) → ∀ (H : Heap) (locs : List Loc) (ls : Array Slot), va_P D vwCl (w_X9_readNumber cB cI cJ a_this a_bytes a_numbers a_bytes_cells a_numbers_cells v_length v_behind v_kind v_county v_rank v_value v_hour v_bytes v_numbers) H → va_D A (w_X9_readNumber cB cI cJ a_this a_bytes a_numbers a_bytes_cells a_numbers_cells v_length v_behind v_kind v_county v_rank v_value v_hour v_bytes v_numbers) → va_S A s.heap H locs → lv_has ls 5 [(0, .ref a_this), (1, .int x1), (2, .int x2), (3, .int x3), (4, .int x4)] → W p l e rm_X9_readNumber s m args below meth c H locs 0 0 Q (F0 m 5 ls [])) (by intro v_numbers x1 x2 x3 x4 hf; exact wk_no hf) (by
    intro k5 ih5
    intro v_numbers x1 x2 x3 x4 hf H locs ls hP hD hS hl
    have hf : B_X9_readNumber_5 N v_length v_bytes k5 v_numbers x1 x2 x3 x4 = some (r, o_numbers) := hf
    unfold B_X9_readNumber_5 at hf
    refine lv_iload_n hx hb dX9_readNumber_5 rfl (lv_at hl 3 rfl) ?_
    refine lv_iconst (v := (3 : Int32)) hx hb dX9_readNumber_6 (by decide) ?_
    refine lv_icmp_ge (tgt := 47) hx hb dX9_readNumber_7 (by decide) (fun c2 => ?_) (fun c2 => ?_)
    · have hf := wk_itT hf c2
      exact J47 _ _ _ _ hf _ _ _ hP hD hS (lv_sub hl [0, 2, 3, 4] rfl)
    · have hf := wk_itF hf c2
      refine lv_aload_n hx hb dX9_readNumber_10 rfl (lv_at hl 0 rfl) ?_
      refine lv_iload_n hx hb dX9_readNumber_11 rfl (lv_at hl 1 rfl) ?_
      refine lv_iload_n hx hb dX9_readNumber_12 rfl (lv_at hl 3 rfl) ?_
      refine lv_iadd hx hb dX9_readNumber_13 ?_
      obtain ⟨r3, hc3, hf⟩ := wk_b1E hf
      refine wk_callVi2 C hP hD hS (c_X9_byteAt l D cB cI cJ N a_this a_bytes a_numbers a_bytes_cells v_length v_behind v_kind v_county v_rank v_value v_hour v_bytes (x1 + x3) hc3) (cwV 1 hts gX9_readNumber_X9_byteAt rfl rfl rfl hd_X9_byteAt ⟨Nat.le_of_ble_eq_true rfl, Nat.le_of_ble_eq_true rfl⟩) hl.1 ⟨Nat.zero_le _, Nat.zero_le _⟩ [0, 1, 2] [3, 4] 5 (by decide +kernel) rfl (Wn := w_X9_readNumber cB cI cJ a_this a_bytes a_numbers a_bytes_cells a_numbers_cells v_length v_behind v_kind v_county v_rank v_value v_hour v_bytes v_numbers) rfl rfl rfl rfl rfl rfl (ci := 9) rfl rfl (q0 := 0) rfl rfl rfl (Nat.le_of_ble_eq_true rfl) dX9_readNumber_14 (fun H locs hP hD hS => ?_)
      obtain ⟨r4, hc4, hf⟩ := wk_b1E hf
      refine wk_callSi2 C hP hD hS (c_X9_isFigure l D cB cI cJ N r3 hc4) (va_cwS 1 hts gX9_readNumber_X9_isFigure rfl rfl rfl hd_X9_isFigure.2 ⟨Nat.le_of_ble_eq_true rfl, Nat.le_of_ble_eq_true rfl⟩) hl.1 ⟨Nat.zero_le _, Nat.zero_le _⟩ [] [0, 1, 2, 3, 4] 5 (by decide +kernel) rfl (Wn := w_X9_readNumber cB cI cJ a_this a_bytes a_numbers a_bytes_cells a_numbers_cells v_length v_behind v_kind v_county v_rank v_value v_hour v_bytes v_numbers) rfl rfl rfl rfl rfl rfl rfl rfl (Nat.le_of_ble_eq_true rfl) dX9_readNumber_17 (fun H locs hP hD hS => ?_)
      refine lv_if_eq (tgt := 47) hx hb dX9_readNumber_20 (by decide) (fun c5 => ?_) (fun c5 => ?_)
      · have hf := wk_itT hf c5
        exact J47 _ _ _ _ hf _ _ _ hP hD hS (lv_sub hl [0, 2, 3, 4] rfl)
      · have hf := wk_itF hf c5
        refine lv_iload hx hb dX9_readNumber_23 (lv_at hl 4 rfl) ?_
        refine lv_bipush (v := (10 : Int32)) hx hb dX9_readNumber_25 (by decide) ?_
        refine lv_imul hx hb dX9_readNumber_27 ?_
        refine lv_aload_n hx hb dX9_readNumber_28 rfl (lv_at hl 0 rfl) ?_
        refine lv_iload_n hx hb dX9_readNumber_29 rfl (lv_at hl 1 rfl) ?_
        refine lv_iload_n hx hb dX9_readNumber_30 rfl (lv_at hl 3 rfl) ?_
        refine lv_iadd hx hb dX9_readNumber_31 ?_
        obtain ⟨r6, hc6, hf⟩ := wk_b1E hf
        refine wk_callVi2 C hP hD hS (c_X9_byteAt l D cB cI cJ N a_this a_bytes a_numbers a_bytes_cells v_length v_behind v_kind v_county v_rank v_value v_hour v_bytes (x1 + x3) hc6) (cwV 1 hts gX9_readNumber_X9_byteAt rfl rfl rfl hd_X9_byteAt ⟨Nat.le_of_ble_eq_true rfl, Nat.le_of_ble_eq_true rfl⟩) hl.1 ⟨Nat.zero_le _, Nat.zero_le _⟩ [0, 1, 2] [3, 4] 5 (by decide +kernel) rfl (Wn := w_X9_readNumber cB cI cJ a_this a_bytes a_numbers a_bytes_cells a_numbers_cells v_length v_behind v_kind v_county v_rank v_value v_hour v_bytes v_numbers) rfl rfl rfl rfl rfl rfl (ci := 9) rfl rfl (q0 := 0) rfl rfl rfl (Nat.le_of_ble_eq_true rfl) dX9_readNumber_32 (fun H locs hP hD hS => ?_)
        refine lv_iadd hx hb dX9_readNumber_35 ?_
        refine lv_bipush (v := (48 : Int32)) hx hb dX9_readNumber_36 (by decide) ?_
        refine lv_isub hx hb dX9_readNumber_38 ?_
        refine lv_topi (fun y7 ey7 => ?_)
        have hf := wk_nmE hf ey7
        refine lv_istore (lv' := [(4, .int y7), (0, .ref a_this), (1, .int x1), (2, .int x2), (3, .int x3)]) hx hb dX9_readNumber_39 hl (by decide) rfl (fun ls hl => ?_)
        obtain ⟨y8, ey8⟩ : ∃ y : Int32, y = x3 + (1 : Int32) := ⟨_, rfl⟩
        have hf := wk_nmE hf ey8
        refine lv_iinc (v := y8) (lv' := [(3, .int y8), (4, .int y7), (0, .ref a_this), (1, .int x1), (2, .int x2)]) hx hb dX9_readNumber_41 hl (k := 4) rfl (by rw [ey8]; rfl) (by decide) rfl (fun ls hl => ?_)
        refine lv_goto (tgt := 5) hx hb dX9_readNumber_44 (by decide) ?_
        exact ih5 _ _ _ _ _ hf _ _ _ hP hD hS (lv_sub hl [2, 3, 4, 0, 1] rfl))
  unfold f_X9_readNumber at hf
  refine lv_iconst (v := (0 : Int32)) hx hb dX9_readNumber_0 (by decide) ?_
  refine lv_istore_n (lv' := [(3, .int (0 : Int32)), (0, .ref a_this), (1, .int x1), (2, .int x2)]) hx hb dX9_readNumber_1 rfl hl (by decide) rfl (fun ls hl => ?_)
  refine lv_iconst (v := (0 : Int32)) hx hb dX9_readNumber_2 (by decide) ?_
  refine lv_istore (lv' := [(4, .int (0 : Int32)), (3, .int (0 : Int32)), (0, .ref a_this), (1, .int x1), (2, .int x2)]) hx hb dX9_readNumber_3 hl (by decide) rfl (fun ls hl => ?_)
  exact L5 N _ _ _ _ _ hf _ _ _ hP hD hS (lv_sub hl [2, 3, 4, 1, 0] rfl)
abbrev w_X9_tellNumbers (cB cI cJ : ClassId) (a_this : Nat) (a_bytes : Nat) (a_numbers : Nat) (a_numbers_cells : Nat) (v_length : Int32) (v_behind : Int32) (v_kind : Int32) (v_county : Int32) (v_rank : Int32) (v_value : Int32) (v_hour : Int32) (v_numbers : Nat → Int32) : va_W := [(a_this, .inr (9, [.ref a_bytes, .int v_length, .ref a_numbers, .int v_behind, .int v_kind, .int v_county, .int v_rank, .int v_value, .int v_hour])), (a_numbers, .inr (6, [.ref a_numbers_cells])), (a_numbers_cells, .inl (cI, 4, .inl v_numbers))]
theorem hd_X9_tellNumbers : yX9_tellNumbers.cls = RX9 ∧ yX9_tellNumbers.cls ≠ "java/lang/invoke/MethodHandle" ∧ yX9_tellNumbers.cls ≠ "java/lang/invoke/VarHandle" ∧ (parseMethodDescriptor yX9_tellNumbers.desc).map (fun d => d.parameters.length) = some 0 := by decide +kernel
abbrev rm_X9_tellNumbers : Room := { frames := 1, cells := 0, slots := 0, locals := 21 }
theorem in_X9_tellNumbers_X9 : ∀ w ∈ wsX90, w ∈ wsX9_tellNumbers := fun w h => List.mem_cons_of_mem _ (List.mem_append_left _ (List.mem_append_right _ h))
set_option maxHeartbeats 4000000 in
set_option maxRecDepth 100000 in
theorem c_X9_tellNumbers (l : Launch) (D : va_G) (cB cI cJ : ClassId) (N : Nat) (a_this : Nat) (a_bytes : Nat) (a_numbers : Nat) (a_numbers_cells : Nat) (v_length : Int32) (v_behind : Int32) (v_kind : Int32) (v_county : Int32) (v_rank : Int32) (v_value : Int32) (v_hour : Int32) (v_numbers : Nat → Int32) {o_county : Int32} {o_rank : Int32} {o_value : Int32} {o_hour : Int32} (hf : f_X9_tellNumbers N v_kind v_numbers v_county v_rank v_value v_hour = some (o_county, o_rank, o_value, o_hour)) : MTv l yX9_tellNumbers wsX9_tellNumbers rm_X9_tellNumbers D (wk_T cB cI cJ) [.ref a_this] (w_X9_tellNumbers cB cI cJ a_this a_bytes a_numbers a_numbers_cells v_length v_behind v_kind v_county v_rank v_value v_hour v_numbers) (w_X9_tellNumbers cB cI cJ a_this a_bytes a_numbers a_numbers_cells v_length v_behind v_kind o_county o_rank o_value o_hour v_numbers) := by
  refine MTv.of (cc := cX9_tellNumbers) (nL := 3) (own := RX9) pn_X9 rfl rfl (Nat.le_of_ble_eq_true rfl) ?_
  intro p e s m args below meth c A ls Q C hP hD hS hl hret
  obtain ⟨hx, hb, hml, hts, hown, hK, hN, hA, hlk⟩ := id C
  have hl : lv_has ls 3 [(0, .ref a_this)] := hl
  have J90 : ∀ (v_county : Int32) (v_rank : Int32) (v_value : Int32) (v_hour : Int32) (s2 : Int32), B_X9_tellNumbers_90 N v_kind v_numbers v_county v_rank v_value v_hour s2 = some (o_county, o_rank, o_value, o_hour) → ∀ (H : Heap) (locs : List Loc) (ls : Array Slot), va_P D vwCl (w_X9_tellNumbers cB cI cJ a_this a_bytes a_numbers a_numbers_cells v_length v_behind v_kind v_county v_rank v_value v_hour v_numbers) H → va_D A (w_X9_tellNumbers cB cI cJ a_this a_bytes a_numbers a_numbers_cells v_length v_behind v_kind v_county v_rank v_value v_hour v_numbers) → va_S A s.heap H locs → lv_has ls 3 [(0, .ref a_this)] → W p l e rm_X9_tellNumbers s m args below meth c H locs 0 0 Q (F0 m 90 ls [.int s2, .ref a_numbers, .ref a_this]) := by
    intro v_county v_rank v_value v_hour s2 hf H locs ls hP hD hS hl
    unfold B_X9_tellNumbers_90 at hf
    obtain ⟨r1, hc1, hf⟩ := wk_b1E hf
    refine wk_callVi2 C hP hD hS (c_X6_get l D cB cI cJ N a_numbers a_numbers_cells 4 v_numbers s2 hc1) (cwV 1 hts gX9_tellNumbers_X6_get rfl rfl rfl hd_X6_get ⟨Nat.le_of_ble_eq_true rfl, Nat.le_of_ble_eq_true rfl⟩) hl.1 ⟨Nat.zero_le _, Nat.zero_le _⟩ [1, 2] [0] 3 (by decide +kernel) rfl (Wn := w_X9_tellNumbers cB cI cJ a_this a_bytes a_numbers a_numbers_cells v_length v_behind v_kind v_county v_rank v_value v_hour v_numbers) rfl rfl rfl rfl rfl rfl (ci := 6) rfl rfl (q0 := 1) rfl rfl rfl (Nat.le_of_ble_eq_true rfl) dX9_tellNumbers_90 (fun H locs hP hD hS => ?_)
    refine va_put (D := D) (ci := 9) (v := .int r1) (ty := .int) (C := RX9) (T := TX9) (N := 9) hx hb hts in_X9_tellNumbers_X9 tyX9 tyX9_ok nmX9 hown hK hP hD hS 0 rfl rfl 7 (by decide) (hts (.fieldLink RX9 39 "HangingCards$Text" "value" "I") (List.mem_of_getElem? (i := 5) rfl)) (fun _ h9 => h9) rfl (by decide +kernel) rfl rfl (Nat.le_of_ble_eq_true rfl) dX9_tellNumbers_93 (fun H locs hP hD hS => ?_)
    have hP : va_P D vwCl (w_X9_tellNumbers cB cI cJ a_this a_bytes a_numbers a_numbers_cells v_length v_behind v_kind v_county v_rank r1 v_hour v_numbers) H := hP
    have hD : va_D A (w_X9_tellNumbers cB cI cJ a_this a_bytes a_numbers a_numbers_cells v_length v_behind v_kind v_county v_rank r1 v_hour v_numbers) := hD
    refine lv_aload_n hx hb dX9_tellNumbers_96 rfl (lv_at hl 0 rfl) ?_
    refine lv_aload_n hx hb dX9_tellNumbers_97 rfl (lv_at hl 0 rfl) ?_
    refine va_get (D := D) (ci := 9) (v := .ref a_numbers) (C := RX9) (T := TX9) (N := 9) hx hb hts in_X9_tellNumbers_X9 hown hK hP 0 rfl rfl 2 (by decide) (hts (.fieldLink RX9 24 "HangingCards$Text" "numbers" "LHangingCards$Row;") (List.mem_of_getElem? (i := 2) rfl)) (fun _ h9 => h9) rfl dX9_tellNumbers_98 ?_
    refine lv_aload_n hx hb dX9_tellNumbers_101 rfl (lv_at hl 0 rfl) ?_
    refine va_get (D := D) (ci := 9) (v := .int v_kind) (C := RX9) (T := TX9) (N := 9) hx hb hts in_X9_tellNumbers_X9 hown hK hP 0 rfl rfl 4 (by decide) (hts (.fieldLink RX9 30 "HangingCards$Text" "kind" "I") (List.mem_of_getElem? (i := 1) rfl)) (fun _ h9 => h9) rfl dX9_tellNumbers_102 ?_
    obtain ⟨r2, hc2, hf⟩ := wk_b1E hf
    refine wk_callSi2 C hP hD hS (c_X9_numbersOf l D cB cI cJ N v_kind hc2) (va_cwS 1 hts gX9_tellNumbers_X9_numbersOf rfl rfl rfl hd_X9_numbersOf.2 ⟨Nat.le_of_ble_eq_true rfl, Nat.le_of_ble_eq_true rfl⟩) hl.1 ⟨Nat.zero_le _, Nat.zero_le _⟩ [] [0, 1, 2] 3 (by decide +kernel) rfl (Wn := w_X9_tellNumbers cB cI cJ a_this a_bytes a_numbers a_numbers_cells v_length v_behind v_kind v_county v_rank r1 v_hour v_numbers) rfl rfl rfl rfl rfl rfl rfl rfl (Nat.le_of_ble_eq_true rfl) dX9_tellNumbers_105 (fun H locs hP hD hS => ?_)
    refine lv_iconst (v := (1 : Int32)) hx hb dX9_tellNumbers_108 (by decide) ?_
    refine lv_isub hx hb dX9_tellNumbers_109 ?_
    obtain ⟨r3, hc3, hf⟩ := wk_b1E hf
    refine wk_callVi2 C hP hD hS (c_X6_get l D cB cI cJ N a_numbers a_numbers_cells 4 v_numbers (r2 - (1 : Int32)) hc3) (cwV 1 hts gX9_tellNumbers_X6_get rfl rfl rfl hd_X6_get ⟨Nat.le_of_ble_eq_true rfl, Nat.le_of_ble_eq_true rfl⟩) hl.1 ⟨Nat.zero_le _, Nat.zero_le _⟩ [1, 2] [0] 3 (by decide +kernel) rfl (Wn := w_X9_tellNumbers cB cI cJ a_this a_bytes a_numbers a_numbers_cells v_length v_behind v_kind v_county v_rank r1 v_hour v_numbers) rfl rfl rfl rfl rfl rfl (ci := 6) rfl rfl (q0 := 1) rfl rfl rfl (Nat.le_of_ble_eq_true rfl) dX9_tellNumbers_110 (fun H locs hP hD hS => ?_)
    refine va_put (D := D) (ci := 9) (v := .int r3) (ty := .int) (C := RX9) (T := TX9) (N := 9) hx hb hts in_X9_tellNumbers_X9 tyX9 tyX9_ok nmX9 hown hK hP hD hS 0 rfl rfl 8 (by decide) (hts (.fieldLink RX9 42 "HangingCards$Text" "hour" "I") (List.mem_of_getElem? (i := 6) rfl)) (fun _ h9 => h9) rfl (by decide +kernel) rfl rfl (Nat.le_of_ble_eq_true rfl) dX9_tellNumbers_113 (fun H locs hP hD hS => ?_)
    have hP : va_P D vwCl (w_X9_tellNumbers cB cI cJ a_this a_bytes a_numbers a_numbers_cells v_length v_behind v_kind v_county v_rank r1 r3 v_numbers) H := hP
    have hD : va_D A (w_X9_tellNumbers cB cI cJ a_this a_bytes a_numbers a_numbers_cells v_length v_behind v_kind v_county v_rank r1 r3 v_numbers) := hD
    exact hret _ _ _ _ _ dX9_tellNumbers_116 (wk_rt hf (fun z => w_X9_tellNumbers cB cI cJ a_this a_bytes a_numbers a_numbers_cells v_length v_behind v_kind (z.1) (z.2.1) (z.2.2.1) (z.2.2.2) v_numbers)) hP hD hS
  have J65 : ∀ (v_county : Int32) (v_rank : Int32) (v_value : Int32) (v_hour : Int32) (x1 : Int32) (x2 : Int32) (s1 : Int32), B_X9_tellNumbers_65 N v_kind v_numbers v_county v_rank v_value v_hour x1 x2 s1 = some (o_county, o_rank, o_value, o_hour) → ∀ (H : Heap) (locs : List Loc) (ls : Array Slot), va_P D vwCl (w_X9_tellNumbers cB cI cJ a_this a_bytes a_numbers a_numbers_cells v_length v_behind v_kind v_county v_rank v_value v_hour v_numbers) H → va_D A (w_X9_tellNumbers cB cI cJ a_this a_bytes a_numbers a_numbers_cells v_length v_behind v_kind v_county v_rank v_value v_hour v_numbers) → va_S A s.heap H locs → lv_has ls 3 [(0, .ref a_this), (1, .int x1), (2, .int x2)] → W p l e rm_X9_tellNumbers s m args below meth c H locs 0 0 Q (F0 m 65 ls [.int s1, .ref a_this]) := by
    intro v_county v_rank v_value v_hour x1 x2 s1 hf H locs ls hP hD hS hl
    unfold B_X9_tellNumbers_65 at hf
    refine va_put (D := D) (ci := 9) (v := .int s1) (ty := .int) (C := RX9) (T := TX9) (N := 9) hx hb hts in_X9_tellNumbers_X9 tyX9 tyX9_ok nmX9 hown hK hP hD hS 0 rfl rfl 6 (by decide) (hts (.fieldLink RX9 36 "HangingCards$Text" "rank" "I") (List.mem_of_getElem? (i := 4) rfl)) (fun _ h9 => h9) rfl (by decide +kernel) rfl rfl (Nat.le_of_ble_eq_true rfl) dX9_tellNumbers_65 (fun H locs hP hD hS => ?_)
    have hP : va_P D vwCl (w_X9_tellNumbers cB cI cJ a_this a_bytes a_numbers a_numbers_cells v_length v_behind v_kind v_county s1 v_value v_hour v_numbers) H := hP
    have hD : va_D A (w_X9_tellNumbers cB cI cJ a_this a_bytes a_numbers a_numbers_cells v_length v_behind v_kind v_county s1 v_value v_hour v_numbers) := hD
    refine lv_aload_n hx hb dX9_tellNumbers_68 rfl (lv_at hl 0 rfl) ?_
    refine lv_aload_n hx hb dX9_tellNumbers_69 rfl (lv_at hl 0 rfl) ?_
    refine va_get (D := D) (ci := 9) (v := .ref a_numbers) (C := RX9) (T := TX9) (N := 9) hx hb hts in_X9_tellNumbers_X9 hown hK hP 0 rfl rfl 2 (by decide) (hts (.fieldLink RX9 24 "HangingCards$Text" "numbers" "LHangingCards$Row;") (List.mem_of_getElem? (i := 2) rfl)) (fun _ h9 => h9) rfl dX9_tellNumbers_70 ?_
    refine lv_iload_n hx hb dX9_tellNumbers_73 rfl (lv_at hl 1 rfl) ?_
    refine lv_if_eq (tgt := 81) hx hb dX9_tellNumbers_74 (by decide) (fun c4 => ?_) (fun c4 => ?_)
    · have hf := wk_itT hf c4
      refine lv_iload_n hx hb dX9_tellNumbers_81 rfl (lv_at hl 2 rfl) ?_
      refine lv_if_eq (tgt := 89) hx hb dX9_tellNumbers_82 (by decide) (fun c5 => ?_) (fun c5 => ?_)
      · have hf := wk_itT hf c5
        refine lv_iconst (v := (1 : Int32)) hx hb dX9_tellNumbers_89 (by decide) ?_
        exact J90 _ _ _ _ _ hf _ _ _ hP hD hS (lv_sub hl [0] rfl)
      · have hf := wk_itF hf c5
        refine lv_iconst (v := (2 : Int32)) hx hb dX9_tellNumbers_85 (by decide) ?_
        refine lv_goto (tgt := 90) hx hb dX9_tellNumbers_86 (by decide) ?_
        exact J90 _ _ _ _ _ hf _ _ _ hP hD hS (lv_sub hl [0] rfl)
    · have hf := wk_itF hf c4
      refine lv_iconst (v := (0 : Int32)) hx hb dX9_tellNumbers_77 (by decide) ?_
      refine lv_goto (tgt := 90) hx hb dX9_tellNumbers_78 (by decide) ?_
      exact J90 _ _ _ _ _ hf _ _ _ hP hD hS (lv_sub hl [0] rfl)
  have J45 : ∀ (v_county : Int32) (v_rank : Int32) (v_value : Int32) (v_hour : Int32) (x1 : Int32) (x2 : Int32) (s1 : Int32), B_X9_tellNumbers_45 N v_kind v_numbers v_county v_rank v_value v_hour x1 x2 s1 = some (o_county, o_rank, o_value, o_hour) → ∀ (H : Heap) (locs : List Loc) (ls : Array Slot), va_P D vwCl (w_X9_tellNumbers cB cI cJ a_this a_bytes a_numbers a_numbers_cells v_length v_behind v_kind v_county v_rank v_value v_hour v_numbers) H → va_D A (w_X9_tellNumbers cB cI cJ a_this a_bytes a_numbers a_numbers_cells v_length v_behind v_kind v_county v_rank v_value v_hour v_numbers) → va_S A s.heap H locs → lv_has ls 3 [(0, .ref a_this), (1, .int x1), (2, .int x2)] → W p l e rm_X9_tellNumbers s m args below meth c H locs 0 0 Q (F0 m 45 ls [.int s1, .ref a_this]) := by
    intro v_county v_rank v_value v_hour x1 x2 s1 hf H locs ls hP hD hS hl
    unfold B_X9_tellNumbers_45 at hf
    refine va_put (D := D) (ci := 9) (v := .int s1) (ty := .int) (C := RX9) (T := TX9) (N := 9) hx hb hts in_X9_tellNumbers_X9 tyX9 tyX9_ok nmX9 hown hK hP hD hS 0 rfl rfl 5 (by decide) (hts (.fieldLink RX9 33 "HangingCards$Text" "county" "I") (List.mem_of_getElem? (i := 3) rfl)) (fun _ h9 => h9) rfl (by decide +kernel) rfl rfl (Nat.le_of_ble_eq_true rfl) dX9_tellNumbers_45 (fun H locs hP hD hS => ?_)
    have hP : va_P D vwCl (w_X9_tellNumbers cB cI cJ a_this a_bytes a_numbers a_numbers_cells v_length v_behind v_kind s1 v_rank v_value v_hour v_numbers) H := hP
    have hD : va_D A (w_X9_tellNumbers cB cI cJ a_this a_bytes a_numbers a_numbers_cells v_length v_behind v_kind s1 v_rank v_value v_hour v_numbers) := hD
    refine lv_aload_n hx hb dX9_tellNumbers_48 rfl (lv_at hl 0 rfl) ?_
    refine lv_iload_n hx hb dX9_tellNumbers_49 rfl (lv_at hl 2 rfl) ?_
    refine lv_if_eq (tgt := 64) hx hb dX9_tellNumbers_50 (by decide) (fun c6 => ?_) (fun c6 => ?_)
    · have hf := wk_itT hf c6
      refine lv_iconst (v := (0 : Int32)) hx hb dX9_tellNumbers_64 (by decide) ?_
      exact J65 _ _ _ _ _ _ _ hf _ _ _ hP hD hS (lv_sub hl [0, 1, 2] rfl)
    · have hf := wk_itF hf c6
      refine lv_aload_n hx hb dX9_tellNumbers_53 rfl (lv_at hl 0 rfl) ?_
      refine va_get (D := D) (ci := 9) (v := .ref a_numbers) (C := RX9) (T := TX9) (N := 9) hx hb hts in_X9_tellNumbers_X9 hown hK hP 0 rfl rfl 2 (by decide) (hts (.fieldLink RX9 24 "HangingCards$Text" "numbers" "LHangingCards$Row;") (List.mem_of_getElem? (i := 2) rfl)) (fun _ h9 => h9) rfl dX9_tellNumbers_54 ?_
      refine lv_iconst (v := (1 : Int32)) hx hb dX9_tellNumbers_57 (by decide) ?_
      obtain ⟨r7, hc7, hf⟩ := wk_b1E hf
      refine wk_callVi2 C hP hD hS (c_X6_get l D cB cI cJ N a_numbers a_numbers_cells 4 v_numbers (1 : Int32) hc7) (cwV 1 hts gX9_tellNumbers_X6_get rfl rfl rfl hd_X6_get ⟨Nat.le_of_ble_eq_true rfl, Nat.le_of_ble_eq_true rfl⟩) hl.1 ⟨Nat.zero_le _, Nat.zero_le _⟩ [1, 2] [0] 3 (by decide +kernel) rfl (Wn := w_X9_tellNumbers cB cI cJ a_this a_bytes a_numbers a_numbers_cells v_length v_behind v_kind s1 v_rank v_value v_hour v_numbers) rfl rfl rfl rfl rfl rfl (ci := 6) rfl rfl (q0 := 1) rfl rfl rfl (Nat.le_of_ble_eq_true rfl) dX9_tellNumbers_58 (fun H locs hP hD hS => ?_)
      refine lv_goto (tgt := 65) hx hb dX9_tellNumbers_61 (by decide) ?_
      exact J65 _ _ _ _ _ _ _ hf _ _ _ hP hD hS (lv_sub hl [0, 1, 2] rfl)
  have J27 : ∀ (v_county : Int32) (v_rank : Int32) (v_value : Int32) (v_hour : Int32) (x1 : Int32) (s0 : Int32), B_X9_tellNumbers_27 N v_kind v_numbers v_county v_rank v_value v_hour x1 s0 = some (o_county, o_rank, o_value, o_hour) → ∀ (H : Heap) (locs : List Loc) (ls : Array Slot), va_P D vwCl (w_X9_tellNumbers cB cI cJ a_this a_bytes a_numbers a_numbers_cells v_length v_behind v_kind v_county v_rank v_value v_hour v_numbers) H → va_D A (w_X9_tellNumbers cB cI cJ a_this a_bytes a_numbers a_numbers_cells v_length v_behind v_kind v_county v_rank v_value v_hour v_numbers) → va_S A s.heap H locs → lv_has ls 3 [(0, .ref a_this), (1, .int x1)] → W p l e rm_X9_tellNumbers s m args below meth c H locs 0 0 Q (F0 m 27 ls [.int s0]) := by
    intro v_county v_rank v_value v_hour x1 s0 hf H locs ls hP hD hS hl
    unfold B_X9_tellNumbers_27 at hf
    refine lv_istore_n (lv' := [(2, .int s0), (0, .ref a_this), (1, .int x1)]) hx hb dX9_tellNumbers_27 rfl hl (by decide) rfl (fun ls hl => ?_)
    refine lv_aload_n hx hb dX9_tellNumbers_28 rfl (lv_at hl 1 rfl) ?_
    refine lv_iload_n hx hb dX9_tellNumbers_29 rfl (lv_at hl 2 rfl) ?_
    refine lv_if_eq (tgt := 37) hx hb dX9_tellNumbers_30 (by decide) (fun c8 => ?_) (fun c8 => ?_)
    · have hf := wk_itT hf c8
      refine lv_aload_n hx hb dX9_tellNumbers_37 rfl (lv_at hl 1 rfl) ?_
      refine va_get (D := D) (ci := 9) (v := .ref a_numbers) (C := RX9) (T := TX9) (N := 9) hx hb hts in_X9_tellNumbers_X9 hown hK hP 0 rfl rfl 2 (by decide) (hts (.fieldLink RX9 24 "HangingCards$Text" "numbers" "LHangingCards$Row;") (List.mem_of_getElem? (i := 2) rfl)) (fun _ h9 => h9) rfl dX9_tellNumbers_38 ?_
      refine lv_iconst (v := (0 : Int32)) hx hb dX9_tellNumbers_41 (by decide) ?_
      obtain ⟨r9, hc9, hf⟩ := wk_b1E hf
      refine wk_callVi2 C hP hD hS (c_X6_get l D cB cI cJ N a_numbers a_numbers_cells 4 v_numbers (0 : Int32) hc9) (cwV 1 hts gX9_tellNumbers_X6_get rfl rfl rfl hd_X6_get ⟨Nat.le_of_ble_eq_true rfl, Nat.le_of_ble_eq_true rfl⟩) hl.1 ⟨Nat.zero_le _, Nat.zero_le _⟩ [1, 2] [0] 3 (by decide +kernel) rfl (Wn := w_X9_tellNumbers cB cI cJ a_this a_bytes a_numbers a_numbers_cells v_length v_behind v_kind v_county v_rank v_value v_hour v_numbers) rfl rfl rfl rfl rfl rfl (ci := 6) rfl rfl (q0 := 1) rfl rfl rfl (Nat.le_of_ble_eq_true rfl) dX9_tellNumbers_42 (fun H locs hP hD hS => ?_)
      exact J45 _ _ _ _ _ _ _ hf _ _ _ hP hD hS (lv_sub hl [1, 2, 0] rfl)
    · have hf := wk_itF hf c8
      refine lv_iconst (v := (5 : Int32)) hx hb dX9_tellNumbers_33 (by decide) ?_
      refine lv_goto (tgt := 45) hx hb dX9_tellNumbers_34 (by decide) ?_
      exact J45 _ _ _ _ _ _ _ hf _ _ _ hP hD hS (lv_sub hl [1, 2, 0] rfl)
  have J13 : ∀ (v_county : Int32) (v_rank : Int32) (v_value : Int32) (v_hour : Int32) (s0 : Int32), B_X9_tellNumbers_13 N v_kind v_numbers v_county v_rank v_value v_hour s0 = some (o_county, o_rank, o_value, o_hour) → ∀ (H : Heap) (locs : List Loc) (ls : Array Slot), va_P D vwCl (w_X9_tellNumbers cB cI cJ a_this a_bytes a_numbers a_numbers_cells v_length v_behind v_kind v_county v_rank v_value v_hour v_numbers) H → va_D A (w_X9_tellNumbers cB cI cJ a_this a_bytes a_numbers a_numbers_cells v_length v_behind v_kind v_county v_rank v_value v_hour v_numbers) → va_S A s.heap H locs → lv_has ls 3 [(0, .ref a_this)] → W p l e rm_X9_tellNumbers s m args below meth c H locs 0 0 Q (F0 m 13 ls [.int s0]) := by
    intro v_county v_rank v_value v_hour s0 hf H locs ls hP hD hS hl
    unfold B_X9_tellNumbers_13 at hf
    refine lv_istore_n (lv' := [(1, .int s0), (0, .ref a_this)]) hx hb dX9_tellNumbers_13 rfl hl (by decide) rfl (fun ls hl => ?_)
    refine lv_aload_n hx hb dX9_tellNumbers_14 rfl (lv_at hl 1 rfl) ?_
    refine va_get (D := D) (ci := 9) (v := .int v_kind) (C := RX9) (T := TX9) (N := 9) hx hb hts in_X9_tellNumbers_X9 hown hK hP 0 rfl rfl 4 (by decide) (hts (.fieldLink RX9 30 "HangingCards$Text" "kind" "I") (List.mem_of_getElem? (i := 1) rfl)) (fun _ h9 => h9) rfl dX9_tellNumbers_15 ?_
    refine lv_iconst (v := (3 : Int32)) hx hb dX9_tellNumbers_18 (by decide) ?_
    refine lv_icmp_ne (tgt := 26) hx hb dX9_tellNumbers_19 (by decide) (fun c10 => ?_) (fun c10 => ?_)
    · have hf := wk_itF hf c10
      refine lv_iconst (v := (0 : Int32)) hx hb dX9_tellNumbers_26 (by decide) ?_
      exact J27 _ _ _ _ _ _ hf _ _ _ hP hD hS (lv_sub hl [1, 0] rfl)
    · have hf := wk_itT hf c10
      refine lv_iconst (v := (1 : Int32)) hx hb dX9_tellNumbers_22 (by decide) ?_
      refine lv_goto (tgt := 27) hx hb dX9_tellNumbers_23 (by decide) ?_
      exact J27 _ _ _ _ _ _ hf _ _ _ hP hD hS (lv_sub hl [1, 0] rfl)
  unfold f_X9_tellNumbers at hf
  refine lv_aload_n hx hb dX9_tellNumbers_0 rfl (lv_at hl 0 rfl) ?_
  refine va_get (D := D) (ci := 9) (v := .int v_kind) (C := RX9) (T := TX9) (N := 9) hx hb hts in_X9_tellNumbers_X9 hown hK hP 0 rfl rfl 4 (by decide) (hts (.fieldLink RX9 30 "HangingCards$Text" "kind" "I") (List.mem_of_getElem? (i := 1) rfl)) (fun _ h9 => h9) rfl dX9_tellNumbers_1 ?_
  refine lv_iconst (v := (2 : Int32)) hx hb dX9_tellNumbers_4 (by decide) ?_
  refine lv_icmp_ne (tgt := 12) hx hb dX9_tellNumbers_5 (by decide) (fun c11 => ?_) (fun c11 => ?_)
  · have hf := wk_itF hf c11
    refine lv_iconst (v := (0 : Int32)) hx hb dX9_tellNumbers_12 (by decide) ?_
    exact J13 _ _ _ _ _ hf _ _ _ hP hD hS (lv_sub hl [0] rfl)
  · have hf := wk_itT hf c11
    refine lv_iconst (v := (1 : Int32)) hx hb dX9_tellNumbers_8 (by decide) ?_
    refine lv_goto (tgt := 13) hx hb dX9_tellNumbers_9 (by decide) ?_
    exact J13 _ _ _ _ _ hf _ _ _ hP hD hS (lv_sub hl [0] rfl)
abbrev w_X9_lowest (cB cI cJ : ClassId) : va_W := []
theorem hd_X9_lowest : yX9_lowest.cls = RX9 ∧ yX9_lowest.cls ≠ "java/lang/invoke/MethodHandle" ∧ yX9_lowest.cls ≠ "java/lang/invoke/VarHandle" ∧ (parseMethodDescriptor yX9_lowest.desc).map (fun d => d.parameters.length) = some 1 := by decide +kernel
abbrev rm_X9_lowest : Room := { frames := 0, cells := 0, slots := 0, locals := 0 }
set_option maxHeartbeats 4000000 in
set_option maxRecDepth 100000 in
theorem c_X9_lowest (l : Launch) (D : va_G) (cB cI cJ : ClassId) (N : Nat) (x0 : Int32) {r : Int32} (hf : f_X9_lowest N x0 = some r) : MTi l yX9_lowest wsX9_lowest rm_X9_lowest D (wk_T cB cI cJ) [.int x0] (w_X9_lowest cB cI cJ) (w_X9_lowest cB cI cJ) r := by
  refine MTi.of (cc := cX9_lowest) (nL := 1) (rt := .int) (own := RX9) pn_X9 rfl rfl (Nat.le_of_ble_eq_true rfl) rfl ?_
  intro p e s m args below meth c A ls Q C hP hD hS hl hret
  obtain ⟨hx, hb, hml, hts, hown, hK, hN, hA, hlk⟩ := id C
  have hl : lv_has ls 1 [(0, .int x0)] := hl
  unfold f_X9_lowest at hf
  refine lv_iload_n hx hb dX9_lowest_0 rfl (lv_at hl 0 rfl) ?_
  by_cases c1 : x0 = (0 : Int32)
  · have hf := wk_itT hf c1
    refine lv_lookup (off := 27) (tgt := 28) hx hb dX9_lowest_1 (by decide) (by rw [c1]; rfl) (by decide) ?_
    refine lv_iconst (v := (1 : Int32)) hx hb dX9_lowest_28 (by decide) ?_
    exact hret _ _ _ _ _ _ dX9_lowest_29 (wk_rt hf (fun z => z)) rfl hP hD hS
  have hf := wk_itF hf c1
  by_cases c2 : x0 = (2 : Int32)
  · have hf := wk_itT hf c2
    refine lv_lookup (off := 29) (tgt := 30) hx hb dX9_lowest_1 (by decide) (by rw [c2]; rfl) (by decide) ?_
    refine lv_iconst (v := (2 : Int32)) hx hb dX9_lowest_30 (by decide) ?_
    exact hret _ _ _ _ _ _ dX9_lowest_31 (wk_rt hf (fun z => z)) rfl hP hD hS
  have hf := wk_itF hf c2
  refine lv_lookup (off := 31) (tgt := 32) hx hb dX9_lowest_1 (by decide) ((lv_osw c1 rfl).trans ((lv_osw c2 rfl).trans rfl)) (by decide) ?_
  refine lv_iconst (v := (0 : Int32)) hx hb dX9_lowest_32 (by decide) ?_
  exact hret _ _ _ _ _ _ dX9_lowest_33 (wk_rt hf (fun z => z)) rfl hP hD hS
abbrev w_X9_highest (cB cI cJ : ClassId) : va_W := []
theorem hd_X9_highest : yX9_highest.cls = RX9 ∧ yX9_highest.cls ≠ "java/lang/invoke/MethodHandle" ∧ yX9_highest.cls ≠ "java/lang/invoke/VarHandle" ∧ (parseMethodDescriptor yX9_highest.desc).map (fun d => d.parameters.length) = some 1 := by decide +kernel
abbrev rm_X9_highest : Room := { frames := 0, cells := 0, slots := 0, locals := 0 }
set_option maxHeartbeats 4000000 in
set_option maxRecDepth 100000 in
theorem c_X9_highest (l : Launch) (D : va_G) (cB cI cJ : ClassId) (N : Nat) (x0 : Int32) {r : Int32} (hf : f_X9_highest N x0 = some r) : MTi l yX9_highest wsX9_highest rm_X9_highest D (wk_T cB cI cJ) [.int x0] (w_X9_highest cB cI cJ) (w_X9_highest cB cI cJ) r := by
  refine MTi.of (cc := cX9_highest) (nL := 1) (rt := .int) (own := RX9) pn_X9 rfl rfl (Nat.le_of_ble_eq_true rfl) rfl ?_
  intro p e s m args below meth c A ls Q C hP hD hS hl hret
  obtain ⟨hx, hb, hml, hts, hown, hK, hN, hA, hlk⟩ := id C
  have hl : lv_has ls 1 [(0, .int x0)] := hl
  unfold f_X9_highest at hf
  refine lv_iload_n hx hb dX9_highest_0 rfl (lv_at hl 0 rfl) ?_
  by_cases c1 : x0 = (1 : Int32)
  · have hf := wk_itT hf c1
    refine lv_lookup (off := 27) (tgt := 28) hx hb dX9_highest_1 (by decide) (by rw [c1]; rfl) (by decide) ?_
    refine lv_bipush (v := (12 : Int32)) hx hb dX9_highest_28 (by decide) ?_
    exact hret _ _ _ _ _ _ dX9_highest_30 (wk_rt hf (fun z => z)) rfl hP hD hS
  have hf := wk_itF hf c1
  by_cases c2 : x0 = (3 : Int32)
  · have hf := wk_itT hf c2
    refine lv_lookup (off := 30) (tgt := 31) hx hb dX9_highest_1 (by decide) (by rw [c2]; rfl) (by decide) ?_
    refine lv_iconst (v := (1 : Int32)) hx hb dX9_highest_31 (by decide) ?_
    exact hret _ _ _ _ _ _ dX9_highest_32 (wk_rt hf (fun z => z)) rfl hP hD hS
  have hf := wk_itF hf c2
  refine lv_lookup (off := 32) (tgt := 33) hx hb dX9_highest_1 (by decide) ((lv_osw c1 rfl).trans ((lv_osw c2 rfl).trans rfl)) (by decide) ?_
  refine lv_iconst (v := (5 : Int32)) hx hb dX9_highest_33 (by decide) ?_
  exact hret _ _ _ _ _ _ dX9_highest_34 (wk_rt hf (fun z => z)) rfl hP hD hS
abbrev w_X9_isTold (cB cI cJ : ClassId) (a_this : Nat) (a_bytes : Nat) (a_numbers : Nat) (v_length : Int32) (v_behind : Int32) (v_kind : Int32) (v_county : Int32) (v_rank : Int32) (v_value : Int32) (v_hour : Int32) : va_W := [(a_this, .inr (9, [.ref a_bytes, .int v_length, .ref a_numbers, .int v_behind, .int v_kind, .int v_county, .int v_rank, .int v_value, .int v_hour]))]
theorem hd_X9_isTold : yX9_isTold.cls = RX9 ∧ yX9_isTold.cls ≠ "java/lang/invoke/MethodHandle" ∧ yX9_isTold.cls ≠ "java/lang/invoke/VarHandle" ∧ (parseMethodDescriptor yX9_isTold.desc).map (fun d => d.parameters.length) = some 0 := by decide +kernel
abbrev rm_X9_isTold : Room := { frames := 2, cells := 0, slots := 0, locals := 40 }
theorem in_X9_isTold_X9 : ∀ w ∈ wsX90, w ∈ wsX9_isTold := fun w h => List.mem_cons_of_mem _ (List.mem_append_right _ h)
set_option maxHeartbeats 4000000 in
set_option maxRecDepth 100000 in
theorem c_X9_isTold (l : Launch) (D : va_G) (cB cI cJ : ClassId) (N : Nat) (a_this : Nat) (a_bytes : Nat) (a_numbers : Nat) (v_length : Int32) (v_behind : Int32) (v_kind : Int32) (v_county : Int32) (v_rank : Int32) (v_value : Int32) (v_hour : Int32) {r : Bool} (hf : f_X9_isTold N v_kind v_county v_rank v_value v_hour = some r) : MTi l yX9_isTold wsX9_isTold rm_X9_isTold D (wk_T cB cI cJ) [.ref a_this] (w_X9_isTold cB cI cJ a_this a_bytes a_numbers v_length v_behind v_kind v_county v_rank v_value v_hour) (w_X9_isTold cB cI cJ a_this a_bytes a_numbers v_length v_behind v_kind v_county v_rank v_value v_hour) (wk_bI r) := by
  refine MTi.of (cc := cX9_isTold) (nL := 1) (rt := .boolean) (own := RX9) pn_X9 rfl rfl (Nat.le_of_ble_eq_true rfl) (wk_nz r) ?_
  intro p e s m args below meth c A ls Q C hP hD hS hl hret
  obtain ⟨hx, hb, hml, hts, hown, hK, hN, hA, hlk⟩ := id C
  have hl : lv_has ls 1 [(0, .ref a_this)] := hl
  unfold f_X9_isTold at hf
  refine lv_aload_n hx hb dX9_isTold_0 rfl (lv_at hl 0 rfl) ?_
  refine va_get (D := D) (ci := 9) (v := .int v_county) (C := RX9) (T := TX9) (N := 9) hx hb hts in_X9_isTold_X9 hown hK hP 0 rfl rfl 5 (by decide) (hts (.fieldLink RX9 33 "HangingCards$Text" "county" "I") (List.mem_of_getElem? (i := 1) rfl)) (fun _ h9 => h9) rfl dX9_isTold_1 ?_
  obtain ⟨r1, hc1, hf⟩ := wk_b1E hf
  refine wk_callNi2 C hP hD hS (c_X10_isCountyOrAll l D cB cI cJ N v_county hc1) ⟨va_cnB 1 hts gX9_isTold_X10_isCountyOrAll_n80 rfl rfl rfl hN.2.2.2.2.2.2.2.2.2.2.1 (hts (.initialized RX10) (List.mem_of_getElem? (i := 7) rfl)) hd_X10_isCountyOrAll.2 ⟨Nat.le_of_ble_eq_true rfl, Nat.le_of_ble_eq_true rfl⟩, (hts (.static yX10_isCountyOrAll) (List.mem_of_getElem? (i := 6) rfl)), trivial⟩ hl.1 ⟨Nat.zero_le _, Nat.zero_le _⟩ [] [0] 1 (by decide +kernel) rfl (Wn := w_X9_isTold cB cI cJ a_this a_bytes a_numbers v_length v_behind v_kind v_county v_rank v_value v_hour) rfl rfl rfl rfl rfl rfl rfl rfl (Nat.le_of_ble_eq_true rfl) dX9_isTold_4 (fun H locs hP hD hS => ?_)
  refine lv_if_eq (tgt := 60) hx hb dX9_isTold_7 (by decide) (fun c2 => ?_) (fun c2 => ?_)
  · have hf := wk_itT hf c2
    refine lv_iconst (v := (0 : Int32)) hx hb dX9_isTold_60 (by decide) ?_
    exact hret _ _ _ _ _ _ dX9_isTold_61 (wk_rt hf (fun z => wk_bI z)) rfl hP hD hS
  · have hf := wk_itF hf c2
    refine lv_aload_n hx hb dX9_isTold_10 rfl (lv_at hl 0 rfl) ?_
    refine va_get (D := D) (ci := 9) (v := .int v_rank) (C := RX9) (T := TX9) (N := 9) hx hb hts in_X9_isTold_X9 hown hK hP 0 rfl rfl 6 (by decide) (hts (.fieldLink RX9 36 "HangingCards$Text" "rank" "I") (List.mem_of_getElem? (i := 2) rfl)) (fun _ h9 => h9) rfl dX9_isTold_11 ?_
    refine lv_iconst (v := (4 : Int32)) hx hb dX9_isTold_14 (by decide) ?_
    refine lv_icmp_ge (tgt := 60) hx hb dX9_isTold_15 (by decide) (fun c3 => ?_) (fun c3 => ?_)
    · have hf := wk_itT hf c3
      refine lv_iconst (v := (0 : Int32)) hx hb dX9_isTold_60 (by decide) ?_
      exact hret _ _ _ _ _ _ dX9_isTold_61 (wk_rt hf (fun z => wk_bI z)) rfl hP hD hS
    · have hf := wk_itF hf c3
      refine lv_aload_n hx hb dX9_isTold_18 rfl (lv_at hl 0 rfl) ?_
      refine va_get (D := D) (ci := 9) (v := .int v_hour) (C := RX9) (T := TX9) (N := 9) hx hb hts in_X9_isTold_X9 hown hK hP 0 rfl rfl 8 (by decide) (hts (.fieldLink RX9 42 "HangingCards$Text" "hour" "I") (List.mem_of_getElem? (i := 3) rfl)) (fun _ h9 => h9) rfl dX9_isTold_19 ?_
      obtain ⟨r4, hc4, hf⟩ := wk_b1E hf
      refine wk_callNi2 C hP hD hS (c_X10_isHour l D cB cI cJ N v_hour hc4) ⟨va_cnB 1 hts gX9_isTold_X10_isHour_n83 rfl rfl rfl hN.2.2.2.2.2.2.2.2.2.2.2 (hts (.initialized RX10) (List.mem_of_getElem? (i := 7) rfl)) hd_X10_isHour.2 ⟨Nat.le_of_ble_eq_true rfl, Nat.le_of_ble_eq_true rfl⟩, (hts (.static yX10_isHour) (List.mem_of_getElem? (i := 12) rfl)), trivial⟩ hl.1 ⟨Nat.zero_le _, Nat.zero_le _⟩ [] [0] 1 (by decide +kernel) rfl (Wn := w_X9_isTold cB cI cJ a_this a_bytes a_numbers v_length v_behind v_kind v_county v_rank v_value v_hour) rfl rfl rfl rfl rfl rfl rfl rfl (Nat.le_of_ble_eq_true rfl) dX9_isTold_22 (fun H locs hP hD hS => ?_)
      refine lv_if_eq (tgt := 60) hx hb dX9_isTold_25 (by decide) (fun c5 => ?_) (fun c5 => ?_)
      · have hf := wk_itT hf c5
        refine lv_iconst (v := (0 : Int32)) hx hb dX9_isTold_60 (by decide) ?_
        exact hret _ _ _ _ _ _ dX9_isTold_61 (wk_rt hf (fun z => wk_bI z)) rfl hP hD hS
      · have hf := wk_itF hf c5
        refine lv_aload_n hx hb dX9_isTold_28 rfl (lv_at hl 0 rfl) ?_
        refine va_get (D := D) (ci := 9) (v := .int v_value) (C := RX9) (T := TX9) (N := 9) hx hb hts in_X9_isTold_X9 hown hK hP 0 rfl rfl 7 (by decide) (hts (.fieldLink RX9 39 "HangingCards$Text" "value" "I") (List.mem_of_getElem? (i := 4) rfl)) (fun _ h9 => h9) rfl dX9_isTold_29 ?_
        refine lv_aload_n hx hb dX9_isTold_32 rfl (lv_at hl 0 rfl) ?_
        refine va_get (D := D) (ci := 9) (v := .int v_kind) (C := RX9) (T := TX9) (N := 9) hx hb hts in_X9_isTold_X9 hown hK hP 0 rfl rfl 4 (by decide) (hts (.fieldLink RX9 30 "HangingCards$Text" "kind" "I") (List.mem_of_getElem? (i := 5) rfl)) (fun _ h9 => h9) rfl dX9_isTold_33 ?_
        obtain ⟨r6, hc6, hf⟩ := wk_b1E hf
        refine wk_callSi2 C hP hD hS (c_X9_lowest l D cB cI cJ N v_kind hc6) (va_cwS 1 hts gX9_isTold_X9_lowest rfl rfl rfl hd_X9_lowest.2 ⟨Nat.le_of_ble_eq_true rfl, Nat.le_of_ble_eq_true rfl⟩) hl.1 ⟨Nat.zero_le _, Nat.zero_le _⟩ [] [0] 1 (by decide +kernel) rfl (Wn := w_X9_isTold cB cI cJ a_this a_bytes a_numbers v_length v_behind v_kind v_county v_rank v_value v_hour) rfl rfl rfl rfl rfl rfl rfl rfl (Nat.le_of_ble_eq_true rfl) dX9_isTold_36 (fun H locs hP hD hS => ?_)
        refine lv_icmp_lt (tgt := 60) hx hb dX9_isTold_39 (by decide) (fun c7 => ?_) (fun c7 => ?_)
        · have hf := wk_itT hf c7
          refine lv_iconst (v := (0 : Int32)) hx hb dX9_isTold_60 (by decide) ?_
          exact hret _ _ _ _ _ _ dX9_isTold_61 (wk_rt hf (fun z => wk_bI z)) rfl hP hD hS
        · have hf := wk_itF hf c7
          refine lv_aload_n hx hb dX9_isTold_42 rfl (lv_at hl 0 rfl) ?_
          refine va_get (D := D) (ci := 9) (v := .int v_value) (C := RX9) (T := TX9) (N := 9) hx hb hts in_X9_isTold_X9 hown hK hP 0 rfl rfl 7 (by decide) (hts (.fieldLink RX9 39 "HangingCards$Text" "value" "I") (List.mem_of_getElem? (i := 4) rfl)) (fun _ h9 => h9) rfl dX9_isTold_43 ?_
          refine lv_aload_n hx hb dX9_isTold_46 rfl (lv_at hl 0 rfl) ?_
          refine va_get (D := D) (ci := 9) (v := .int v_kind) (C := RX9) (T := TX9) (N := 9) hx hb hts in_X9_isTold_X9 hown hK hP 0 rfl rfl 4 (by decide) (hts (.fieldLink RX9 30 "HangingCards$Text" "kind" "I") (List.mem_of_getElem? (i := 5) rfl)) (fun _ h9 => h9) rfl dX9_isTold_47 ?_
          obtain ⟨r8, hc8, hf⟩ := wk_b1E hf
          refine wk_callSi2 C hP hD hS (c_X9_highest l D cB cI cJ N v_kind hc8) (va_cwS 1 hts gX9_isTold_X9_highest rfl rfl rfl hd_X9_highest.2 ⟨Nat.le_of_ble_eq_true rfl, Nat.le_of_ble_eq_true rfl⟩) hl.1 ⟨Nat.zero_le _, Nat.zero_le _⟩ [] [0] 1 (by decide +kernel) rfl (Wn := w_X9_isTold cB cI cJ a_this a_bytes a_numbers v_length v_behind v_kind v_county v_rank v_value v_hour) rfl rfl rfl rfl rfl rfl rfl rfl (Nat.le_of_ble_eq_true rfl) dX9_isTold_50 (fun H locs hP hD hS => ?_)
          refine lv_icmp_gt (tgt := 60) hx hb dX9_isTold_53 (by decide) (fun c9 => ?_) (fun c9 => ?_)
          · have hf := wk_itT hf c9
            refine lv_iconst (v := (0 : Int32)) hx hb dX9_isTold_60 (by decide) ?_
            exact hret _ _ _ _ _ _ dX9_isTold_61 (wk_rt hf (fun z => wk_bI z)) rfl hP hD hS
          · have hf := wk_itF hf c9
            refine lv_iconst (v := (1 : Int32)) hx hb dX9_isTold_56 (by decide) ?_
            refine lv_goto (tgt := 61) hx hb dX9_isTold_57 (by decide) ?_
            exact hret _ _ _ _ _ _ dX9_isTold_61 (wk_rt hf (fun z => wk_bI z)) rfl hP hD hS
abbrev w_X9_read (cB cI cJ : ClassId) (a_this : Nat) (a_bytes : Nat) (a_numbers : Nat) (a_bytes_cells : Nat) (a_numbers_cells : Nat) (v_length : Int32) (v_behind : Int32) (v_kind : Int32) (v_county : Int32) (v_rank : Int32) (v_value : Int32) (v_hour : Int32) (v_bytes : Nat → Int32) (v_numbers : Nat → Int32) : va_W := [(a_this, .inr (9, [.ref a_bytes, .int v_length, .ref a_numbers, .int v_behind, .int v_kind, .int v_county, .int v_rank, .int v_value, .int v_hour])), (a_bytes, .inr (6, [.ref a_bytes_cells])), (a_bytes_cells, .inl (cI, 200, .inl v_bytes)), (a_numbers, .inr (6, [.ref a_numbers_cells])), (a_numbers_cells, .inl (cI, 4, .inl v_numbers))]
theorem hd_X9_read : yX9_read.cls = RX9 ∧ yX9_read.cls ≠ "java/lang/invoke/MethodHandle" ∧ yX9_read.cls ≠ "java/lang/invoke/VarHandle" ∧ (parseMethodDescriptor yX9_read.desc).map (fun d => d.parameters.length) = some 1 := by decide +kernel
abbrev rm_X9_read : Room := { frames := 3, cells := 0, slots := 0, locals := 66 }
theorem in_X9_read_X9 : ∀ w ∈ wsX90, w ∈ wsX9_read := fun w h => List.mem_cons_of_mem _ (List.mem_append_left _ (List.mem_append_right _ h))
set_option maxHeartbeats 4000000 in
set_option maxRecDepth 100000 in
theorem c_X9_read (l : Launch) (D : va_G) (cB cI cJ : ClassId) (N : Nat) (a_this : Nat) (a_bytes : Nat) (a_numbers : Nat) (a_bytes_cells : Nat) (a_numbers_cells : Nat) (v_length : Int32) (v_behind : Int32) (v_kind : Int32) (v_county : Int32) (v_rank : Int32) (v_value : Int32) (v_hour : Int32) (v_bytes : Nat → Int32) (v_numbers : Nat → Int32) (x1 : Int32) {r : Bool} {o_behind : Int32} {o_kind : Int32} {o_county : Int32} {o_rank : Int32} {o_value : Int32} {o_hour : Int32} {o_numbers : Nat → Int32} (hf : f_X9_read N v_length v_bytes v_behind v_kind v_county v_rank v_value v_hour v_numbers x1 = some (r, o_behind, o_kind, o_county, o_rank, o_value, o_hour, o_numbers)) : MTi l yX9_read wsX9_read rm_X9_read D (wk_T cB cI cJ) [.ref a_this, .int x1] (w_X9_read cB cI cJ a_this a_bytes a_numbers a_bytes_cells a_numbers_cells v_length v_behind v_kind v_county v_rank v_value v_hour v_bytes v_numbers) (w_X9_read cB cI cJ a_this a_bytes a_numbers a_bytes_cells a_numbers_cells v_length o_behind o_kind o_county o_rank o_value o_hour v_bytes o_numbers) (wk_bI r) := by
  refine MTi.of (cc := cX9_read) (nL := 7) (rt := .boolean) (own := RX9) pn_X9 rfl rfl (Nat.le_of_ble_eq_true rfl) (wk_nz r) ?_
  intro p e s m args below meth c A ls Q C hP hD hS hl hret
  obtain ⟨hx, hb, hml, hts, hown, hK, hN, hA, hlk⟩ := id C
  have hl : lv_has ls 7 [(0, .ref a_this), (1, .int x1)] := hl
  have L33 := wk_loopI (F := (fun k33 : Int32 → Int32 → Int32 → Int32 → Int32 → Int32 → (Nat → Int32) → Int32 → Int32 → Int32 → Option (Bool × Int32 × Int32 × Int32 × Int32 × Int32 × Int32 × (Nat → Int32)) => B_X9_read_33 N v_length v_bytes k33)) (bot := fun _ _ _ _ _ _ _ _ _ _ => none) (fun k33 : Int32 → Int32 → Int32 → Int32 → Int32 → Int32 → (Nat → Int32) → Int32 → Int32 → Int32 → Option (Bool × Int32 × Int32 × Int32 × Int32 × Int32 × Int32 × (Nat → Int32)) => ∀ (v_behind : Int32) (v_kind : Int32) (v_county : Int32) (v_rank : Int32) (v_value : Int32) (v_hour : Int32) (v_numbers : Nat → Int32) (x2 : Int32) (x3 : Int32) (x4 : Int32), k33 v_behind v_kind v_county v_rank v_value v_hour v_numbers x2 x3 x4 = some (r, o_behind, o_kind, o_county, o_rank, o_value, o_hour, o_numbers) → ∀ (H : Heap) (locs : List Loc) (ls : Array Slot), va_P D vwCl (w_X9_read cB cI cJ a_this a_bytes a_numbers a_bytes_cells a_numbers_cells v_length v_behind v_kind v_county v_rank v_value v_hour v_bytes v_numbers) H → va_D A (w_X9_read cB cI cJ a_this a_bytes a_numbers a_bytes_cells a_numbers_cells v_length v_behind v_kind v_county v_rank v_value v_hour v_bytes v_numbers) → va_S A s.heap H locs → lv_has ls 7 [(0, .ref a_this), (2, .int x2), (3, .int x3), (4, .int x4)] → W p l e rm_X9_read s m args below meth c H locs 0 0 Q (F0 m 33 ls [])) (by intro v_behind v_kind v_county v_rank v_value v_hour v_numbers x2 x3 x4 hf; exact wk_no hf) (by
    intro k33 ih33
    have J68 : ∀ (v_behind : Int32) (v_kind : Int32) (v_county : Int32) (v_rank : Int32) (v_value : Int32) (v_hour : Int32) (v_numbers : Nat → Int32) (x2 : Int32) (x3 : Int32) (x4 : Int32) (x5 : Int32) (s0 : Int32), B_X9_read_68 N v_length v_bytes k33 v_behind v_kind v_county v_rank v_value v_hour v_numbers x2 x3 x4 x5 s0 = some (r, o_behind, o_kind, o_county, o_rank, o_value, o_hour, o_numbers) → ∀ (H : Heap) (locs : List Loc) (ls : Array Slot), va_P D vwCl (w_X9_read cB cI cJ a_this a_bytes a_numbers a_bytes_cells a_numbers_cells v_length v_behind v_kind v_county v_rank v_value v_hour v_bytes v_numbers) H → va_D A (w_X9_read cB cI cJ a_this a_bytes a_numbers a_bytes_cells a_numbers_cells v_length v_behind v_kind v_county v_rank v_value v_hour v_bytes v_numbers) → va_S A s.heap H locs → lv_has ls 7 [(0, .ref a_this), (2, .int x2), (3, .int x3), (4, .int x4), (5, .int x5)] → W p l e rm_X9_read s m args below meth c H locs 0 0 Q (F0 m 68 ls [.int s0]) := by
      intro v_behind v_kind v_county v_rank v_value v_hour v_numbers x2 x3 x4 x5 s0 hf H locs ls hP hD hS hl
      unfold B_X9_read_68 at hf
      refine lv_istore (lv' := [(6, .int s0), (0, .ref a_this), (2, .int x2), (3, .int x3), (4, .int x4), (5, .int x5)]) hx hb dX9_read_68 hl (by decide) rfl (fun ls hl => ?_)
      refine lv_iload hx hb dX9_read_70 (lv_at hl 5 rfl) ?_
      refine lv_if_eq (tgt := 85) hx hb dX9_read_72 (by decide) (fun c1 => ?_) (fun c1 => ?_)
      · have hf := wk_itT hf c1
        refine lv_iconst (v := (0 : Int32)) hx hb dX9_read_85 (by decide) ?_
        exact hret _ _ _ _ _ _ dX9_read_86 (wk_rt hf (fun z => wk_bI (z.1))) (wk_rt hf (fun z => w_X9_read cB cI cJ a_this a_bytes a_numbers a_bytes_cells a_numbers_cells v_length (z.2.1) (z.2.2.1) (z.2.2.2.1) (z.2.2.2.2.1) (z.2.2.2.2.2.1) (z.2.2.2.2.2.2.1) v_bytes (z.2.2.2.2.2.2.2))) hP hD hS
      · have hf := wk_itF hf c1
        refine lv_aload_n hx hb dX9_read_75 rfl (lv_at hl 1 rfl) ?_
        refine lv_iload_n hx hb dX9_read_76 rfl (lv_at hl 3 rfl) ?_
        obtain ⟨r2, hc2, hf⟩ := wk_b1E hf
        refine wk_callVi2 C hP hD hS (c_X9_byteAt l D cB cI cJ N a_this a_bytes a_numbers a_bytes_cells v_length v_behind v_kind v_county v_rank v_value v_hour v_bytes x3 hc2) (cwV 1 hts gX9_read_X9_byteAt rfl rfl rfl hd_X9_byteAt ⟨Nat.le_of_ble_eq_true rfl, Nat.le_of_ble_eq_true rfl⟩) hl.1 ⟨Nat.zero_le _, Nat.zero_le _⟩ [0, 1, 2] [3, 4] 5 (by decide +kernel) rfl (Wn := w_X9_read cB cI cJ a_this a_bytes a_numbers a_bytes_cells a_numbers_cells v_length v_behind v_kind v_county v_rank v_value v_hour v_bytes v_numbers) rfl rfl rfl rfl rfl rfl (ci := 9) rfl rfl (q0 := 0) rfl rfl rfl (Nat.le_of_ble_eq_true rfl) dX9_read_77 (fun H locs hP hD hS => ?_)
        refine lv_iload hx hb dX9_read_80 (lv_at hl 0 rfl) ?_
        refine lv_icmp_eq (tgt := 87) hx hb dX9_read_82 (by decide) (fun c3 => ?_) (fun c3 => ?_)
        · have hf := wk_itT hf c3
          obtain ⟨y4, ey4⟩ : ∃ y : Int32, y = x3 + (1 : Int32) := ⟨_, rfl⟩
          have hf := wk_nmE hf ey4
          refine lv_iinc (v := y4) (lv' := [(3, .int y4), (6, .int s0), (0, .ref a_this), (2, .int x2), (4, .int x4), (5, .int x5)]) hx hb dX9_read_87 hl (k := 3) rfl (by rw [ey4]; rfl) (by decide) rfl (fun ls hl => ?_)
          obtain ⟨y5, ey5⟩ : ∃ y : Int32, y = x4 + (1 : Int32) := ⟨_, rfl⟩
          have hf := wk_nmE hf ey5
          refine lv_iinc (v := y5) (lv' := [(4, .int y5), (3, .int y4), (6, .int s0), (0, .ref a_this), (2, .int x2), (5, .int x5)]) hx hb dX9_read_90 hl (k := 4) rfl (by rw [ey5]; rfl) (by decide) rfl (fun ls hl => ?_)
          refine lv_goto (tgt := 33) hx hb dX9_read_93 (by decide) ?_
          exact ih33 _ _ _ _ _ _ _ _ _ _ hf _ _ _ hP hD hS (lv_sub hl [3, 4, 1, 0] rfl)
        · have hf := wk_itF hf c3
          refine lv_iconst (v := (0 : Int32)) hx hb dX9_read_85 (by decide) ?_
          exact hret _ _ _ _ _ _ dX9_read_86 (wk_rt hf (fun z => wk_bI (z.1))) (wk_rt hf (fun z => w_X9_read cB cI cJ a_this a_bytes a_numbers a_bytes_cells a_numbers_cells v_length (z.2.1) (z.2.2.1) (z.2.2.2.1) (z.2.2.2.2.1) (z.2.2.2.2.2.1) (z.2.2.2.2.2.2.1) v_bytes (z.2.2.2.2.2.2.2))) hP hD hS
    intro v_behind v_kind v_county v_rank v_value v_hour v_numbers x2 x3 x4 hf H locs ls hP hD hS hl
    have hf : B_X9_read_33 N v_length v_bytes k33 v_behind v_kind v_county v_rank v_value v_hour v_numbers x2 x3 x4 = some (r, o_behind, o_kind, o_county, o_rank, o_value, o_hour, o_numbers) := hf
    unfold B_X9_read_33 at hf
    refine lv_iload hx hb dX9_read_33 (lv_at hl 3 rfl) ?_
    refine lv_iload_n hx hb dX9_read_35 rfl (lv_at hl 1 rfl) ?_
    refine lv_icmp_ge (tgt := 96) hx hb dX9_read_36 (by decide) (fun c6 => ?_) (fun c6 => ?_)
    · have hf := wk_itT hf c6
      refine lv_aload_n hx hb dX9_read_96 rfl (lv_at hl 0 rfl) ?_
      refine lv_iload_n hx hb dX9_read_97 rfl (lv_at hl 2 rfl) ?_
      refine va_put (D := D) (ci := 9) (v := .int x3) (ty := .int) (C := RX9) (T := TX9) (N := 9) hx hb hts in_X9_read_X9 tyX9 tyX9_ok nmX9 hown hK hP hD hS 0 rfl rfl 3 (by decide) (hts (.fieldLink RX9 27 "HangingCards$Text" "behind" "I") (List.mem_of_getElem? (i := 2) rfl)) (fun _ h9 => h9) rfl (by decide +kernel) rfl rfl (Nat.le_of_ble_eq_true rfl) dX9_read_98 (fun H locs hP hD hS => ?_)
      have hP : va_P D vwCl (w_X9_read cB cI cJ a_this a_bytes a_numbers a_bytes_cells a_numbers_cells v_length x3 v_kind v_county v_rank v_value v_hour v_bytes v_numbers) H := hP
      have hD : va_D A (w_X9_read cB cI cJ a_this a_bytes a_numbers a_bytes_cells a_numbers_cells v_length x3 v_kind v_county v_rank v_value v_hour v_bytes v_numbers) := hD
      refine lv_aload_n hx hb dX9_read_101 rfl (lv_at hl 0 rfl) ?_
      obtain ⟨o7_0, o7_1, o7_2, o7_3, hc7, hf⟩ := wk_b4E hf
      refine wk_callVv2 C hP hD hS (c_X9_tellNumbers l D cB cI cJ N a_this a_bytes a_numbers a_numbers_cells v_length x3 v_kind v_county v_rank v_value v_hour v_numbers hc7) (cwV 0 hts gX9_read_X9_tellNumbers rfl rfl rfl hd_X9_tellNumbers ⟨Nat.le_of_ble_eq_true rfl, Nat.le_of_ble_eq_true rfl⟩) hl.1 ⟨Nat.zero_le _, Nat.zero_le _⟩ [0, 3, 4] [1, 2] 5 (by decide +kernel) rfl (Wn := w_X9_read cB cI cJ a_this a_bytes a_numbers a_bytes_cells a_numbers_cells v_length x3 v_kind o7_0 o7_1 o7_2 o7_3 v_bytes v_numbers) rfl rfl rfl rfl rfl rfl (ci := 9) rfl rfl (q0 := 0) rfl rfl rfl (Nat.le_of_ble_eq_true rfl) dX9_read_102 (fun H locs hP hD hS => ?_)
      refine lv_aload_n hx hb dX9_read_105 rfl (lv_at hl 0 rfl) ?_
      obtain ⟨r8, hc8, hf⟩ := wk_b1E hf
      refine wk_callVi2 C hP hD hS (c_X9_isTold l D cB cI cJ N a_this a_bytes a_numbers v_length x3 v_kind o7_0 o7_1 o7_2 o7_3 hc8) (cwV 0 hts gX9_read_X9_isTold rfl rfl rfl hd_X9_isTold ⟨Nat.le_of_ble_eq_true rfl, Nat.le_of_ble_eq_true rfl⟩) hl.1 ⟨Nat.zero_le _, Nat.zero_le _⟩ [0] [1, 2, 3, 4] 5 (by decide +kernel) rfl (Wn := w_X9_read cB cI cJ a_this a_bytes a_numbers a_bytes_cells a_numbers_cells v_length x3 v_kind o7_0 o7_1 o7_2 o7_3 v_bytes v_numbers) rfl rfl rfl rfl rfl rfl (ci := 9) rfl rfl (q0 := 0) rfl rfl rfl (Nat.le_of_ble_eq_true rfl) dX9_read_106 (fun H locs hP hD hS => ?_)
      exact hret _ _ _ _ _ _ dX9_read_109 (wk_rt hf (fun z => wk_bI (z.1))) (wk_rt hf (fun z => w_X9_read cB cI cJ a_this a_bytes a_numbers a_bytes_cells a_numbers_cells v_length (z.2.1) (z.2.2.1) (z.2.2.2.1) (z.2.2.2.2.1) (z.2.2.2.2.2.1) (z.2.2.2.2.2.2.1) v_bytes (z.2.2.2.2.2.2.2))) hP hD hS
    · have hf := wk_itF hf c6
      refine lv_aload_n hx hb dX9_read_39 rfl (lv_at hl 0 rfl) ?_
      refine lv_iload_n hx hb dX9_read_40 rfl (lv_at hl 2 rfl) ?_
      refine lv_iload hx hb dX9_read_41 (lv_at hl 3 rfl) ?_
      obtain ⟨r9, o9_0, hc9, hf⟩ := wk_b2E hf
      refine wk_callVi2 C hP hD hS (c_X9_readNumber l D cB cI cJ N a_this a_bytes a_numbers a_bytes_cells a_numbers_cells v_length v_behind v_kind v_county v_rank v_value v_hour v_bytes v_numbers x3 x4 hc9) (cwV 2 hts gX9_read_X9_readNumber rfl rfl rfl hd_X9_readNumber ⟨Nat.le_of_ble_eq_true rfl, Nat.le_of_ble_eq_true rfl⟩) hl.1 ⟨Nat.zero_le _, Nat.zero_le _⟩ [0, 1, 2, 3, 4] [] 5 (by decide +kernel) rfl (Wn := w_X9_read cB cI cJ a_this a_bytes a_numbers a_bytes_cells a_numbers_cells v_length v_behind v_kind v_county v_rank v_value v_hour v_bytes o9_0) rfl rfl rfl rfl rfl rfl (ci := 9) rfl rfl (q0 := 0) rfl rfl rfl (Nat.le_of_ble_eq_true rfl) dX9_read_43 (fun H locs hP hD hS => ?_)
      refine lv_istore (lv' := [(5, .int r9), (0, .ref a_this), (2, .int x2), (3, .int x3), (4, .int x4)]) hx hb dX9_read_46 hl (by decide) rfl (fun ls hl => ?_)
      refine lv_iload_n hx hb dX9_read_48 rfl (lv_at hl 3 rfl) ?_
      refine lv_iload hx hb dX9_read_49 (lv_at hl 0 rfl) ?_
      refine lv_iadd hx hb dX9_read_51 ?_
      refine lv_topi (fun y10 ey10 => ?_)
      have hf := wk_nmE hf ey10
      refine lv_istore_n (lv' := [(3, .int y10), (5, .int r9), (0, .ref a_this), (2, .int x2), (4, .int x4)]) hx hb dX9_read_52 rfl hl (by decide) rfl (fun ls hl => ?_)
      refine lv_iload hx hb dX9_read_53 (lv_at hl 4 rfl) ?_
      refine lv_iconst (v := (1 : Int32)) hx hb dX9_read_55 (by decide) ?_
      refine lv_iadd hx hb dX9_read_56 ?_
      refine lv_iload_n hx hb dX9_read_57 rfl (lv_at hl 3 rfl) ?_
      refine lv_icmp_ge (tgt := 66) hx hb dX9_read_58 (by decide) (fun c11 => ?_) (fun c11 => ?_)
      · have hf := wk_itT hf c11
        refine lv_bipush (v := (59 : Int32)) hx hb dX9_read_66 (by decide) ?_
        exact J68 _ _ _ _ _ _ _ _ _ _ _ _ hf _ _ _ hP hD hS (lv_sub hl [2, 3, 0, 4, 1] rfl)
      · have hf := wk_itF hf c11
        refine lv_bipush (v := (44 : Int32)) hx hb dX9_read_61 (by decide) ?_
        refine lv_goto (tgt := 68) hx hb dX9_read_63 (by decide) ?_
        exact J68 _ _ _ _ _ _ _ _ _ _ _ _ hf _ _ _ hP hD hS (lv_sub hl [2, 3, 0, 4, 1] rfl))
  unfold f_X9_read at hf
  refine lv_aload_n hx hb dX9_read_0 rfl (lv_at hl 0 rfl) ?_
  refine lv_aload_n hx hb dX9_read_1 rfl (lv_at hl 0 rfl) ?_
  refine lv_iload_n hx hb dX9_read_2 rfl (lv_at hl 1 rfl) ?_
  obtain ⟨r12, hc12, hf⟩ := wk_b1E hf
  refine wk_callVi2 C hP hD hS (c_X9_byteAt l D cB cI cJ N a_this a_bytes a_numbers a_bytes_cells v_length v_behind v_kind v_county v_rank v_value v_hour v_bytes x1 hc12) (cwV 1 hts gX9_read_X9_byteAt rfl rfl rfl hd_X9_byteAt ⟨Nat.le_of_ble_eq_true rfl, Nat.le_of_ble_eq_true rfl⟩) hl.1 ⟨Nat.zero_le _, Nat.zero_le _⟩ [0, 1, 2] [3, 4] 5 (by decide +kernel) rfl (Wn := w_X9_read cB cI cJ a_this a_bytes a_numbers a_bytes_cells a_numbers_cells v_length v_behind v_kind v_county v_rank v_value v_hour v_bytes v_numbers) rfl rfl rfl rfl rfl rfl (ci := 9) rfl rfl (q0 := 0) rfl rfl rfl (Nat.le_of_ble_eq_true rfl) dX9_read_3 (fun H locs hP hD hS => ?_)
  obtain ⟨r13, hc13, hf⟩ := wk_b1E hf
  refine wk_callSi2 C hP hD hS (c_X9_kindOf l D cB cI cJ N r12 hc13) (va_cwS 1 hts gX9_read_X9_kindOf rfl rfl rfl hd_X9_kindOf.2 ⟨Nat.le_of_ble_eq_true rfl, Nat.le_of_ble_eq_true rfl⟩) hl.1 ⟨Nat.zero_le _, Nat.zero_le _⟩ [] [0, 1, 2, 3, 4] 5 (by decide +kernel) rfl (Wn := w_X9_read cB cI cJ a_this a_bytes a_numbers a_bytes_cells a_numbers_cells v_length v_behind v_kind v_county v_rank v_value v_hour v_bytes v_numbers) rfl rfl rfl rfl rfl rfl rfl rfl (Nat.le_of_ble_eq_true rfl) dX9_read_6 (fun H locs hP hD hS => ?_)
  refine va_put (D := D) (ci := 9) (v := .int r13) (ty := .int) (C := RX9) (T := TX9) (N := 9) hx hb hts in_X9_read_X9 tyX9 tyX9_ok nmX9 hown hK hP hD hS 0 rfl rfl 4 (by decide) (hts (.fieldLink RX9 30 "HangingCards$Text" "kind" "I") (List.mem_of_getElem? (i := 1) rfl)) (fun _ h9 => h9) rfl (by decide +kernel) rfl rfl (Nat.le_of_ble_eq_true rfl) dX9_read_9 (fun H locs hP hD hS => ?_)
  have hP : va_P D vwCl (w_X9_read cB cI cJ a_this a_bytes a_numbers a_bytes_cells a_numbers_cells v_length v_behind r13 v_county v_rank v_value v_hour v_bytes v_numbers) H := hP
  have hD : va_D A (w_X9_read cB cI cJ a_this a_bytes a_numbers a_bytes_cells a_numbers_cells v_length v_behind r13 v_county v_rank v_value v_hour v_bytes v_numbers) := hD
  refine lv_aload_n hx hb dX9_read_12 rfl (lv_at hl 0 rfl) ?_
  refine va_get (D := D) (ci := 9) (v := .int r13) (C := RX9) (T := TX9) (N := 9) hx hb hts in_X9_read_X9 hown hK hP 0 rfl rfl 4 (by decide) (hts (.fieldLink RX9 30 "HangingCards$Text" "kind" "I") (List.mem_of_getElem? (i := 1) rfl)) (fun _ h9 => h9) rfl dX9_read_13 ?_
  obtain ⟨r14, hc14, hf⟩ := wk_b1E hf
  refine wk_callSi2 C hP hD hS (c_X9_numbersOf l D cB cI cJ N r13 hc14) (va_cwS 1 hts gX9_read_X9_numbersOf rfl rfl rfl hd_X9_numbersOf.2 ⟨Nat.le_of_ble_eq_true rfl, Nat.le_of_ble_eq_true rfl⟩) hl.1 ⟨Nat.zero_le _, Nat.zero_le _⟩ [] [0, 1, 2, 3, 4] 5 (by decide +kernel) rfl (Wn := w_X9_read cB cI cJ a_this a_bytes a_numbers a_bytes_cells a_numbers_cells v_length v_behind r13 v_county v_rank v_value v_hour v_bytes v_numbers) rfl rfl rfl rfl rfl rfl rfl rfl (Nat.le_of_ble_eq_true rfl) dX9_read_16 (fun H locs hP hD hS => ?_)
  refine lv_istore_n (lv' := [(2, .int r14), (0, .ref a_this), (1, .int x1)]) hx hb dX9_read_19 rfl hl (by decide) rfl (fun ls hl => ?_)
  refine lv_iload_n hx hb dX9_read_20 rfl (lv_at hl 0 rfl) ?_
  refine lv_if_ne (tgt := 26) hx hb dX9_read_21 (by decide) (fun c15 => ?_) (fun c15 => ?_)
  · have hf := wk_itF hf c15
    refine lv_iload_n hx hb dX9_read_26 rfl (lv_at hl 2 rfl) ?_
    refine lv_iconst (v := (1 : Int32)) hx hb dX9_read_27 (by decide) ?_
    refine lv_iadd hx hb dX9_read_28 ?_
    refine lv_topi (fun y16 ey16 => ?_)
    have hf := wk_nmE hf ey16
    refine lv_istore_n (lv' := [(3, .int y16), (2, .int r14), (0, .ref a_this), (1, .int x1)]) hx hb dX9_read_29 rfl hl (by decide) rfl (fun ls hl => ?_)
    refine lv_iconst (v := (0 : Int32)) hx hb dX9_read_30 (by decide) ?_
    refine lv_istore (lv' := [(4, .int (0 : Int32)), (3, .int y16), (2, .int r14), (0, .ref a_this), (1, .int x1)]) hx hb dX9_read_31 hl (by decide) rfl (fun ls hl => ?_)
    exact L33 N _ _ _ _ _ _ _ _ _ _ hf _ _ _ hP hD hS (lv_sub hl [3, 2, 1, 0] rfl)
  · have hf := wk_itT hf c15
    refine lv_iconst (v := (0 : Int32)) hx hb dX9_read_24 (by decide) ?_
    exact hret _ _ _ _ _ _ dX9_read_25 (wk_rt hf (fun z => wk_bI (z.1))) (wk_rt hf (fun z => w_X9_read cB cI cJ a_this a_bytes a_numbers a_bytes_cells a_numbers_cells v_length (z.2.1) (z.2.2.1) (z.2.2.2.1) (z.2.2.2.2.1) (z.2.2.2.2.2.1) (z.2.2.2.2.2.2.1) v_bytes (z.2.2.2.2.2.2.2))) hP hD hS
abbrev w_X9_kind (cB cI cJ : ClassId) (a_this : Nat) (a_bytes : Nat) (a_numbers : Nat) (v_length : Int32) (v_behind : Int32) (v_kind : Int32) (v_county : Int32) (v_rank : Int32) (v_value : Int32) (v_hour : Int32) : va_W := [(a_this, .inr (9, [.ref a_bytes, .int v_length, .ref a_numbers, .int v_behind, .int v_kind, .int v_county, .int v_rank, .int v_value, .int v_hour]))]
theorem hd_X9_kind : yX9_kind.cls = RX9 ∧ yX9_kind.cls ≠ "java/lang/invoke/MethodHandle" ∧ yX9_kind.cls ≠ "java/lang/invoke/VarHandle" ∧ (parseMethodDescriptor yX9_kind.desc).map (fun d => d.parameters.length) = some 0 := by decide +kernel
abbrev rm_X9_kind : Room := { frames := 0, cells := 0, slots := 0, locals := 0 }
theorem in_X9_kind_X9 : ∀ w ∈ wsX90, w ∈ wsX9_kind := fun w h => List.mem_cons_of_mem _ (List.mem_append_right _ h)
set_option maxHeartbeats 4000000 in
set_option maxRecDepth 100000 in
theorem c_X9_kind (l : Launch) (D : va_G) (cB cI cJ : ClassId) (N : Nat) (a_this : Nat) (a_bytes : Nat) (a_numbers : Nat) (v_length : Int32) (v_behind : Int32) (v_kind : Int32) (v_county : Int32) (v_rank : Int32) (v_value : Int32) (v_hour : Int32) {r : Int32} (hf : f_X9_kind N v_kind = some r) : MTi l yX9_kind wsX9_kind rm_X9_kind D (wk_T cB cI cJ) [.ref a_this] (w_X9_kind cB cI cJ a_this a_bytes a_numbers v_length v_behind v_kind v_county v_rank v_value v_hour) (w_X9_kind cB cI cJ a_this a_bytes a_numbers v_length v_behind v_kind v_county v_rank v_value v_hour) r := by
  refine MTi.of (cc := cX9_kind) (nL := 1) (rt := .int) (own := RX9) pn_X9 rfl rfl (Nat.le_of_ble_eq_true rfl) rfl ?_
  intro p e s m args below meth c A ls Q C hP hD hS hl hret
  obtain ⟨hx, hb, hml, hts, hown, hK, hN, hA, hlk⟩ := id C
  have hl : lv_has ls 1 [(0, .ref a_this)] := hl
  unfold f_X9_kind at hf
  refine lv_aload_n hx hb dX9_kind_0 rfl (lv_at hl 0 rfl) ?_
  refine va_get (D := D) (ci := 9) (v := .int v_kind) (C := RX9) (T := TX9) (N := 9) hx hb hts in_X9_kind_X9 hown hK hP 0 rfl rfl 4 (by decide) (hts (.fieldLink RX9 30 "HangingCards$Text" "kind" "I") (List.mem_of_getElem? (i := 1) rfl)) (fun _ h9 => h9) rfl dX9_kind_1 ?_
  exact hret _ _ _ _ _ _ dX9_kind_4 (wk_rt hf (fun z => z)) rfl hP hD hS
abbrev w_X9_county (cB cI cJ : ClassId) (a_this : Nat) (a_bytes : Nat) (a_numbers : Nat) (v_length : Int32) (v_behind : Int32) (v_kind : Int32) (v_county : Int32) (v_rank : Int32) (v_value : Int32) (v_hour : Int32) : va_W := [(a_this, .inr (9, [.ref a_bytes, .int v_length, .ref a_numbers, .int v_behind, .int v_kind, .int v_county, .int v_rank, .int v_value, .int v_hour]))]
theorem hd_X9_county : yX9_county.cls = RX9 ∧ yX9_county.cls ≠ "java/lang/invoke/MethodHandle" ∧ yX9_county.cls ≠ "java/lang/invoke/VarHandle" ∧ (parseMethodDescriptor yX9_county.desc).map (fun d => d.parameters.length) = some 0 := by decide +kernel
abbrev rm_X9_county : Room := { frames := 0, cells := 0, slots := 0, locals := 0 }
theorem in_X9_county_X9 : ∀ w ∈ wsX90, w ∈ wsX9_county := fun w h => List.mem_cons_of_mem _ (List.mem_append_right _ h)
set_option maxHeartbeats 4000000 in
set_option maxRecDepth 100000 in
theorem c_X9_county (l : Launch) (D : va_G) (cB cI cJ : ClassId) (N : Nat) (a_this : Nat) (a_bytes : Nat) (a_numbers : Nat) (v_length : Int32) (v_behind : Int32) (v_kind : Int32) (v_county : Int32) (v_rank : Int32) (v_value : Int32) (v_hour : Int32) {r : Int32} (hf : f_X9_county N v_county = some r) : MTi l yX9_county wsX9_county rm_X9_county D (wk_T cB cI cJ) [.ref a_this] (w_X9_county cB cI cJ a_this a_bytes a_numbers v_length v_behind v_kind v_county v_rank v_value v_hour) (w_X9_county cB cI cJ a_this a_bytes a_numbers v_length v_behind v_kind v_county v_rank v_value v_hour) r := by
  refine MTi.of (cc := cX9_county) (nL := 1) (rt := .int) (own := RX9) pn_X9 rfl rfl (Nat.le_of_ble_eq_true rfl) rfl ?_
  intro p e s m args below meth c A ls Q C hP hD hS hl hret
  obtain ⟨hx, hb, hml, hts, hown, hK, hN, hA, hlk⟩ := id C
  have hl : lv_has ls 1 [(0, .ref a_this)] := hl
  unfold f_X9_county at hf
  refine lv_aload_n hx hb dX9_county_0 rfl (lv_at hl 0 rfl) ?_
  refine va_get (D := D) (ci := 9) (v := .int v_county) (C := RX9) (T := TX9) (N := 9) hx hb hts in_X9_county_X9 hown hK hP 0 rfl rfl 5 (by decide) (hts (.fieldLink RX9 33 "HangingCards$Text" "county" "I") (List.mem_of_getElem? (i := 1) rfl)) (fun _ h9 => h9) rfl dX9_county_1 ?_
  exact hret _ _ _ _ _ _ dX9_county_4 (wk_rt hf (fun z => z)) rfl hP hD hS
abbrev w_X9_rank (cB cI cJ : ClassId) (a_this : Nat) (a_bytes : Nat) (a_numbers : Nat) (v_length : Int32) (v_behind : Int32) (v_kind : Int32) (v_county : Int32) (v_rank : Int32) (v_value : Int32) (v_hour : Int32) : va_W := [(a_this, .inr (9, [.ref a_bytes, .int v_length, .ref a_numbers, .int v_behind, .int v_kind, .int v_county, .int v_rank, .int v_value, .int v_hour]))]
theorem hd_X9_rank : yX9_rank.cls = RX9 ∧ yX9_rank.cls ≠ "java/lang/invoke/MethodHandle" ∧ yX9_rank.cls ≠ "java/lang/invoke/VarHandle" ∧ (parseMethodDescriptor yX9_rank.desc).map (fun d => d.parameters.length) = some 0 := by decide +kernel
abbrev rm_X9_rank : Room := { frames := 0, cells := 0, slots := 0, locals := 0 }
theorem in_X9_rank_X9 : ∀ w ∈ wsX90, w ∈ wsX9_rank := fun w h => List.mem_cons_of_mem _ (List.mem_append_right _ h)
set_option maxHeartbeats 4000000 in
set_option maxRecDepth 100000 in
theorem c_X9_rank (l : Launch) (D : va_G) (cB cI cJ : ClassId) (N : Nat) (a_this : Nat) (a_bytes : Nat) (a_numbers : Nat) (v_length : Int32) (v_behind : Int32) (v_kind : Int32) (v_county : Int32) (v_rank : Int32) (v_value : Int32) (v_hour : Int32) {r : Int32} (hf : f_X9_rank N v_rank = some r) : MTi l yX9_rank wsX9_rank rm_X9_rank D (wk_T cB cI cJ) [.ref a_this] (w_X9_rank cB cI cJ a_this a_bytes a_numbers v_length v_behind v_kind v_county v_rank v_value v_hour) (w_X9_rank cB cI cJ a_this a_bytes a_numbers v_length v_behind v_kind v_county v_rank v_value v_hour) r := by
  refine MTi.of (cc := cX9_rank) (nL := 1) (rt := .int) (own := RX9) pn_X9 rfl rfl (Nat.le_of_ble_eq_true rfl) rfl ?_
  intro p e s m args below meth c A ls Q C hP hD hS hl hret
  obtain ⟨hx, hb, hml, hts, hown, hK, hN, hA, hlk⟩ := id C
  have hl : lv_has ls 1 [(0, .ref a_this)] := hl
  unfold f_X9_rank at hf
  refine lv_aload_n hx hb dX9_rank_0 rfl (lv_at hl 0 rfl) ?_
  refine va_get (D := D) (ci := 9) (v := .int v_rank) (C := RX9) (T := TX9) (N := 9) hx hb hts in_X9_rank_X9 hown hK hP 0 rfl rfl 6 (by decide) (hts (.fieldLink RX9 36 "HangingCards$Text" "rank" "I") (List.mem_of_getElem? (i := 1) rfl)) (fun _ h9 => h9) rfl dX9_rank_1 ?_
  exact hret _ _ _ _ _ _ dX9_rank_4 (wk_rt hf (fun z => z)) rfl hP hD hS
abbrev w_X9_value (cB cI cJ : ClassId) (a_this : Nat) (a_bytes : Nat) (a_numbers : Nat) (v_length : Int32) (v_behind : Int32) (v_kind : Int32) (v_county : Int32) (v_rank : Int32) (v_value : Int32) (v_hour : Int32) : va_W := [(a_this, .inr (9, [.ref a_bytes, .int v_length, .ref a_numbers, .int v_behind, .int v_kind, .int v_county, .int v_rank, .int v_value, .int v_hour]))]
theorem hd_X9_value : yX9_value.cls = RX9 ∧ yX9_value.cls ≠ "java/lang/invoke/MethodHandle" ∧ yX9_value.cls ≠ "java/lang/invoke/VarHandle" ∧ (parseMethodDescriptor yX9_value.desc).map (fun d => d.parameters.length) = some 0 := by decide +kernel
abbrev rm_X9_value : Room := { frames := 0, cells := 0, slots := 0, locals := 0 }
theorem in_X9_value_X9 : ∀ w ∈ wsX90, w ∈ wsX9_value := fun w h => List.mem_cons_of_mem _ (List.mem_append_right _ h)
set_option maxHeartbeats 4000000 in
set_option maxRecDepth 100000 in
theorem c_X9_value (l : Launch) (D : va_G) (cB cI cJ : ClassId) (N : Nat) (a_this : Nat) (a_bytes : Nat) (a_numbers : Nat) (v_length : Int32) (v_behind : Int32) (v_kind : Int32) (v_county : Int32) (v_rank : Int32) (v_value : Int32) (v_hour : Int32) {r : Int32} (hf : f_X9_value N v_value = some r) : MTi l yX9_value wsX9_value rm_X9_value D (wk_T cB cI cJ) [.ref a_this] (w_X9_value cB cI cJ a_this a_bytes a_numbers v_length v_behind v_kind v_county v_rank v_value v_hour) (w_X9_value cB cI cJ a_this a_bytes a_numbers v_length v_behind v_kind v_county v_rank v_value v_hour) r := by
  refine MTi.of (cc := cX9_value) (nL := 1) (rt := .int) (own := RX9) pn_X9 rfl rfl (Nat.le_of_ble_eq_true rfl) rfl ?_
  intro p e s m args below meth c A ls Q C hP hD hS hl hret
  obtain ⟨hx, hb, hml, hts, hown, hK, hN, hA, hlk⟩ := id C
  have hl : lv_has ls 1 [(0, .ref a_this)] := hl
  unfold f_X9_value at hf
  refine lv_aload_n hx hb dX9_value_0 rfl (lv_at hl 0 rfl) ?_
  refine va_get (D := D) (ci := 9) (v := .int v_value) (C := RX9) (T := TX9) (N := 9) hx hb hts in_X9_value_X9 hown hK hP 0 rfl rfl 7 (by decide) (hts (.fieldLink RX9 39 "HangingCards$Text" "value" "I") (List.mem_of_getElem? (i := 1) rfl)) (fun _ h9 => h9) rfl dX9_value_1 ?_
  exact hret _ _ _ _ _ _ dX9_value_4 (wk_rt hf (fun z => z)) rfl hP hD hS
abbrev w_X9_hour (cB cI cJ : ClassId) (a_this : Nat) (a_bytes : Nat) (a_numbers : Nat) (v_length : Int32) (v_behind : Int32) (v_kind : Int32) (v_county : Int32) (v_rank : Int32) (v_value : Int32) (v_hour : Int32) : va_W := [(a_this, .inr (9, [.ref a_bytes, .int v_length, .ref a_numbers, .int v_behind, .int v_kind, .int v_county, .int v_rank, .int v_value, .int v_hour]))]
theorem hd_X9_hour : yX9_hour.cls = RX9 ∧ yX9_hour.cls ≠ "java/lang/invoke/MethodHandle" ∧ yX9_hour.cls ≠ "java/lang/invoke/VarHandle" ∧ (parseMethodDescriptor yX9_hour.desc).map (fun d => d.parameters.length) = some 0 := by decide +kernel
abbrev rm_X9_hour : Room := { frames := 0, cells := 0, slots := 0, locals := 0 }
theorem in_X9_hour_X9 : ∀ w ∈ wsX90, w ∈ wsX9_hour := fun w h => List.mem_cons_of_mem _ (List.mem_append_right _ h)
set_option maxHeartbeats 4000000 in
set_option maxRecDepth 100000 in
theorem c_X9_hour (l : Launch) (D : va_G) (cB cI cJ : ClassId) (N : Nat) (a_this : Nat) (a_bytes : Nat) (a_numbers : Nat) (v_length : Int32) (v_behind : Int32) (v_kind : Int32) (v_county : Int32) (v_rank : Int32) (v_value : Int32) (v_hour : Int32) {r : Int32} (hf : f_X9_hour N v_hour = some r) : MTi l yX9_hour wsX9_hour rm_X9_hour D (wk_T cB cI cJ) [.ref a_this] (w_X9_hour cB cI cJ a_this a_bytes a_numbers v_length v_behind v_kind v_county v_rank v_value v_hour) (w_X9_hour cB cI cJ a_this a_bytes a_numbers v_length v_behind v_kind v_county v_rank v_value v_hour) r := by
  refine MTi.of (cc := cX9_hour) (nL := 1) (rt := .int) (own := RX9) pn_X9 rfl rfl (Nat.le_of_ble_eq_true rfl) rfl ?_
  intro p e s m args below meth c A ls Q C hP hD hS hl hret
  obtain ⟨hx, hb, hml, hts, hown, hK, hN, hA, hlk⟩ := id C
  have hl : lv_has ls 1 [(0, .ref a_this)] := hl
  unfold f_X9_hour at hf
  refine lv_aload_n hx hb dX9_hour_0 rfl (lv_at hl 0 rfl) ?_
  refine va_get (D := D) (ci := 9) (v := .int v_hour) (C := RX9) (T := TX9) (N := 9) hx hb hts in_X9_hour_X9 hown hK hP 0 rfl rfl 8 (by decide) (hts (.fieldLink RX9 42 "HangingCards$Text" "hour" "I") (List.mem_of_getElem? (i := 1) rfl)) (fun _ h9 => h9) rfl dX9_hour_1 ?_
  exact hret _ _ _ _ _ _ dX9_hour_4 (wk_rt hf (fun z => z)) rfl hP hD hS
abbrev w_X9_behind (cB cI cJ : ClassId) (a_this : Nat) (a_bytes : Nat) (a_numbers : Nat) (v_length : Int32) (v_behind : Int32) (v_kind : Int32) (v_county : Int32) (v_rank : Int32) (v_value : Int32) (v_hour : Int32) : va_W := [(a_this, .inr (9, [.ref a_bytes, .int v_length, .ref a_numbers, .int v_behind, .int v_kind, .int v_county, .int v_rank, .int v_value, .int v_hour]))]
theorem hd_X9_behind : yX9_behind.cls = RX9 ∧ yX9_behind.cls ≠ "java/lang/invoke/MethodHandle" ∧ yX9_behind.cls ≠ "java/lang/invoke/VarHandle" ∧ (parseMethodDescriptor yX9_behind.desc).map (fun d => d.parameters.length) = some 0 := by decide +kernel
abbrev rm_X9_behind : Room := { frames := 0, cells := 0, slots := 0, locals := 0 }
theorem in_X9_behind_X9 : ∀ w ∈ wsX90, w ∈ wsX9_behind := fun w h => List.mem_cons_of_mem _ (List.mem_append_right _ h)
set_option maxHeartbeats 4000000 in
set_option maxRecDepth 100000 in
theorem c_X9_behind (l : Launch) (D : va_G) (cB cI cJ : ClassId) (N : Nat) (a_this : Nat) (a_bytes : Nat) (a_numbers : Nat) (v_length : Int32) (v_behind : Int32) (v_kind : Int32) (v_county : Int32) (v_rank : Int32) (v_value : Int32) (v_hour : Int32) {r : Int32} (hf : f_X9_behind N v_behind = some r) : MTi l yX9_behind wsX9_behind rm_X9_behind D (wk_T cB cI cJ) [.ref a_this] (w_X9_behind cB cI cJ a_this a_bytes a_numbers v_length v_behind v_kind v_county v_rank v_value v_hour) (w_X9_behind cB cI cJ a_this a_bytes a_numbers v_length v_behind v_kind v_county v_rank v_value v_hour) r := by
  refine MTi.of (cc := cX9_behind) (nL := 1) (rt := .int) (own := RX9) pn_X9 rfl rfl (Nat.le_of_ble_eq_true rfl) rfl ?_
  intro p e s m args below meth c A ls Q C hP hD hS hl hret
  obtain ⟨hx, hb, hml, hts, hown, hK, hN, hA, hlk⟩ := id C
  have hl : lv_has ls 1 [(0, .ref a_this)] := hl
  unfold f_X9_behind at hf
  refine lv_aload_n hx hb dX9_behind_0 rfl (lv_at hl 0 rfl) ?_
  refine va_get (D := D) (ci := 9) (v := .int v_behind) (C := RX9) (T := TX9) (N := 9) hx hb hts in_X9_behind_X9 hown hK hP 0 rfl rfl 3 (by decide) (hts (.fieldLink RX9 27 "HangingCards$Text" "behind" "I") (List.mem_of_getElem? (i := 1) rfl)) (fun _ h9 => h9) rfl dX9_behind_1 ?_
  exact hret _ _ _ _ _ _ dX9_behind_4 (wk_rt hf (fun z => z)) rfl hP hD hS
abbrev w_X9_append (cB cI cJ : ClassId) (a_this : Nat) (a_bytes : Nat) (a_numbers : Nat) (a_bytes_cells : Nat) (v_length : Int32) (v_behind : Int32) (v_kind : Int32) (v_county : Int32) (v_rank : Int32) (v_value : Int32) (v_hour : Int32) (v_bytes : Nat → Int32) : va_W := [(a_this, .inr (9, [.ref a_bytes, .int v_length, .ref a_numbers, .int v_behind, .int v_kind, .int v_county, .int v_rank, .int v_value, .int v_hour])), (a_bytes, .inr (6, [.ref a_bytes_cells])), (a_bytes_cells, .inl (cI, 200, .inl v_bytes))]
theorem hd_X9_append : yX9_append.cls = RX9 ∧ yX9_append.cls ≠ "java/lang/invoke/MethodHandle" ∧ yX9_append.cls ≠ "java/lang/invoke/VarHandle" ∧ (parseMethodDescriptor yX9_append.desc).map (fun d => d.parameters.length) = some 2 := by decide +kernel
abbrev rm_X9_append : Room := { frames := 1, cells := 0, slots := 0, locals := 22 }
theorem in_X9_append_X9 : ∀ w ∈ wsX90, w ∈ wsX9_append := fun w h => List.mem_cons_of_mem _ (List.mem_append_left _ (List.mem_append_right _ h))
set_option maxHeartbeats 4000000 in
set_option maxRecDepth 100000 in
theorem c_X9_append (l : Launch) (D : va_G) (cB cI cJ : ClassId) (N : Nat) (a_this : Nat) (a_bytes : Nat) (a_numbers : Nat) (a_bytes_cells : Nat) (v_length : Int32) (v_behind : Int32) (v_kind : Int32) (v_county : Int32) (v_rank : Int32) (v_value : Int32) (v_hour : Int32) (v_bytes : Nat → Int32) (x1 : Int32) (x2 : Int64) {r : Int32} {o_length : Int32} {o_bytes : Nat → Int32} (hf : f_X9_append N v_length v_bytes x1 x2 = some (r, o_length, o_bytes)) : MTi l yX9_append wsX9_append rm_X9_append D (wk_T cB cI cJ) [.ref a_this, .int x1, .long x2] (w_X9_append cB cI cJ a_this a_bytes a_numbers a_bytes_cells v_length v_behind v_kind v_county v_rank v_value v_hour v_bytes) (w_X9_append cB cI cJ a_this a_bytes a_numbers a_bytes_cells o_length v_behind v_kind v_county v_rank v_value v_hour o_bytes) r := by
  refine MTi.of (cc := cX9_append) (nL := 5) (rt := .int) (own := RX9) pn_X9 rfl rfl (Nat.le_of_ble_eq_true rfl) rfl ?_
  intro p e s m args below meth c A ls Q C hP hD hS hl hret
  obtain ⟨hx, hb, hml, hts, hown, hK, hN, hA, hlk⟩ := id C
  have hl : lv_has ls 5 [(0, .ref a_this), (1, .int x1), (2, .long x2)] := hl
  have L20 := wk_loopI (F := (fun k20 : Int32 → (Nat → Int32) → Int64 → Int32 → Option (Int32 × Int32 × (Nat → Int32)) => B_X9_append_20 N k20)) (bot := fun _ _ _ _ => none) (fun k20 : Int32 → (Nat → Int32) → Int64 → Int32 → Option (Int32 × Int32 × (Nat → Int32)) => ∀ (v_length : Int32) (v_bytes : Nat → Int32) (x2 : Int64) (x4 : Int32), k20 v_length v_bytes x2 x4 = some (r, o_length, o_bytes) → ∀ (H : Heap) (locs : List Loc) (ls : Array Slot), va_P D vwCl (w_X9_append cB cI cJ a_this a_bytes a_numbers a_bytes_cells v_length v_behind v_kind v_county v_rank v_value v_hour v_bytes) H → va_D A (w_X9_append cB cI cJ a_this a_bytes a_numbers a_bytes_cells v_length v_behind v_kind v_county v_rank v_value v_hour v_bytes) → va_S A s.heap H locs → lv_has ls 5 [(0, .ref a_this), (2, .long x2), (4, .int x4)] → W p l e rm_X9_append s m args below meth c H locs 0 0 Q (F0 m 20 ls [])) (by intro v_length v_bytes x2 x4 hf; exact wk_no hf) (by
    intro k20 ih20
    intro v_length v_bytes x2 x4 hf H locs ls hP hD hS hl
    have hf : B_X9_append_20 N k20 v_length v_bytes x2 x4 = some (r, o_length, o_bytes) := hf
    unfold B_X9_append_20 at hf
    refine lv_iload hx hb dX9_append_20 (lv_at hl 2 rfl) ?_
    refine lv_if_lt (tgt := 64) hx hb dX9_append_22 (by decide) (fun c1 => ?_) (fun c1 => ?_)
    · have hf := wk_itT hf c1
      refine lv_aload_n hx hb dX9_append_64 rfl (lv_at hl 0 rfl) ?_
      refine va_get (D := D) (ci := 9) (v := .int v_length) (C := RX9) (T := TX9) (N := 9) hx hb hts in_X9_append_X9 hown hK hP 0 rfl rfl 1 (by decide) (hts (.fieldLink RX9 20 "HangingCards$Text" "length" "I") (List.mem_of_getElem? (i := 1) rfl)) (fun _ h9 => h9) rfl dX9_append_65 ?_
      exact hret _ _ _ _ _ _ dX9_append_68 (wk_rt hf (fun z => z.1)) (wk_rt hf (fun z => w_X9_append cB cI cJ a_this a_bytes a_numbers a_bytes_cells (z.2.1) v_behind v_kind v_county v_rank v_value v_hour (z.2.2))) hP hD hS
    · have hf := wk_itF hf c1
      refine lv_aload_n hx hb dX9_append_25 rfl (lv_at hl 0 rfl) ?_
      refine va_get (D := D) (ci := 9) (v := .ref a_bytes) (C := RX9) (T := TX9) (N := 9) hx hb hts in_X9_append_X9 hown hK hP 0 rfl rfl 0 (by decide) (hts (.fieldLink RX9 14 "HangingCards$Text" "bytes" "LHangingCards$Row;") (List.mem_of_getElem? (i := 2) rfl)) (fun _ h9 => h9) rfl dX9_append_26 ?_
      refine lv_aload_n hx hb dX9_append_29 rfl (lv_at hl 0 rfl) ?_
      refine va_get (D := D) (ci := 9) (v := .int v_length) (C := RX9) (T := TX9) (N := 9) hx hb hts in_X9_append_X9 hown hK hP 0 rfl rfl 1 (by decide) (hts (.fieldLink RX9 20 "HangingCards$Text" "length" "I") (List.mem_of_getElem? (i := 1) rfl)) (fun _ h9 => h9) rfl dX9_append_30 ?_
      refine lv_lload_n hx hb dX9_append_33 rfl (lv_at hl 1 rfl) ?_
      refine lv_bipush (v := (8 : Int32)) hx hb dX9_append_34 (by decide) ?_
      refine lv_iload hx hb dX9_append_36 (lv_at hl 2 rfl) ?_
      refine lv_imul hx hb dX9_append_38 ?_
      refine lv_lushr (v := ((x2.toUInt64 >>> (((8 : Int32) * x4).toInt64.toUInt64 &&& Int64.toUInt64 63)).toInt64)) hx hb dX9_append_39 rfl ?_
      refine lv_l2i (v := (((x2.toUInt64 >>> (((8 : Int32) * x4).toInt64.toUInt64 &&& Int64.toUInt64 63)).toInt64).toInt32)) hx hb dX9_append_40 rfl ?_
      refine lv_sipush (v := (255 : Int32)) hx hb dX9_append_41 (by decide) ?_
      refine lv_iand hx hb dX9_append_44 ?_
      obtain ⟨o2_0, hc2, hf⟩ := wk_b1E hf
      refine wk_callVv2 C hP hD hS (c_X6_set l D cB cI cJ N a_bytes a_bytes_cells 200 v_bytes v_length ((((x2.toUInt64 >>> (((8 : Int32) * x4).toInt64.toUInt64 &&& Int64.toUInt64 63)).toInt64).toInt32) &&& (255 : Int32)) hc2) (cwV 2 hts gX9_append_X6_set rfl rfl rfl hd_X6_set ⟨Nat.le_of_ble_eq_true rfl, Nat.le_of_ble_eq_true rfl⟩) hl.1 ⟨Nat.zero_le _, Nat.zero_le _⟩ [1, 2] [0] 3 (by decide +kernel) rfl (Wn := w_X9_append cB cI cJ a_this a_bytes a_numbers a_bytes_cells v_length v_behind v_kind v_county v_rank v_value v_hour o2_0) rfl rfl rfl rfl rfl rfl (ci := 6) rfl rfl (q0 := 1) rfl rfl rfl (Nat.le_of_ble_eq_true rfl) dX9_append_45 (fun H locs hP hD hS => ?_)
      refine lv_aload_n hx hb dX9_append_48 rfl (lv_at hl 0 rfl) ?_
      refine lv_dup hx hb dX9_append_49 rfl ?_
      refine va_get (D := D) (ci := 9) (v := .int v_length) (C := RX9) (T := TX9) (N := 9) hx hb hts in_X9_append_X9 hown hK hP 0 rfl rfl 1 (by decide) (hts (.fieldLink RX9 20 "HangingCards$Text" "length" "I") (List.mem_of_getElem? (i := 1) rfl)) (fun _ h9 => h9) rfl dX9_append_50 ?_
      refine lv_iconst (v := (1 : Int32)) hx hb dX9_append_53 (by decide) ?_
      refine lv_iadd hx hb dX9_append_54 ?_
      refine va_put (D := D) (ci := 9) (v := .int (v_length + (1 : Int32))) (ty := .int) (C := RX9) (T := TX9) (N := 9) hx hb hts in_X9_append_X9 tyX9 tyX9_ok nmX9 hown hK hP hD hS 0 rfl rfl 1 (by decide) (hts (.fieldLink RX9 20 "HangingCards$Text" "length" "I") (List.mem_of_getElem? (i := 1) rfl)) (fun _ h9 => h9) rfl (by decide +kernel) rfl rfl (Nat.le_of_ble_eq_true rfl) dX9_append_55 (fun H locs hP hD hS => ?_)
      have hP : va_P D vwCl (w_X9_append cB cI cJ a_this a_bytes a_numbers a_bytes_cells (v_length + (1 : Int32)) v_behind v_kind v_county v_rank v_value v_hour o2_0) H := hP
      have hD : va_D A (w_X9_append cB cI cJ a_this a_bytes a_numbers a_bytes_cells (v_length + (1 : Int32)) v_behind v_kind v_county v_rank v_value v_hour o2_0) := hD
      obtain ⟨y3, ey3⟩ : ∃ y : Int32, y = x4 + (-1 : Int32) := ⟨_, rfl⟩
      have hf := wk_nmE hf ey3
      refine lv_iinc (v := y3) (lv' := [(4, .int y3), (0, .ref a_this), (2, .long x2)]) hx hb dX9_append_58 hl (k := 2) rfl (by rw [ey3]; rfl) (by decide) rfl (fun ls hl => ?_)
      refine lv_goto (tgt := 20) hx hb dX9_append_61 (by decide) ?_
      exact ih20 _ _ _ _ hf _ _ _ hP hD hS (lv_sub hl [1, 2, 0] rfl))
  unfold f_X9_append at hf
  refine lv_aload_n hx hb dX9_append_0 rfl (lv_at hl 0 rfl) ?_
  refine va_get (D := D) (ci := 9) (v := .int v_length) (C := RX9) (T := TX9) (N := 9) hx hb hts in_X9_append_X9 hown hK hP 0 rfl rfl 1 (by decide) (hts (.fieldLink RX9 20 "HangingCards$Text" "length" "I") (List.mem_of_getElem? (i := 1) rfl)) (fun _ h9 => h9) rfl dX9_append_1 ?_
  refine lv_iload_n hx hb dX9_append_4 rfl (lv_at hl 1 rfl) ?_
  refine lv_iadd hx hb dX9_append_5 ?_
  refine lv_sipush (v := (200 : Int32)) hx hb dX9_append_6 (by decide) ?_
  refine lv_icmp_le (tgt := 15) hx hb dX9_append_9 (by decide) (fun c4 => ?_) (fun c4 => ?_)
  · have hf := wk_itT hf c4
    refine lv_iload_n hx hb dX9_append_15 rfl (lv_at hl 1 rfl) ?_
    refine lv_iconst (v := (1 : Int32)) hx hb dX9_append_16 (by decide) ?_
    refine lv_isub hx hb dX9_append_17 ?_
    refine lv_topi (fun y5 ey5 => ?_)
    have hf := wk_nmE hf ey5
    refine lv_istore (lv' := [(4, .int y5), (0, .ref a_this), (1, .int x1), (2, .long x2)]) hx hb dX9_append_18 hl (by decide) rfl (fun ls hl => ?_)
    exact L20 N _ _ _ _ hf _ _ _ hP hD hS (lv_sub hl [1, 3, 0] rfl)
  · have hf := wk_itF hf c4
    refine lv_bipush (v := (-3 : Int32)) hx hb dX9_append_12 (by decide) ?_
    exact hret _ _ _ _ _ _ dX9_append_14 (wk_rt hf (fun z => z.1)) (wk_rt hf (fun z => w_X9_append cB cI cJ a_this a_bytes a_numbers a_bytes_cells (z.2.1) v_behind v_kind v_county v_rank v_value v_hour (z.2.2))) hP hD hS
abbrev w_X9_clear (cB cI cJ : ClassId) (a_this : Nat) (a_bytes : Nat) (a_numbers : Nat) (v_length : Int32) (v_behind : Int32) (v_kind : Int32) (v_county : Int32) (v_rank : Int32) (v_value : Int32) (v_hour : Int32) : va_W := [(a_this, .inr (9, [.ref a_bytes, .int v_length, .ref a_numbers, .int v_behind, .int v_kind, .int v_county, .int v_rank, .int v_value, .int v_hour]))]
theorem hd_X9_clear : yX9_clear.cls = RX9 ∧ yX9_clear.cls ≠ "java/lang/invoke/MethodHandle" ∧ yX9_clear.cls ≠ "java/lang/invoke/VarHandle" ∧ (parseMethodDescriptor yX9_clear.desc).map (fun d => d.parameters.length) = some 0 := by decide +kernel
abbrev rm_X9_clear : Room := { frames := 0, cells := 0, slots := 0, locals := 0 }
theorem in_X9_clear_X9 : ∀ w ∈ wsX90, w ∈ wsX9_clear := fun w h => List.mem_cons_of_mem _ (List.mem_append_right _ h)
set_option maxHeartbeats 4000000 in
set_option maxRecDepth 100000 in
theorem c_X9_clear (l : Launch) (D : va_G) (cB cI cJ : ClassId) (N : Nat) (a_this : Nat) (a_bytes : Nat) (a_numbers : Nat) (v_length : Int32) (v_behind : Int32) (v_kind : Int32) (v_county : Int32) (v_rank : Int32) (v_value : Int32) (v_hour : Int32) {r : Int32} {o_length : Int32} (hf : f_X9_clear N v_length = some (r, o_length)) : MTi l yX9_clear wsX9_clear rm_X9_clear D (wk_T cB cI cJ) [.ref a_this] (w_X9_clear cB cI cJ a_this a_bytes a_numbers v_length v_behind v_kind v_county v_rank v_value v_hour) (w_X9_clear cB cI cJ a_this a_bytes a_numbers o_length v_behind v_kind v_county v_rank v_value v_hour) r := by
  refine MTi.of (cc := cX9_clear) (nL := 2) (rt := .int) (own := RX9) pn_X9 rfl rfl (Nat.le_of_ble_eq_true rfl) rfl ?_
  intro p e s m args below meth c A ls Q C hP hD hS hl hret
  obtain ⟨hx, hb, hml, hts, hown, hK, hN, hA, hlk⟩ := id C
  have hl : lv_has ls 2 [(0, .ref a_this)] := hl
  unfold f_X9_clear at hf
  refine lv_aload_n hx hb dX9_clear_0 rfl (lv_at hl 0 rfl) ?_
  refine va_get (D := D) (ci := 9) (v := .int v_length) (C := RX9) (T := TX9) (N := 9) hx hb hts in_X9_clear_X9 hown hK hP 0 rfl rfl 1 (by decide) (hts (.fieldLink RX9 20 "HangingCards$Text" "length" "I") (List.mem_of_getElem? (i := 1) rfl)) (fun _ h9 => h9) rfl dX9_clear_1 ?_
  refine lv_istore_n (lv' := [(1, .int v_length), (0, .ref a_this)]) hx hb dX9_clear_4 rfl hl (by decide) rfl (fun ls hl => ?_)
  refine lv_aload_n hx hb dX9_clear_5 rfl (lv_at hl 1 rfl) ?_
  refine lv_iconst (v := (0 : Int32)) hx hb dX9_clear_6 (by decide) ?_
  refine va_put (D := D) (ci := 9) (v := .int (0 : Int32)) (ty := .int) (C := RX9) (T := TX9) (N := 9) hx hb hts in_X9_clear_X9 tyX9 tyX9_ok nmX9 hown hK hP hD hS 0 rfl rfl 1 (by decide) (hts (.fieldLink RX9 20 "HangingCards$Text" "length" "I") (List.mem_of_getElem? (i := 1) rfl)) (fun _ h9 => h9) rfl (by decide +kernel) rfl rfl (Nat.le_of_ble_eq_true rfl) dX9_clear_7 (fun H locs hP hD hS => ?_)
  have hP : va_P D vwCl (w_X9_clear cB cI cJ a_this a_bytes a_numbers (0 : Int32) v_behind v_kind v_county v_rank v_value v_hour) H := hP
  have hD : va_D A (w_X9_clear cB cI cJ a_this a_bytes a_numbers (0 : Int32) v_behind v_kind v_county v_rank v_value v_hour) := hD
  refine lv_iload_n hx hb dX9_clear_10 rfl (lv_at hl 0 rfl) ?_
  exact hret _ _ _ _ _ _ dX9_clear_11 (wk_rt hf (fun z => z.1)) (wk_rt hf (fun z => w_X9_clear cB cI cJ a_this a_bytes a_numbers (z.2) v_behind v_kind v_county v_rank v_value v_hour)) hP hD hS
abbrev w_X9_firstFault (cB cI cJ : ClassId) (a_this : Nat) (a_bytes : Nat) (a_numbers : Nat) (a_bytes_cells : Nat) (a_numbers_cells : Nat) (v_length : Int32) (v_behind : Int32) (v_kind : Int32) (v_county : Int32) (v_rank : Int32) (v_value : Int32) (v_hour : Int32) (v_bytes : Nat → Int32) (v_numbers : Nat → Int32) : va_W := [(a_this, .inr (9, [.ref a_bytes, .int v_length, .ref a_numbers, .int v_behind, .int v_kind, .int v_county, .int v_rank, .int v_value, .int v_hour])), (a_bytes, .inr (6, [.ref a_bytes_cells])), (a_bytes_cells, .inl (cI, 200, .inl v_bytes)), (a_numbers, .inr (6, [.ref a_numbers_cells])), (a_numbers_cells, .inl (cI, 4, .inl v_numbers))]
theorem hd_X9_firstFault : yX9_firstFault.cls = RX9 ∧ yX9_firstFault.cls ≠ "java/lang/invoke/MethodHandle" ∧ yX9_firstFault.cls ≠ "java/lang/invoke/VarHandle" ∧ (parseMethodDescriptor yX9_firstFault.desc).map (fun d => d.parameters.length) = some 0 := by decide +kernel
abbrev rm_X9_firstFault : Room := { frames := 4, cells := 0, slots := 0, locals := 92 }
theorem in_X9_firstFault_X9 : ∀ w ∈ wsX90, w ∈ wsX9_firstFault := fun w h => List.mem_cons_of_mem _ (List.mem_append_left _ (List.mem_append_right _ h))
set_option maxHeartbeats 4000000 in
set_option maxRecDepth 100000 in
theorem c_X9_firstFault (l : Launch) (D : va_G) (cB cI cJ : ClassId) (N : Nat) (a_this : Nat) (a_bytes : Nat) (a_numbers : Nat) (a_bytes_cells : Nat) (a_numbers_cells : Nat) (v_length : Int32) (v_behind : Int32) (v_kind : Int32) (v_county : Int32) (v_rank : Int32) (v_value : Int32) (v_hour : Int32) (v_bytes : Nat → Int32) (v_numbers : Nat → Int32) {r : Int32} {o_behind : Int32} {o_kind : Int32} {o_county : Int32} {o_rank : Int32} {o_value : Int32} {o_hour : Int32} {o_numbers : Nat → Int32} (hf : f_X9_firstFault N v_length v_bytes v_behind v_kind v_county v_rank v_value v_hour v_numbers = some (r, o_behind, o_kind, o_county, o_rank, o_value, o_hour, o_numbers)) : MTi l yX9_firstFault wsX9_firstFault rm_X9_firstFault D (wk_T cB cI cJ) [.ref a_this] (w_X9_firstFault cB cI cJ a_this a_bytes a_numbers a_bytes_cells a_numbers_cells v_length v_behind v_kind v_county v_rank v_value v_hour v_bytes v_numbers) (w_X9_firstFault cB cI cJ a_this a_bytes a_numbers a_bytes_cells a_numbers_cells v_length o_behind o_kind o_county o_rank o_value o_hour v_bytes o_numbers) r := by
  refine MTi.of (cc := cX9_firstFault) (nL := 3) (rt := .int) (own := RX9) pn_X9 rfl rfl (Nat.le_of_ble_eq_true rfl) rfl ?_
  intro p e s m args below meth c A ls Q C hP hD hS hl hret
  obtain ⟨hx, hb, hml, hts, hown, hK, hN, hA, hlk⟩ := id C
  have hl : lv_has ls 3 [(0, .ref a_this)] := hl
  have L4 := wk_loopI (F := (fun k4 : Int32 → Int32 → Int32 → Int32 → Int32 → Int32 → (Nat → Int32) → Int32 → Int32 → Option (Int32 × Int32 × Int32 × Int32 × Int32 × Int32 × Int32 × (Nat → Int32)) => B_X9_firstFault_4 N v_length v_bytes k4)) (bot := fun _ _ _ _ _ _ _ _ _ => none) (fun k4 : Int32 → Int32 → Int32 → Int32 → Int32 → Int32 → (Nat → Int32) → Int32 → Int32 → Option (Int32 × Int32 × Int32 × Int32 × Int32 × Int32 × Int32 × (Nat → Int32)) => ∀ (v_behind : Int32) (v_kind : Int32) (v_county : Int32) (v_rank : Int32) (v_value : Int32) (v_hour : Int32) (v_numbers : Nat → Int32) (x1 : Int32) (x2 : Int32), k4 v_behind v_kind v_county v_rank v_value v_hour v_numbers x1 x2 = some (r, o_behind, o_kind, o_county, o_rank, o_value, o_hour, o_numbers) → ∀ (H : Heap) (locs : List Loc) (ls : Array Slot), va_P D vwCl (w_X9_firstFault cB cI cJ a_this a_bytes a_numbers a_bytes_cells a_numbers_cells v_length v_behind v_kind v_county v_rank v_value v_hour v_bytes v_numbers) H → va_D A (w_X9_firstFault cB cI cJ a_this a_bytes a_numbers a_bytes_cells a_numbers_cells v_length v_behind v_kind v_county v_rank v_value v_hour v_bytes v_numbers) → va_S A s.heap H locs → lv_has ls 3 [(0, .ref a_this), (1, .int x1), (2, .int x2)] → W p l e rm_X9_firstFault s m args below meth c H locs 0 0 Q (F0 m 4 ls [])) (by intro v_behind v_kind v_county v_rank v_value v_hour v_numbers x1 x2 hf; exact wk_no hf) (by
    intro k4 ih4
    intro v_behind v_kind v_county v_rank v_value v_hour v_numbers x1 x2 hf H locs ls hP hD hS hl
    have hf : B_X9_firstFault_4 N v_length v_bytes k4 v_behind v_kind v_county v_rank v_value v_hour v_numbers x1 x2 = some (r, o_behind, o_kind, o_county, o_rank, o_value, o_hour, o_numbers) := hf
    unfold B_X9_firstFault_4 at hf
    refine lv_iload_n hx hb dX9_firstFault_4 rfl (lv_at hl 2 rfl) ?_
    refine lv_sipush (v := (200 : Int32)) hx hb dX9_firstFault_5 (by decide) ?_
    refine lv_icmp_ge (tgt := 40) hx hb dX9_firstFault_8 (by decide) (fun c1 => ?_) (fun c1 => ?_)
    · have hf := wk_itT hf c1
      refine lv_bipush (v := (-4 : Int32)) hx hb dX9_firstFault_40 (by decide) ?_
      exact hret _ _ _ _ _ _ dX9_firstFault_42 (wk_rt hf (fun z => z.1)) (wk_rt hf (fun z => w_X9_firstFault cB cI cJ a_this a_bytes a_numbers a_bytes_cells a_numbers_cells v_length (z.2.1) (z.2.2.1) (z.2.2.2.1) (z.2.2.2.2.1) (z.2.2.2.2.2.1) (z.2.2.2.2.2.2.1) v_bytes (z.2.2.2.2.2.2.2))) hP hD hS
    · have hf := wk_itF hf c1
      refine lv_iload_n hx hb dX9_firstFault_11 rfl (lv_at hl 1 rfl) ?_
      refine lv_aload_n hx hb dX9_firstFault_12 rfl (lv_at hl 0 rfl) ?_
      refine va_get (D := D) (ci := 9) (v := .int v_length) (C := RX9) (T := TX9) (N := 9) hx hb hts in_X9_firstFault_X9 hown hK hP 0 rfl rfl 1 (by decide) (hts (.fieldLink RX9 20 "HangingCards$Text" "length" "I") (List.mem_of_getElem? (i := 1) rfl)) (fun _ h9 => h9) rfl dX9_firstFault_13 ?_
      refine lv_icmp_ge (tgt := 40) hx hb dX9_firstFault_16 (by decide) (fun c2 => ?_) (fun c2 => ?_)
      · have hf := wk_itT hf c2
        refine lv_bipush (v := (-4 : Int32)) hx hb dX9_firstFault_40 (by decide) ?_
        exact hret _ _ _ _ _ _ dX9_firstFault_42 (wk_rt hf (fun z => z.1)) (wk_rt hf (fun z => w_X9_firstFault cB cI cJ a_this a_bytes a_numbers a_bytes_cells a_numbers_cells v_length (z.2.1) (z.2.2.1) (z.2.2.2.1) (z.2.2.2.2.1) (z.2.2.2.2.2.1) (z.2.2.2.2.2.2.1) v_bytes (z.2.2.2.2.2.2.2))) hP hD hS
      · have hf := wk_itF hf c2
        refine lv_aload_n hx hb dX9_firstFault_19 rfl (lv_at hl 0 rfl) ?_
        refine lv_iload_n hx hb dX9_firstFault_20 rfl (lv_at hl 1 rfl) ?_
        obtain ⟨r3, o3_0, o3_1, o3_2, o3_3, o3_4, o3_5, o3_6, hc3, hf⟩ := wk_b8E hf
        refine wk_callVi2 C hP hD hS (c_X9_read l D cB cI cJ N a_this a_bytes a_numbers a_bytes_cells a_numbers_cells v_length v_behind v_kind v_county v_rank v_value v_hour v_bytes v_numbers x1 hc3) (cwV 1 hts gX9_firstFault_X9_read rfl rfl rfl hd_X9_read ⟨Nat.le_of_ble_eq_true rfl, Nat.le_of_ble_eq_true rfl⟩) hl.1 ⟨Nat.zero_le _, Nat.zero_le _⟩ [0, 1, 2, 3, 4] [] 5 (by decide +kernel) rfl (Wn := w_X9_firstFault cB cI cJ a_this a_bytes a_numbers a_bytes_cells a_numbers_cells v_length o3_0 o3_1 o3_2 o3_3 o3_4 o3_5 v_bytes o3_6) rfl rfl rfl rfl rfl rfl (ci := 9) rfl rfl (q0 := 0) rfl rfl rfl (Nat.le_of_ble_eq_true rfl) dX9_firstFault_21 (fun H locs hP hD hS => ?_)
        refine lv_if_ne (tgt := 29) hx hb dX9_firstFault_24 (by decide) (fun c4 => ?_) (fun c4 => ?_)
        · have hf := wk_itF hf c4
          refine lv_aload_n hx hb dX9_firstFault_29 rfl (lv_at hl 0 rfl) ?_
          refine va_get (D := D) (ci := 9) (v := .int o3_0) (C := RX9) (T := TX9) (N := 9) hx hb hts in_X9_firstFault_X9 hown hK hP 0 rfl rfl 3 (by decide) (hts (.fieldLink RX9 27 "HangingCards$Text" "behind" "I") (List.mem_of_getElem? (i := 2) rfl)) (fun _ h9 => h9) rfl dX9_firstFault_30 ?_
          refine lv_istore_n (lv' := [(1, .int o3_0), (0, .ref a_this), (2, .int x2)]) hx hb dX9_firstFault_33 rfl hl (by decide) rfl (fun ls hl => ?_)
          obtain ⟨y5, ey5⟩ : ∃ y : Int32, y = x2 + (1 : Int32) := ⟨_, rfl⟩
          have hf := wk_nmE hf ey5
          refine lv_iinc (v := y5) (lv' := [(2, .int y5), (1, .int o3_0), (0, .ref a_this)]) hx hb dX9_firstFault_34 hl (k := 2) rfl (by rw [ey5]; rfl) (by decide) rfl (fun ls hl => ?_)
          refine lv_goto (tgt := 4) hx hb dX9_firstFault_37 (by decide) ?_
          exact ih4 _ _ _ _ _ _ _ _ _ hf _ _ _ hP hD hS (lv_sub hl [2, 1, 0] rfl)
        · have hf := wk_itT hf c4
          refine lv_iload_n hx hb dX9_firstFault_27 rfl (lv_at hl 1 rfl) ?_
          exact hret _ _ _ _ _ _ dX9_firstFault_28 (wk_rt hf (fun z => z.1)) (wk_rt hf (fun z => w_X9_firstFault cB cI cJ a_this a_bytes a_numbers a_bytes_cells a_numbers_cells v_length (z.2.1) (z.2.2.1) (z.2.2.2.1) (z.2.2.2.2.1) (z.2.2.2.2.2.1) (z.2.2.2.2.2.2.1) v_bytes (z.2.2.2.2.2.2.2))) hP hD hS)
  unfold f_X9_firstFault at hf
  refine lv_iconst (v := (0 : Int32)) hx hb dX9_firstFault_0 (by decide) ?_
  refine lv_istore_n (lv' := [(1, .int (0 : Int32)), (0, .ref a_this)]) hx hb dX9_firstFault_1 rfl hl (by decide) rfl (fun ls hl => ?_)
  refine lv_iconst (v := (0 : Int32)) hx hb dX9_firstFault_2 (by decide) ?_
  refine lv_istore_n (lv' := [(2, .int (0 : Int32)), (1, .int (0 : Int32)), (0, .ref a_this)]) hx hb dX9_firstFault_3 rfl hl (by decide) rfl (fun ls hl => ?_)
  exact L4 N _ _ _ _ _ _ _ _ _ hf _ _ _ hP hD hS (lv_sub hl [2, 1, 0] rfl)
