abbrev w_X1_size (cB cI cJ : ClassId) (a_this : Nat) (a_kinds : Nat) (a_counties : Nat) (a_ranks : Nat) (a_values : Nat) (a_hours : Nat) (v_size : Int32) : va_W := [(a_this, .inr (1, [.ref a_kinds, .ref a_counties, .ref a_ranks, .ref a_values, .ref a_hours, .int v_size]))]
theorem hd_X1_size : yX1_size.cls = RX1 ∧ yX1_size.cls ≠ "java/lang/invoke/MethodHandle" ∧ yX1_size.cls ≠ "java/lang/invoke/VarHandle" ∧ (parseMethodDescriptor yX1_size.desc).map (fun d => d.parameters.length) = some 0 := by decide +kernel
abbrev rm_X1_size : Room := { frames := 0, cells := 0, slots := 0, locals := 0 }
theorem in_X1_size_X1 : ∀ w ∈ wsX10, w ∈ wsX1_size := fun w h => List.mem_cons_of_mem _ (List.mem_append_right _ h)
set_option maxHeartbeats 4000000 in
set_option maxRecDepth 100000 in
theorem c_X1_size (l : Launch) (D : va_G) (cB cI cJ : ClassId) (N : Nat) (a_this : Nat) (a_kinds : Nat) (a_counties : Nat) (a_ranks : Nat) (a_values : Nat) (a_hours : Nat) (v_size : Int32) {r : Int32} (hf : f_X1_size N v_size = some r) : MTi l yX1_size wsX1_size rm_X1_size D (wk_T cB cI cJ) [.ref a_this] (w_X1_size cB cI cJ a_this a_kinds a_counties a_ranks a_values a_hours v_size) (w_X1_size cB cI cJ a_this a_kinds a_counties a_ranks a_values a_hours v_size) r := by
  refine MTi.of (cc := cX1_size) (nL := 1) (rt := .int) (own := RX1) pn_X1 rfl rfl (Nat.le_of_ble_eq_true rfl) rfl ?_
  intro p e s m args below meth c A ls Q C hP hD hS hl hret
  obtain ⟨hx, hb, hml, hts, hown, hK, hN, hA, hlk⟩ := id C
  have hl : lv_has ls 1 [(0, .ref a_this)] := hl
  unfold f_X1_size at hf
  refine lv_aload_n hx hb dX1_size_0 rfl (lv_at hl 0 rfl) ?_
  refine va_get (D := D) (ci := 1) (v := .int v_size) (C := RX1) (T := TX1) (N := 6) hx hb hts in_X1_size_X1 hown hK hP 0 rfl rfl 5 (by decide) (hts (.fieldLink RX1 32 "HangingCards$Orders" "size" "I") (List.mem_of_getElem? (i := 1) rfl)) (fun _ h9 => h9) rfl dX1_size_1 ?_
  exact hret _ _ _ _ _ _ dX1_size_4 (wk_rt hf (fun z => z)) rfl hP hD hS
abbrev w_X1_add (cB cI cJ : ClassId) (a_p1 : Nat) (a_p1_bytes : Nat) (a_p1_numbers : Nat) (a_this : Nat) (a_kinds : Nat) (a_counties : Nat) (a_ranks : Nat) (a_values : Nat) (a_hours : Nat) (a_counties_cells : Nat) (a_hours_cells : Nat) (a_kinds_cells : Nat) (a_ranks_cells : Nat) (a_values_cells : Nat) (v_p1_length : Int32) (v_p1_behind : Int32) (v_p1_kind : Int32) (v_p1_county : Int32) (v_p1_rank : Int32) (v_p1_value : Int32) (v_p1_hour : Int32) (v_size : Int32) (v_counties : Nat → Int32) (v_hours : Nat → Int32) (v_kinds : Nat → Int32) (v_ranks : Nat → Int32) (v_values : Nat → Int32) : va_W := [(a_p1, .inr (9, [.ref a_p1_bytes, .int v_p1_length, .ref a_p1_numbers, .int v_p1_behind, .int v_p1_kind, .int v_p1_county, .int v_p1_rank, .int v_p1_value, .int v_p1_hour])), (a_this, .inr (1, [.ref a_kinds, .ref a_counties, .ref a_ranks, .ref a_values, .ref a_hours, .int v_size])), (a_counties, .inr (6, [.ref a_counties_cells])), (a_counties_cells, .inl (cI, 40, .inl v_counties)), (a_hours, .inr (6, [.ref a_hours_cells])), (a_hours_cells, .inl (cI, 40, .inl v_hours)), (a_kinds, .inr (6, [.ref a_kinds_cells])), (a_kinds_cells, .inl (cI, 40, .inl v_kinds)), (a_ranks, .inr (6, [.ref a_ranks_cells])), (a_ranks_cells, .inl (cI, 40, .inl v_ranks)), (a_values, .inr (6, [.ref a_values_cells])), (a_values_cells, .inl (cI, 40, .inl v_values))]
theorem hd_X1_add : yX1_add.cls = RX1 ∧ yX1_add.cls ≠ "java/lang/invoke/MethodHandle" ∧ yX1_add.cls ≠ "java/lang/invoke/VarHandle" ∧ (parseMethodDescriptor yX1_add.desc).map (fun d => d.parameters.length) = some 1 := by decide +kernel
abbrev rm_X1_add : Room := { frames := 1, cells := 0, slots := 0, locals := 22 }
theorem in_X1_add_X1 : ∀ w ∈ wsX10, w ∈ wsX1_add := fun w h => List.mem_cons_of_mem _ (List.mem_append_left _ (List.mem_append_left _ (List.mem_append_right _ h)))
set_option maxHeartbeats 4000000 in
set_option maxRecDepth 100000 in
theorem c_X1_add (l : Launch) (D : va_G) (cB cI cJ : ClassId) (N : Nat) (a_p1 : Nat) (a_p1_bytes : Nat) (a_p1_numbers : Nat) (a_this : Nat) (a_kinds : Nat) (a_counties : Nat) (a_ranks : Nat) (a_values : Nat) (a_hours : Nat) (a_counties_cells : Nat) (a_hours_cells : Nat) (a_kinds_cells : Nat) (a_ranks_cells : Nat) (a_values_cells : Nat) (v_p1_length : Int32) (v_p1_behind : Int32) (v_p1_kind : Int32) (v_p1_county : Int32) (v_p1_rank : Int32) (v_p1_value : Int32) (v_p1_hour : Int32) (v_size : Int32) (v_counties : Nat → Int32) (v_hours : Nat → Int32) (v_kinds : Nat → Int32) (v_ranks : Nat → Int32) (v_values : Nat → Int32) {o_size : Int32} {o_counties : Nat → Int32} {o_hours : Nat → Int32} {o_kinds : Nat → Int32} {o_ranks : Nat → Int32} {o_values : Nat → Int32} (hf : f_X1_add N v_p1_kind v_p1_county v_p1_rank v_p1_value v_p1_hour v_size v_counties v_hours v_kinds v_ranks v_values = some (o_size, o_counties, o_hours, o_kinds, o_ranks, o_values)) : MTv l yX1_add wsX1_add rm_X1_add D (wk_T cB cI cJ) [.ref a_this, .ref a_p1] (w_X1_add cB cI cJ a_p1 a_p1_bytes a_p1_numbers a_this a_kinds a_counties a_ranks a_values a_hours a_counties_cells a_hours_cells a_kinds_cells a_ranks_cells a_values_cells v_p1_length v_p1_behind v_p1_kind v_p1_county v_p1_rank v_p1_value v_p1_hour v_size v_counties v_hours v_kinds v_ranks v_values) (w_X1_add cB cI cJ a_p1 a_p1_bytes a_p1_numbers a_this a_kinds a_counties a_ranks a_values a_hours a_counties_cells a_hours_cells a_kinds_cells a_ranks_cells a_values_cells v_p1_length v_p1_behind v_p1_kind v_p1_county v_p1_rank v_p1_value v_p1_hour o_size o_counties o_hours o_kinds o_ranks o_values) := by
  refine MTv.of (cc := cX1_add) (nL := 2) (own := RX1) pn_X1 rfl rfl (Nat.le_of_ble_eq_true rfl) ?_
  intro p e s m args below meth c A ls Q C hP hD hS hl hret
  obtain ⟨hx, hb, hml, hts, hown, hK, hN, hA, hlk⟩ := id C
  have hl : lv_has ls 2 [(0, .ref a_this), (1, .ref a_p1)] := hl
  unfold f_X1_add at hf
  refine lv_aload_n hx hb dX1_add_0 rfl (lv_at hl 0 rfl) ?_
  refine va_get (D := D) (ci := 1) (v := .ref a_kinds) (C := RX1) (T := TX1) (N := 6) hx hb hts in_X1_add_X1 hown hK hP 1 rfl rfl 0 (by decide) (hts (.fieldLink RX1 14 "HangingCards$Orders" "kinds" "LHangingCards$Row;") (List.mem_of_getElem? (i := 1) rfl)) (fun _ h9 => h9) rfl dX1_add_1 ?_
  refine lv_aload_n hx hb dX1_add_4 rfl (lv_at hl 0 rfl) ?_
  refine va_get (D := D) (ci := 1) (v := .int v_size) (C := RX1) (T := TX1) (N := 6) hx hb hts in_X1_add_X1 hown hK hP 1 rfl rfl 5 (by decide) (hts (.fieldLink RX1 32 "HangingCards$Orders" "size" "I") (List.mem_of_getElem? (i := 2) rfl)) (fun _ h9 => h9) rfl dX1_add_5 ?_
  refine lv_aload_n hx hb dX1_add_8 rfl (lv_at hl 1 rfl) ?_
  obtain ⟨r1, hc1, hf⟩ := wk_b1E hf
  refine wk_callVi2 C hP hD hS (c_X9_kind l D cB cI cJ N a_p1 a_p1_bytes a_p1_numbers v_p1_length v_p1_behind v_p1_kind v_p1_county v_p1_rank v_p1_value v_p1_hour hc1) (cwV 0 hts gX1_add_X9_kind rfl rfl rfl hd_X9_kind ⟨Nat.le_of_ble_eq_true rfl, Nat.le_of_ble_eq_true rfl⟩) hl.1 ⟨Nat.zero_le _, Nat.zero_le _⟩ [0] [1, 2, 3, 4, 5, 6, 7, 8, 9, 10, 11] 12 (by decide +kernel) rfl (Wn := w_X1_add cB cI cJ a_p1 a_p1_bytes a_p1_numbers a_this a_kinds a_counties a_ranks a_values a_hours a_counties_cells a_hours_cells a_kinds_cells a_ranks_cells a_values_cells v_p1_length v_p1_behind v_p1_kind v_p1_county v_p1_rank v_p1_value v_p1_hour v_size v_counties v_hours v_kinds v_ranks v_values) rfl rfl rfl rfl rfl rfl (ci := 9) rfl rfl (q0 := 0) rfl rfl rfl (Nat.le_of_ble_eq_true rfl) dX1_add_9 (fun H locs hP hD hS => ?_)
  obtain ⟨o2_0, hc2, hf⟩ := wk_b1E hf
  refine wk_callVv2 C hP hD hS (c_X6_set l D cB cI cJ N a_kinds a_kinds_cells 40 v_kinds v_size r1 hc2) (cwV 2 hts gX1_add_X6_set rfl rfl rfl hd_X6_set ⟨Nat.le_of_ble_eq_true rfl, Nat.le_of_ble_eq_true rfl⟩) hl.1 ⟨Nat.zero_le _, Nat.zero_le _⟩ [6, 7] [0, 1, 2, 3, 4, 5, 8, 9, 10, 11] 12 (by decide +kernel) rfl (Wn := w_X1_add cB cI cJ a_p1 a_p1_bytes a_p1_numbers a_this a_kinds a_counties a_ranks a_values a_hours a_counties_cells a_hours_cells a_kinds_cells a_ranks_cells a_values_cells v_p1_length v_p1_behind v_p1_kind v_p1_county v_p1_rank v_p1_value v_p1_hour v_size v_counties v_hours o2_0 v_ranks v_values) rfl rfl rfl rfl rfl rfl (ci := 6) rfl rfl (q0 := 6) rfl rfl rfl (Nat.le_of_ble_eq_true rfl) dX1_add_12 (fun H locs hP hD hS => ?_)
  refine lv_aload_n hx hb dX1_add_15 rfl (lv_at hl 0 rfl) ?_
  refine va_get (D := D) (ci := 1) (v := .ref a_counties) (C := RX1) (T := TX1) (N := 6) hx hb hts in_X1_add_X1 hown hK hP 1 rfl rfl 1 (by decide) (hts (.fieldLink RX1 20 "HangingCards$Orders" "counties" "LHangingCards$Row;") (List.mem_of_getElem? (i := 3) rfl)) (fun _ h9 => h9) rfl dX1_add_16 ?_
  refine lv_aload_n hx hb dX1_add_19 rfl (lv_at hl 0 rfl) ?_
  refine va_get (D := D) (ci := 1) (v := .int v_size) (C := RX1) (T := TX1) (N := 6) hx hb hts in_X1_add_X1 hown hK hP 1 rfl rfl 5 (by decide) (hts (.fieldLink RX1 32 "HangingCards$Orders" "size" "I") (List.mem_of_getElem? (i := 2) rfl)) (fun _ h9 => h9) rfl dX1_add_20 ?_
  refine lv_aload_n hx hb dX1_add_23 rfl (lv_at hl 1 rfl) ?_
  obtain ⟨r3, hc3, hf⟩ := wk_b1E hf
  refine wk_callVi2 C hP hD hS (c_X9_county l D cB cI cJ N a_p1 a_p1_bytes a_p1_numbers v_p1_length v_p1_behind v_p1_kind v_p1_county v_p1_rank v_p1_value v_p1_hour hc3) (cwV 0 hts gX1_add_X9_county rfl rfl rfl hd_X9_county ⟨Nat.le_of_ble_eq_true rfl, Nat.le_of_ble_eq_true rfl⟩) hl.1 ⟨Nat.zero_le _, Nat.zero_le _⟩ [0] [1, 2, 3, 4, 5, 6, 7, 8, 9, 10, 11] 12 (by decide +kernel) rfl (Wn := w_X1_add cB cI cJ a_p1 a_p1_bytes a_p1_numbers a_this a_kinds a_counties a_ranks a_values a_hours a_counties_cells a_hours_cells a_kinds_cells a_ranks_cells a_values_cells v_p1_length v_p1_behind v_p1_kind v_p1_county v_p1_rank v_p1_value v_p1_hour v_size v_counties v_hours o2_0 v_ranks v_values) rfl rfl rfl rfl rfl rfl (ci := 9) rfl rfl (q0 := 0) rfl rfl rfl (Nat.le_of_ble_eq_true rfl) dX1_add_24 (fun H locs hP hD hS => ?_)
  obtain ⟨o4_0, hc4, hf⟩ := wk_b1E hf
  refine wk_callVv2 C hP hD hS (c_X6_set l D cB cI cJ N a_counties a_counties_cells 40 v_counties v_size r3 hc4) (cwV 2 hts gX1_add_X6_set rfl rfl rfl hd_X6_set ⟨Nat.le_of_ble_eq_true rfl, Nat.le_of_ble_eq_true rfl⟩) hl.1 ⟨Nat.zero_le _, Nat.zero_le _⟩ [2, 3] [0, 1, 4, 5, 6, 7, 8, 9, 10, 11] 12 (by decide +kernel) rfl (Wn := w_X1_add cB cI cJ a_p1 a_p1_bytes a_p1_numbers a_this a_kinds a_counties a_ranks a_values a_hours a_counties_cells a_hours_cells a_kinds_cells a_ranks_cells a_values_cells v_p1_length v_p1_behind v_p1_kind v_p1_county v_p1_rank v_p1_value v_p1_hour v_size o4_0 v_hours o2_0 v_ranks v_values) rfl rfl rfl rfl rfl rfl (ci := 6) rfl rfl (q0 := 2) rfl rfl rfl (Nat.le_of_ble_eq_true rfl) dX1_add_27 (fun H locs hP hD hS => ?_)
  refine lv_aload_n hx hb dX1_add_30 rfl (lv_at hl 0 rfl) ?_
  refine va_get (D := D) (ci := 1) (v := .ref a_ranks) (C := RX1) (T := TX1) (N := 6) hx hb hts in_X1_add_X1 hown hK hP 1 rfl rfl 2 (by decide) (hts (.fieldLink RX1 23 "HangingCards$Orders" "ranks" "LHangingCards$Row;") (List.mem_of_getElem? (i := 4) rfl)) (fun _ h9 => h9) rfl dX1_add_31 ?_
  refine lv_aload_n hx hb dX1_add_34 rfl (lv_at hl 0 rfl) ?_
  refine va_get (D := D) (ci := 1) (v := .int v_size) (C := RX1) (T := TX1) (N := 6) hx hb hts in_X1_add_X1 hown hK hP 1 rfl rfl 5 (by decide) (hts (.fieldLink RX1 32 "HangingCards$Orders" "size" "I") (List.mem_of_getElem? (i := 2) rfl)) (fun _ h9 => h9) rfl dX1_add_35 ?_
  refine lv_aload_n hx hb dX1_add_38 rfl (lv_at hl 1 rfl) ?_
  obtain ⟨r5, hc5, hf⟩ := wk_b1E hf
  refine wk_callVi2 C hP hD hS (c_X9_rank l D cB cI cJ N a_p1 a_p1_bytes a_p1_numbers v_p1_length v_p1_behind v_p1_kind v_p1_county v_p1_rank v_p1_value v_p1_hour hc5) (cwV 0 hts gX1_add_X9_rank rfl rfl rfl hd_X9_rank ⟨Nat.le_of_ble_eq_true rfl, Nat.le_of_ble_eq_true rfl⟩) hl.1 ⟨Nat.zero_le _, Nat.zero_le _⟩ [0] [1, 2, 3, 4, 5, 6, 7, 8, 9, 10, 11] 12 (by decide +kernel) rfl (Wn := w_X1_add cB cI cJ a_p1 a_p1_bytes a_p1_numbers a_this a_kinds a_counties a_ranks a_values a_hours a_counties_cells a_hours_cells a_kinds_cells a_ranks_cells a_values_cells v_p1_length v_p1_behind v_p1_kind v_p1_county v_p1_rank v_p1_value v_p1_hour v_size o4_0 v_hours o2_0 v_ranks v_values) rfl rfl rfl rfl rfl rfl (ci := 9) rfl rfl (q0 := 0) rfl rfl rfl (Nat.le_of_ble_eq_true rfl) dX1_add_39 (fun H locs hP hD hS => ?_)
  obtain ⟨o6_0, hc6, hf⟩ := wk_b1E hf
  refine wk_callVv2 C hP hD hS (c_X6_set l D cB cI cJ N a_ranks a_ranks_cells 40 v_ranks v_size r5 hc6) (cwV 2 hts gX1_add_X6_set rfl rfl rfl hd_X6_set ⟨Nat.le_of_ble_eq_true rfl, Nat.le_of_ble_eq_true rfl⟩) hl.1 ⟨Nat.zero_le _, Nat.zero_le _⟩ [8, 9] [0, 1, 2, 3, 4, 5, 6, 7, 10, 11] 12 (by decide +kernel) rfl (Wn := w_X1_add cB cI cJ a_p1 a_p1_bytes a_p1_numbers a_this a_kinds a_counties a_ranks a_values a_hours a_counties_cells a_hours_cells a_kinds_cells a_ranks_cells a_values_cells v_p1_length v_p1_behind v_p1_kind v_p1_county v_p1_rank v_p1_value v_p1_hour v_size o4_0 v_hours o2_0 o6_0 v_values) rfl rfl rfl rfl rfl rfl (ci := 6) rfl rfl (q0 := 8) rfl rfl rfl (Nat.le_of_ble_eq_true rfl) dX1_add_42 (fun H locs hP hD hS => ?_)
  refine lv_aload_n hx hb dX1_add_45 rfl (lv_at hl 0 rfl) ?_
  refine va_get (D := D) (ci := 1) (v := .ref a_values) (C := RX1) (T := TX1) (N := 6) hx hb hts in_X1_add_X1 hown hK hP 1 rfl rfl 3 (by decide) (hts (.fieldLink RX1 26 "HangingCards$Orders" "values" "LHangingCards$Row;") (List.mem_of_getElem? (i := 5) rfl)) (fun _ h9 => h9) rfl dX1_add_46 ?_
  refine lv_aload_n hx hb dX1_add_49 rfl (lv_at hl 0 rfl) ?_
  refine va_get (D := D) (ci := 1) (v := .int v_size) (C := RX1) (T := TX1) (N := 6) hx hb hts in_X1_add_X1 hown hK hP 1 rfl rfl 5 (by decide) (hts (.fieldLink RX1 32 "HangingCards$Orders" "size" "I") (List.mem_of_getElem? (i := 2) rfl)) (fun _ h9 => h9) rfl dX1_add_50 ?_
  refine lv_aload_n hx hb dX1_add_53 rfl (lv_at hl 1 rfl) ?_
  obtain ⟨r7, hc7, hf⟩ := wk_b1E hf
  refine wk_callVi2 C hP hD hS (c_X9_value l D cB cI cJ N a_p1 a_p1_bytes a_p1_numbers v_p1_length v_p1_behind v_p1_kind v_p1_county v_p1_rank v_p1_value v_p1_hour hc7) (cwV 0 hts gX1_add_X9_value rfl rfl rfl hd_X9_value ⟨Nat.le_of_ble_eq_true rfl, Nat.le_of_ble_eq_true rfl⟩) hl.1 ⟨Nat.zero_le _, Nat.zero_le _⟩ [0] [1, 2, 3, 4, 5, 6, 7, 8, 9, 10, 11] 12 (by decide +kernel) rfl (Wn := w_X1_add cB cI cJ a_p1 a_p1_bytes a_p1_numbers a_this a_kinds a_counties a_ranks a_values a_hours a_counties_cells a_hours_cells a_kinds_cells a_ranks_cells a_values_cells v_p1_length v_p1_behind v_p1_kind v_p1_county v_p1_rank v_p1_value v_p1_hour v_size o4_0 v_hours o2_0 o6_0 v_values) rfl rfl rfl rfl rfl rfl (ci := 9) rfl rfl (q0 := 0) rfl rfl rfl (Nat.le_of_ble_eq_true rfl) dX1_add_54 (fun H locs hP hD hS => ?_)
  obtain ⟨o8_0, hc8, hf⟩ := wk_b1E hf
  refine wk_callVv2 C hP hD hS (c_X6_set l D cB cI cJ N a_values a_values_cells 40 v_values v_size r7 hc8) (cwV 2 hts gX1_add_X6_set rfl rfl rfl hd_X6_set ⟨Nat.le_of_ble_eq_true rfl, Nat.le_of_ble_eq_true rfl⟩) hl.1 ⟨Nat.zero_le _, Nat.zero_le _⟩ [10, 11] [0, 1, 2, 3, 4, 5, 6, 7, 8, 9] 12 (by decide +kernel) rfl (Wn := w_X1_add cB cI cJ a_p1 a_p1_bytes a_p1_numbers a_this a_kinds a_counties a_ranks a_values a_hours a_counties_cells a_hours_cells a_kinds_cells a_ranks_cells a_values_cells v_p1_length v_p1_behind v_p1_kind v_p1_county v_p1_rank v_p1_value v_p1_hour v_size o4_0 v_hours o2_0 o6_0 o8_0) rfl rfl rfl rfl rfl rfl (ci := 6) rfl rfl (q0 := 10) rfl rfl rfl (Nat.le_of_ble_eq_true rfl) dX1_add_57 (fun H locs hP hD hS => ?_)
  refine lv_aload_n hx hb dX1_add_60 rfl (lv_at hl 0 rfl) ?_
  refine va_get (D := D) (ci := 1) (v := .ref a_hours) (C := RX1) (T := TX1) (N := 6) hx hb hts in_X1_add_X1 hown hK hP 1 rfl rfl 4 (by decide) (hts (.fieldLink RX1 29 "HangingCards$Orders" "hours" "LHangingCards$Row;") (List.mem_of_getElem? (i := 6) rfl)) (fun _ h9 => h9) rfl dX1_add_61 ?_
  refine lv_aload_n hx hb dX1_add_64 rfl (lv_at hl 0 rfl) ?_
  refine va_get (D := D) (ci := 1) (v := .int v_size) (C := RX1) (T := TX1) (N := 6) hx hb hts in_X1_add_X1 hown hK hP 1 rfl rfl 5 (by decide) (hts (.fieldLink RX1 32 "HangingCards$Orders" "size" "I") (List.mem_of_getElem? (i := 2) rfl)) (fun _ h9 => h9) rfl dX1_add_65 ?_
  refine lv_aload_n hx hb dX1_add_68 rfl (lv_at hl 1 rfl) ?_
  obtain ⟨r9, hc9, hf⟩ := wk_b1E hf
  refine wk_callVi2 C hP hD hS (c_X9_hour l D cB cI cJ N a_p1 a_p1_bytes a_p1_numbers v_p1_length v_p1_behind v_p1_kind v_p1_county v_p1_rank v_p1_value v_p1_hour hc9) (cwV 0 hts gX1_add_X9_hour rfl rfl rfl hd_X9_hour ⟨Nat.le_of_ble_eq_true rfl, Nat.le_of_ble_eq_true rfl⟩) hl.1 ⟨Nat.zero_le _, Nat.zero_le _⟩ [0] [1, 2, 3, 4, 5, 6, 7, 8, 9, 10, 11] 12 (by decide +kernel) rfl (Wn := w_X1_add cB cI cJ a_p1 a_p1_bytes a_p1_numbers a_this a_kinds a_counties a_ranks a_values a_hours a_counties_cells a_hours_cells a_kinds_cells a_ranks_cells a_values_cells v_p1_length v_p1_behind v_p1_kind v_p1_county v_p1_rank v_p1_value v_p1_hour v_size o4_0 v_hours o2_0 o6_0 o8_0) rfl rfl rfl rfl rfl rfl (ci := 9) rfl rfl (q0 := 0) rfl rfl rfl (Nat.le_of_ble_eq_true rfl) dX1_add_69 (fun H locs hP hD hS => ?_)
  obtain ⟨o10_0, hc10, hf⟩ := wk_b1E hf
  refine wk_callVv2 C hP hD hS (c_X6_set l D cB cI cJ N a_hours a_hours_cells 40 v_hours v_size r9 hc10) (cwV 2 hts gX1_add_X6_set rfl rfl rfl hd_X6_set ⟨Nat.le_of_ble_eq_true rfl, Nat.le_of_ble_eq_true rfl⟩) hl.1 ⟨Nat.zero_le _, Nat.zero_le _⟩ [4, 5] [0, 1, 2, 3, 6, 7, 8, 9, 10, 11] 12 (by decide +kernel) rfl (Wn := w_X1_add cB cI cJ a_p1 a_p1_bytes a_p1_numbers a_this a_kinds a_counties a_ranks a_values a_hours a_counties_cells a_hours_cells a_kinds_cells a_ranks_cells a_values_cells v_p1_length v_p1_behind v_p1_kind v_p1_county v_p1_rank v_p1_value v_p1_hour v_size o4_0 o10_0 o2_0 o6_0 o8_0) rfl rfl rfl rfl rfl rfl (ci := 6) rfl rfl (q0 := 4) rfl rfl rfl (Nat.le_of_ble_eq_true rfl) dX1_add_72 (fun H locs hP hD hS => ?_)
  refine lv_aload_n hx hb dX1_add_75 rfl (lv_at hl 0 rfl) ?_
  refine lv_dup hx hb dX1_add_76 rfl ?_
  refine va_get (D := D) (ci := 1) (v := .int v_size) (C := RX1) (T := TX1) (N := 6) hx hb hts in_X1_add_X1 hown hK hP 1 rfl rfl 5 (by decide) (hts (.fieldLink RX1 32 "HangingCards$Orders" "size" "I") (List.mem_of_getElem? (i := 2) rfl)) (fun _ h9 => h9) rfl dX1_add_77 ?_
  refine lv_iconst (v := (1 : Int32)) hx hb dX1_add_80 (by decide) ?_
  refine lv_iadd hx hb dX1_add_81 ?_
  refine va_put (D := D) (ci := 1) (v := .int (v_size + (1 : Int32))) (ty := .int) (C := RX1) (T := TX1) (N := 6) hx hb hts in_X1_add_X1 tyX1 tyX1_ok nmX1 hown hK hP hD hS 1 rfl rfl 5 (by decide) (hts (.fieldLink RX1 32 "HangingCards$Orders" "size" "I") (List.mem_of_getElem? (i := 2) rfl)) (fun _ h9 => h9) rfl (by decide +kernel) rfl rfl (Nat.le_of_ble_eq_true rfl) dX1_add_82 (fun H locs hP hD hS => ?_)
  have hP : va_P D vwCl (w_X1_add cB cI cJ a_p1 a_p1_bytes a_p1_numbers a_this a_kinds a_counties a_ranks a_values a_hours a_counties_cells a_hours_cells a_kinds_cells a_ranks_cells a_values_cells v_p1_length v_p1_behind v_p1_kind v_p1_county v_p1_rank v_p1_value v_p1_hour (v_size + (1 : Int32)) o4_0 o10_0 o2_0 o6_0 o8_0) H := hP
  have hD : va_D A (w_X1_add cB cI cJ a_p1 a_p1_bytes a_p1_numbers a_this a_kinds a_counties a_ranks a_values a_hours a_counties_cells a_hours_cells a_kinds_cells a_ranks_cells a_values_cells v_p1_length v_p1_behind v_p1_kind v_p1_county v_p1_rank v_p1_value v_p1_hour (v_size + (1 : Int32)) o4_0 o10_0 o2_0 o6_0 o8_0) := hD
  exact hret _ _ _ _ _ dX1_add_85 (wk_rt hf (fun z => w_X1_add cB cI cJ a_p1 a_p1_bytes a_p1_numbers a_this a_kinds a_counties a_ranks a_values a_hours a_counties_cells a_hours_cells a_kinds_cells a_ranks_cells a_values_cells v_p1_length v_p1_behind v_p1_kind v_p1_county v_p1_rank v_p1_value v_p1_hour (z.1) (z.2.1) (z.2.2.1) (z.2.2.2.1) (z.2.2.2.2.1) (z.2.2.2.2.2))) hP hD hS
abbrev w_X1_take (cB cI cJ : ClassId) (a_p1 : Nat) (a_p1_bytes : Nat) (a_p1_numbers : Nat) (a_p1_bytes_cells : Nat) (a_p1_numbers_cells : Nat) (a_this : Nat) (a_kinds : Nat) (a_counties : Nat) (a_ranks : Nat) (a_values : Nat) (a_hours : Nat) (a_counties_cells : Nat) (a_hours_cells : Nat) (a_kinds_cells : Nat) (a_ranks_cells : Nat) (a_values_cells : Nat) (v_p1_length : Int32) (v_p1_behind : Int32) (v_p1_kind : Int32) (v_p1_county : Int32) (v_p1_rank : Int32) (v_p1_value : Int32) (v_p1_hour : Int32) (v_p1_bytes : Nat → Int32) (v_p1_numbers : Nat → Int32) (v_size : Int32) (v_counties : Nat → Int32) (v_hours : Nat → Int32) (v_kinds : Nat → Int32) (v_ranks : Nat → Int32) (v_values : Nat → Int32) : va_W := [(a_p1, .inr (9, [.ref a_p1_bytes, .int v_p1_length, .ref a_p1_numbers, .int v_p1_behind, .int v_p1_kind, .int v_p1_county, .int v_p1_rank, .int v_p1_value, .int v_p1_hour])), (a_p1_bytes, .inr (6, [.ref a_p1_bytes_cells])), (a_p1_bytes_cells, .inl (cI, 200, .inl v_p1_bytes)), (a_p1_numbers, .inr (6, [.ref a_p1_numbers_cells])), (a_p1_numbers_cells, .inl (cI, 4, .inl v_p1_numbers)), (a_this, .inr (1, [.ref a_kinds, .ref a_counties, .ref a_ranks, .ref a_values, .ref a_hours, .int v_size])), (a_counties, .inr (6, [.ref a_counties_cells])), (a_counties_cells, .inl (cI, 40, .inl v_counties)), (a_hours, .inr (6, [.ref a_hours_cells])), (a_hours_cells, .inl (cI, 40, .inl v_hours)), (a_kinds, .inr (6, [.ref a_kinds_cells])), (a_kinds_cells, .inl (cI, 40, .inl v_kinds)), (a_ranks, .inr (6, [.ref a_ranks_cells])), (a_ranks_cells, .inl (cI, 40, .inl v_ranks)), (a_values, .inr (6, [.ref a_values_cells])), (a_values_cells, .inl (cI, 40, .inl v_values))]
theorem hd_X1_take : yX1_take.cls = RX1 ∧ yX1_take.cls ≠ "java/lang/invoke/MethodHandle" ∧ yX1_take.cls ≠ "java/lang/invoke/VarHandle" ∧ (parseMethodDescriptor yX1_take.desc).map (fun d => d.parameters.length) = some 1 := by decide +kernel
abbrev rm_X1_take : Room := { frames := 4, cells := 0, slots := 0, locals := 92 }
theorem in_X1_take_X1 : ∀ w ∈ wsX10, w ∈ wsX1_take := fun w h => List.mem_cons_of_mem _ (List.mem_append_left _ (List.mem_append_left _ (List.mem_append_right _ h)))
set_option maxHeartbeats 4000000 in
set_option maxRecDepth 100000 in
theorem c_X1_take (l : Launch) (D : va_G) (cB cI cJ : ClassId) (N : Nat) (a_p1 : Nat) (a_p1_bytes : Nat) (a_p1_numbers : Nat) (a_p1_bytes_cells : Nat) (a_p1_numbers_cells : Nat) (a_this : Nat) (a_kinds : Nat) (a_counties : Nat) (a_ranks : Nat) (a_values : Nat) (a_hours : Nat) (a_counties_cells : Nat) (a_hours_cells : Nat) (a_kinds_cells : Nat) (a_ranks_cells : Nat) (a_values_cells : Nat) (v_p1_length : Int32) (v_p1_behind : Int32) (v_p1_kind : Int32) (v_p1_county : Int32) (v_p1_rank : Int32) (v_p1_value : Int32) (v_p1_hour : Int32) (v_p1_bytes : Nat → Int32) (v_p1_numbers : Nat → Int32) (v_size : Int32) (v_counties : Nat → Int32) (v_hours : Nat → Int32) (v_kinds : Nat → Int32) (v_ranks : Nat → Int32) (v_values : Nat → Int32) {o_p1_behind : Int32} {o_p1_kind : Int32} {o_p1_county : Int32} {o_p1_rank : Int32} {o_p1_value : Int32} {o_p1_hour : Int32} {o_p1_numbers : Nat → Int32} {o_size : Int32} {o_counties : Nat → Int32} {o_hours : Nat → Int32} {o_kinds : Nat → Int32} {o_ranks : Nat → Int32} {o_values : Nat → Int32} (hf : f_X1_take N v_p1_length v_p1_bytes v_p1_behind v_p1_kind v_p1_county v_p1_rank v_p1_value v_p1_hour v_p1_numbers v_size v_counties v_hours v_kinds v_ranks v_values = some (o_p1_behind, o_p1_kind, o_p1_county, o_p1_rank, o_p1_value, o_p1_hour, o_p1_numbers, o_size, o_counties, o_hours, o_kinds, o_ranks, o_values)) : MTv l yX1_take wsX1_take rm_X1_take D (wk_T cB cI cJ) [.ref a_this, .ref a_p1] (w_X1_take cB cI cJ a_p1 a_p1_bytes a_p1_numbers a_p1_bytes_cells a_p1_numbers_cells a_this a_kinds a_counties a_ranks a_values a_hours a_counties_cells a_hours_cells a_kinds_cells a_ranks_cells a_values_cells v_p1_length v_p1_behind v_p1_kind v_p1_county v_p1_rank v_p1_value v_p1_hour v_p1_bytes v_p1_numbers v_size v_counties v_hours v_kinds v_ranks v_values) (w_X1_take cB cI cJ a_p1 a_p1_bytes a_p1_numbers a_p1_bytes_cells a_p1_numbers_cells a_this a_kinds a_counties a_ranks a_values a_hours a_counties_cells a_hours_cells a_kinds_cells a_ranks_cells a_values_cells v_p1_length o_p1_behind o_p1_kind o_p1_county o_p1_rank o_p1_value o_p1_hour v_p1_bytes o_p1_numbers o_size o_counties o_hours o_kinds o_ranks o_values) := by
  refine MTv.of (cc := cX1_take) (nL := 4) (own := RX1) pn_X1 rfl rfl (Nat.le_of_ble_eq_true rfl) ?_
  intro p e s m args below meth c A ls Q C hP hD hS hl hret
  obtain ⟨hx, hb, hml, hts, hown, hK, hN, hA, hlk⟩ := id C
  have hl : lv_has ls 4 [(0, .ref a_this), (1, .ref a_p1)] := hl
  have L14 := wk_loopI (F := (fun k14 : Int32 → Int32 → Int32 → Int32 → Int32 → Int32 → (Nat → Int32) → Int32 → (Nat → Int32) → (Nat → Int32) → (Nat → Int32) → (Nat → Int32) → (Nat → Int32) → Int32 → Int32 → Option (Int32 × Int32 × Int32 × Int32 × Int32 × Int32 × (Nat → Int32) × Int32 × (Nat → Int32) × (Nat → Int32) × (Nat → Int32) × (Nat → Int32) × (Nat → Int32)) => B_X1_take_14 N v_p1_length v_p1_bytes k14)) (bot := fun _ _ _ _ _ _ _ _ _ _ _ _ _ _ _ => none) (fun k14 : Int32 → Int32 → Int32 → Int32 → Int32 → Int32 → (Nat → Int32) → Int32 → (Nat → Int32) → (Nat → Int32) → (Nat → Int32) → (Nat → Int32) → (Nat → Int32) → Int32 → Int32 → Option (Int32 × Int32 × Int32 × Int32 × Int32 × Int32 × (Nat → Int32) × Int32 × (Nat → Int32) × (Nat → Int32) × (Nat → Int32) × (Nat → Int32) × (Nat → Int32)) => ∀ (v_p1_behind : Int32) (v_p1_kind : Int32) (v_p1_county : Int32) (v_p1_rank : Int32) (v_p1_value : Int32) (v_p1_hour : Int32) (v_p1_numbers : Nat → Int32) (v_size : Int32) (v_counties : Nat → Int32) (v_hours : Nat → Int32) (v_kinds : Nat → Int32) (v_ranks : Nat → Int32) (v_values : Nat → Int32) (x2 : Int32) (x3 : Int32), k14 v_p1_behind v_p1_kind v_p1_county v_p1_rank v_p1_value v_p1_hour v_p1_numbers v_size v_counties v_hours v_kinds v_ranks v_values x2 x3 = some (o_p1_behind, o_p1_kind, o_p1_county, o_p1_rank, o_p1_value, o_p1_hour, o_p1_numbers, o_size, o_counties, o_hours, o_kinds, o_ranks, o_values) → ∀ (H : Heap) (locs : List Loc) (ls : Array Slot), va_P D vwCl (w_X1_take cB cI cJ a_p1 a_p1_bytes a_p1_numbers a_p1_bytes_cells a_p1_numbers_cells a_this a_kinds a_counties a_ranks a_values a_hours a_counties_cells a_hours_cells a_kinds_cells a_ranks_cells a_values_cells v_p1_length v_p1_behind v_p1_kind v_p1_county v_p1_rank v_p1_value v_p1_hour v_p1_bytes v_p1_numbers v_size v_counties v_hours v_kinds v_ranks v_values) H → va_D A (w_X1_take cB cI cJ a_p1 a_p1_bytes a_p1_numbers a_p1_bytes_cells a_p1_numbers_cells a_this a_kinds a_counties a_ranks a_values a_hours a_counties_cells a_hours_cells a_kinds_cells a_ranks_cells a_values_cells v_p1_length v_p1_behind v_p1_kind v_p1_county v_p1_rank v_p1_value v_p1_hour v_p1_bytes v_p1_numbers v_size v_counties v_hours v_kinds v_ranks v_values) → va_S A s.heap H locs → lv_has ls 4 [(0, .ref a_this), (1, .ref a_p1), (2, .int x2), (3, .int x3)] → W p l e rm_X1_take s m args below meth c H locs 0 0 Q (F0 m 14 ls [])) (by intro v_p1_behind v_p1_kind v_p1_county v_p1_rank v_p1_value v_p1_hour v_p1_numbers v_size v_counties v_hours v_kinds v_ranks v_values x2 x3 hf; exact wk_no hf) (by
    intro k14 ih14
    intro v_p1_behind v_p1_kind v_p1_county v_p1_rank v_p1_value v_p1_hour v_p1_numbers v_size v_counties v_hours v_kinds v_ranks v_values x2 x3 hf H locs ls hP hD hS hl
    have hf : B_X1_take_14 N v_p1_length v_p1_bytes k14 v_p1_behind v_p1_kind v_p1_county v_p1_rank v_p1_value v_p1_hour v_p1_numbers v_size v_counties v_hours v_kinds v_ranks v_values x2 x3 = some (o_p1_behind, o_p1_kind, o_p1_county, o_p1_rank, o_p1_value, o_p1_hour, o_p1_numbers, o_size, o_counties, o_hours, o_kinds, o_ranks, o_values) := hf
    unfold B_X1_take_14 at hf
    refine lv_iload_n hx hb dX1_take_14 rfl (lv_at hl 3 rfl) ?_
    refine lv_bipush (v := (40 : Int32)) hx hb dX1_take_15 (by decide) ?_
    refine lv_icmp_ge (tgt := 53) hx hb dX1_take_17 (by decide) (fun c1 => ?_) (fun c1 => ?_)
    · have hf := wk_itT hf c1
      exact hret _ _ _ _ _ dX1_take_53 (wk_rt hf (fun z => w_X1_take cB cI cJ a_p1 a_p1_bytes a_p1_numbers a_p1_bytes_cells a_p1_numbers_cells a_this a_kinds a_counties a_ranks a_values a_hours a_counties_cells a_hours_cells a_kinds_cells a_ranks_cells a_values_cells v_p1_length (z.1) (z.2.1) (z.2.2.1) (z.2.2.2.1) (z.2.2.2.2.1) (z.2.2.2.2.2.1) v_p1_bytes (z.2.2.2.2.2.2.1) (z.2.2.2.2.2.2.2.1) (z.2.2.2.2.2.2.2.2.1) (z.2.2.2.2.2.2.2.2.2.1) (z.2.2.2.2.2.2.2.2.2.2.1) (z.2.2.2.2.2.2.2.2.2.2.2.1) (z.2.2.2.2.2.2.2.2.2.2.2.2))) hP hD hS
    · have hf := wk_itF hf c1
      refine lv_iload_n hx hb dX1_take_20 rfl (lv_at hl 2 rfl) ?_
      refine lv_aload_n hx hb dX1_take_21 rfl (lv_at hl 1 rfl) ?_
      obtain ⟨r2, hc2, hf⟩ := wk_b1E hf
      refine wk_callVi2 C hP hD hS (c_X9_length l D cB cI cJ N a_p1 a_p1_bytes a_p1_numbers v_p1_length v_p1_behind v_p1_kind v_p1_county v_p1_rank v_p1_value v_p1_hour hc2) (cwV 0 hts gX1_take_X9_length rfl rfl rfl hd_X9_length ⟨Nat.le_of_ble_eq_true rfl, Nat.le_of_ble_eq_true rfl⟩) hl.1 ⟨Nat.zero_le _, Nat.zero_le _⟩ [0] [1, 2, 3, 4, 5, 6, 7, 8, 9, 10, 11, 12, 13, 14, 15] 16 (by decide +kernel) rfl (Wn := w_X1_take cB cI cJ a_p1 a_p1_bytes a_p1_numbers a_p1_bytes_cells a_p1_numbers_cells a_this a_kinds a_counties a_ranks a_values a_hours a_counties_cells a_hours_cells a_kinds_cells a_ranks_cells a_values_cells v_p1_length v_p1_behind v_p1_kind v_p1_county v_p1_rank v_p1_value v_p1_hour v_p1_bytes v_p1_numbers v_size v_counties v_hours v_kinds v_ranks v_values) rfl rfl rfl rfl rfl rfl (ci := 9) rfl rfl (q0 := 0) rfl rfl rfl (Nat.le_of_ble_eq_true rfl) dX1_take_22 (fun H locs hP hD hS => ?_)
      refine lv_icmp_ge (tgt := 53) hx hb dX1_take_25 (by decide) (fun c3 => ?_) (fun c3 => ?_)
      · have hf := wk_itT hf c3
        exact hret _ _ _ _ _ dX1_take_53 (wk_rt hf (fun z => w_X1_take cB cI cJ a_p1 a_p1_bytes a_p1_numbers a_p1_bytes_cells a_p1_numbers_cells a_this a_kinds a_counties a_ranks a_values a_hours a_counties_cells a_hours_cells a_kinds_cells a_ranks_cells a_values_cells v_p1_length (z.1) (z.2.1) (z.2.2.1) (z.2.2.2.1) (z.2.2.2.2.1) (z.2.2.2.2.2.1) v_p1_bytes (z.2.2.2.2.2.2.1) (z.2.2.2.2.2.2.2.1) (z.2.2.2.2.2.2.2.2.1) (z.2.2.2.2.2.2.2.2.2.1) (z.2.2.2.2.2.2.2.2.2.2.1) (z.2.2.2.2.2.2.2.2.2.2.2.1) (z.2.2.2.2.2.2.2.2.2.2.2.2))) hP hD hS
      · have hf := wk_itF hf c3
        refine lv_aload_n hx hb dX1_take_28 rfl (lv_at hl 1 rfl) ?_
        refine lv_iload_n hx hb dX1_take_29 rfl (lv_at hl 2 rfl) ?_
        obtain ⟨r4, o4_0, o4_1, o4_2, o4_3, o4_4, o4_5, o4_6, hc4, hf⟩ := wk_b8E hf
        refine wk_callVi2 C hP hD hS (c_X9_read l D cB cI cJ N a_p1 a_p1_bytes a_p1_numbers a_p1_bytes_cells a_p1_numbers_cells v_p1_length v_p1_behind v_p1_kind v_p1_county v_p1_rank v_p1_value v_p1_hour v_p1_bytes v_p1_numbers x2 hc4) (cwV 1 hts gX1_take_X9_read rfl rfl rfl hd_X9_read ⟨Nat.le_of_ble_eq_true rfl, Nat.le_of_ble_eq_true rfl⟩) hl.1 ⟨Nat.zero_le _, Nat.zero_le _⟩ [0, 1, 2, 3, 4] [5, 6, 7, 8, 9, 10, 11, 12, 13, 14, 15] 16 (by decide +kernel) rfl (Wn := w_X1_take cB cI cJ a_p1 a_p1_bytes a_p1_numbers a_p1_bytes_cells a_p1_numbers_cells a_this a_kinds a_counties a_ranks a_values a_hours a_counties_cells a_hours_cells a_kinds_cells a_ranks_cells a_values_cells v_p1_length o4_0 o4_1 o4_2 o4_3 o4_4 o4_5 v_p1_bytes o4_6 v_size v_counties v_hours v_kinds v_ranks v_values) rfl rfl rfl rfl rfl rfl (ci := 9) rfl rfl (q0 := 0) rfl rfl rfl (Nat.le_of_ble_eq_true rfl) dX1_take_30 (fun H locs hP hD hS => ?_)
        refine lv_if_ne (tgt := 37) hx hb dX1_take_33 (by decide) (fun c5 => ?_) (fun c5 => ?_)
        · have hf := wk_itF hf c5
          refine lv_aload_n hx hb dX1_take_37 rfl (lv_at hl 0 rfl) ?_
          refine lv_aload_n hx hb dX1_take_38 rfl (lv_at hl 1 rfl) ?_
          obtain ⟨o6_0, o6_1, o6_2, o6_3, o6_4, o6_5, hc6, hf⟩ := wk_b6E hf
          refine wk_callVv2 C hP hD hS (c_X1_add l D cB cI cJ N a_p1 a_p1_bytes a_p1_numbers a_this a_kinds a_counties a_ranks a_values a_hours a_counties_cells a_hours_cells a_kinds_cells a_ranks_cells a_values_cells v_p1_length o4_0 o4_1 o4_2 o4_3 o4_4 o4_5 v_size v_counties v_hours v_kinds v_ranks v_values hc6) (cwV 1 hts gX1_take_X1_add rfl rfl rfl hd_X1_add ⟨Nat.le_of_ble_eq_true rfl, Nat.le_of_ble_eq_true rfl⟩) hl.1 ⟨Nat.zero_le _, Nat.zero_le _⟩ [0, 5, 6, 7, 8, 9, 10, 11, 12, 13, 14, 15] [1, 2, 3, 4] 16 (by decide +kernel) rfl (Wn := w_X1_take cB cI cJ a_p1 a_p1_bytes a_p1_numbers a_p1_bytes_cells a_p1_numbers_cells a_this a_kinds a_counties a_ranks a_values a_hours a_counties_cells a_hours_cells a_kinds_cells a_ranks_cells a_values_cells v_p1_length o4_0 o4_1 o4_2 o4_3 o4_4 o4_5 v_p1_bytes o4_6 o6_0 o6_1 o6_2 o6_3 o6_4 o6_5) rfl rfl rfl rfl rfl rfl (ci := 1) rfl rfl (q0 := 5) rfl rfl rfl (Nat.le_of_ble_eq_true rfl) dX1_take_39 (fun H locs hP hD hS => ?_)
          refine lv_aload_n hx hb dX1_take_42 rfl (lv_at hl 1 rfl) ?_
          obtain ⟨r7, hc7, hf⟩ := wk_b1E hf
          refine wk_callVi2 C hP hD hS (c_X9_behind l D cB cI cJ N a_p1 a_p1_bytes a_p1_numbers v_p1_length o4_0 o4_1 o4_2 o4_3 o4_4 o4_5 hc7) (cwV 0 hts gX1_take_X9_behind rfl rfl rfl hd_X9_behind ⟨Nat.le_of_ble_eq_true rfl, Nat.le_of_ble_eq_true rfl⟩) hl.1 ⟨Nat.zero_le _, Nat.zero_le _⟩ [0] [1, 2, 3, 4, 5, 6, 7, 8, 9, 10, 11, 12, 13, 14, 15] 16 (by decide +kernel) rfl (Wn := w_X1_take cB cI cJ a_p1 a_p1_bytes a_p1_numbers a_p1_bytes_cells a_p1_numbers_cells a_this a_kinds a_counties a_ranks a_values a_hours a_counties_cells a_hours_cells a_kinds_cells a_ranks_cells a_values_cells v_p1_length o4_0 o4_1 o4_2 o4_3 o4_4 o4_5 v_p1_bytes o4_6 o6_0 o6_1 o6_2 o6_3 o6_4 o6_5) rfl rfl rfl rfl rfl rfl (ci := 9) rfl rfl (q0 := 0) rfl rfl rfl (Nat.le_of_ble_eq_true rfl) dX1_take_43 (fun H locs hP hD hS => ?_)
          refine lv_istore_n (lv' := [(2, .int r7), (0, .ref a_this), (1, .ref a_p1), (3, .int x3)]) hx hb dX1_take_46 rfl hl (by decide) rfl (fun ls hl => ?_)
          obtain ⟨y8, ey8⟩ : ∃ y : Int32, y = x3 + (1 : Int32) := ⟨_, rfl⟩
          have hf := wk_nmE hf ey8
          refine lv_iinc (v := y8) (lv' := [(3, .int y8), (2, .int r7), (0, .ref a_this), (1, .ref a_p1)]) hx hb dX1_take_47 hl (k := 3) rfl (by rw [ey8]; rfl) (by decide) rfl (fun ls hl => ?_)
          refine lv_goto (tgt := 14) hx hb dX1_take_50 (by decide) ?_
          exact ih14 _ _ _ _ _ _ _ _ _ _ _ _ _ _ _ hf _ _ _ hP hD hS (lv_sub hl [2, 3, 1, 0] rfl)
        · have hf := wk_itT hf c5
          exact hret _ _ _ _ _ dX1_take_36 (wk_rt hf (fun z => w_X1_take cB cI cJ a_p1 a_p1_bytes a_p1_numbers a_p1_bytes_cells a_p1_numbers_cells a_this a_kinds a_counties a_ranks a_values a_hours a_counties_cells a_hours_cells a_kinds_cells a_ranks_cells a_values_cells v_p1_length (z.1) (z.2.1) (z.2.2.1) (z.2.2.2.1) (z.2.2.2.2.1) (z.2.2.2.2.2.1) v_p1_bytes (z.2.2.2.2.2.2.1) (z.2.2.2.2.2.2.2.1) (z.2.2.2.2.2.2.2.2.1) (z.2.2.2.2.2.2.2.2.2.1) (z.2.2.2.2.2.2.2.2.2.2.1) (z.2.2.2.2.2.2.2.2.2.2.2.1) (z.2.2.2.2.2.2.2.2.2.2.2.2))) hP hD hS)
  unfold f_X1_take at hf
  refine lv_aload_n hx hb dX1_take_0 rfl (lv_at hl 1 rfl) ?_
  refine lv_ifnonnull (tgt := 5) hx hb dX1_take_1 (by decide) ?_
  refine lv_aload_n hx hb dX1_take_5 rfl (lv_at hl 0 rfl) ?_
  refine lv_iconst (v := (0 : Int32)) hx hb dX1_take_6 (by decide) ?_
  refine va_put (D := D) (ci := 1) (v := .int (0 : Int32)) (ty := .int) (C := RX1) (T := TX1) (N := 6) hx hb hts in_X1_take_X1 tyX1 tyX1_ok nmX1 hown hK hP hD hS 5 rfl rfl 5 (by decide) (hts (.fieldLink RX1 32 "HangingCards$Orders" "size" "I") (List.mem_of_getElem? (i := 1) rfl)) (fun _ h9 => h9) rfl (by decide +kernel) rfl rfl (Nat.le_of_ble_eq_true rfl) dX1_take_7 (fun H locs hP hD hS => ?_)
  have hP : va_P D vwCl (w_X1_take cB cI cJ a_p1 a_p1_bytes a_p1_numbers a_p1_bytes_cells a_p1_numbers_cells a_this a_kinds a_counties a_ranks a_values a_hours a_counties_cells a_hours_cells a_kinds_cells a_ranks_cells a_values_cells v_p1_length v_p1_behind v_p1_kind v_p1_county v_p1_rank v_p1_value v_p1_hour v_p1_bytes v_p1_numbers (0 : Int32) v_counties v_hours v_kinds v_ranks v_values) H := hP
  have hD : va_D A (w_X1_take cB cI cJ a_p1 a_p1_bytes a_p1_numbers a_p1_bytes_cells a_p1_numbers_cells a_this a_kinds a_counties a_ranks a_values a_hours a_counties_cells a_hours_cells a_kinds_cells a_ranks_cells a_values_cells v_p1_length v_p1_behind v_p1_kind v_p1_county v_p1_rank v_p1_value v_p1_hour v_p1_bytes v_p1_numbers (0 : Int32) v_counties v_hours v_kinds v_ranks v_values) := hD
  refine lv_iconst (v := (0 : Int32)) hx hb dX1_take_10 (by decide) ?_
  refine lv_istore_n (lv' := [(2, .int (0 : Int32)), (0, .ref a_this), (1, .ref a_p1)]) hx hb dX1_take_11 rfl hl (by decide) rfl (fun ls hl => ?_)
  refine lv_iconst (v := (0 : Int32)) hx hb dX1_take_12 (by decide) ?_
  refine lv_istore_n (lv' := [(3, .int (0 : Int32)), (2, .int (0 : Int32)), (0, .ref a_this), (1, .ref a_p1)]) hx hb dX1_take_13 rfl hl (by decide) rfl (fun ls hl => ?_)
  exact L14 N _ _ _ _ _ _ _ _ _ _ _ _ _ _ _ hf _ _ _ hP hD hS (lv_sub hl [2, 3, 1, 0] rfl)
abbrev w_X1_isFor (cB cI cJ : ClassId) (a_this : Nat) (a_kinds : Nat) (a_counties : Nat) (a_ranks : Nat) (a_values : Nat) (a_hours : Nat) (a_counties_cells : Nat) (v_size : Int32) (v_counties : Nat → Int32) : va_W := [(a_this, .inr (1, [.ref a_kinds, .ref a_counties, .ref a_ranks, .ref a_values, .ref a_hours, .int v_size])), (a_counties, .inr (6, [.ref a_counties_cells])), (a_counties_cells, .inl (cI, 40, .inl v_counties))]
theorem hd_X1_isFor : yX1_isFor.cls = RX1 ∧ yX1_isFor.cls ≠ "java/lang/invoke/MethodHandle" ∧ yX1_isFor.cls ≠ "java/lang/invoke/VarHandle" ∧ (parseMethodDescriptor yX1_isFor.desc).map (fun d => d.parameters.length) = some 2 := by decide +kernel
abbrev rm_X1_isFor : Room := { frames := 1, cells := 0, slots := 0, locals := 21 }
theorem in_X1_isFor_X1 : ∀ w ∈ wsX10, w ∈ wsX1_isFor := fun w h => List.mem_cons_of_mem _ (List.mem_append_left _ (List.mem_append_right _ h))
set_option maxHeartbeats 4000000 in
set_option maxRecDepth 100000 in
theorem c_X1_isFor (l : Launch) (D : va_G) (cB cI cJ : ClassId) (N : Nat) (a_this : Nat) (a_kinds : Nat) (a_counties : Nat) (a_ranks : Nat) (a_values : Nat) (a_hours : Nat) (a_counties_cells : Nat) (v_size : Int32) (v_counties : Nat → Int32) (x1 : Int32) (x2 : Int32) {r : Bool} (hf : f_X1_isFor N v_counties x1 x2 = some r) : MTi l yX1_isFor wsX1_isFor rm_X1_isFor D (wk_T cB cI cJ) [.ref a_this, .int x1, .int x2] (w_X1_isFor cB cI cJ a_this a_kinds a_counties a_ranks a_values a_hours a_counties_cells v_size v_counties) (w_X1_isFor cB cI cJ a_this a_kinds a_counties a_ranks a_values a_hours a_counties_cells v_size v_counties) (wk_bI r) := by
  refine MTi.of (cc := cX1_isFor) (nL := 3) (rt := .boolean) (own := RX1) pn_X1 rfl rfl (Nat.le_of_ble_eq_true rfl) (wk_nz r) ?_
  intro p e s m args below meth c A ls Q C hP hD hS hl hret
  obtain ⟨hx, hb, hml, hts, hown, hK, hN, hA, hlk⟩ := id C
  have hl : lv_has ls 3 [(0, .ref a_this), (1, .int x1), (2, .int x2)] := hl
  unfold f_X1_isFor at hf
  refine lv_aload_n hx hb dX1_isFor_0 rfl (lv_at hl 0 rfl) ?_
  refine va_get (D := D) (ci := 1) (v := .ref a_counties) (C := RX1) (T := TX1) (N := 6) hx hb hts in_X1_isFor_X1 hown hK hP 0 rfl rfl 1 (by decide) (hts (.fieldLink RX1 20 "HangingCards$Orders" "counties" "LHangingCards$Row;") (List.mem_of_getElem? (i := 1) rfl)) (fun _ h9 => h9) rfl dX1_isFor_1 ?_
  refine lv_iload_n hx hb dX1_isFor_4 rfl (lv_at hl 1 rfl) ?_
  obtain ⟨r1, hc1, hf⟩ := wk_b1E hf
  refine wk_callVi2 C hP hD hS (c_X6_get l D cB cI cJ N a_counties a_counties_cells 40 v_counties x1 hc1) (cwV 1 hts gX1_isFor_X6_get rfl rfl rfl hd_X6_get ⟨Nat.le_of_ble_eq_true rfl, Nat.le_of_ble_eq_true rfl⟩) hl.1 ⟨Nat.zero_le _, Nat.zero_le _⟩ [1, 2] [0] 3 (by decide +kernel) rfl (Wn := w_X1_isFor cB cI cJ a_this a_kinds a_counties a_ranks a_values a_hours a_counties_cells v_size v_counties) rfl rfl rfl rfl rfl rfl (ci := 6) rfl rfl (q0 := 1) rfl rfl rfl (Nat.le_of_ble_eq_true rfl) dX1_isFor_5 (fun H locs hP hD hS => ?_)
  refine lv_iconst (v := (5 : Int32)) hx hb dX1_isFor_8 (by decide) ?_
  refine lv_icmp_eq (tgt := 24) hx hb dX1_isFor_9 (by decide) (fun c2 => ?_) (fun c2 => ?_)
  · have hf := wk_itT hf c2
    refine lv_iconst (v := (1 : Int32)) hx hb dX1_isFor_24 (by decide) ?_
    refine lv_goto (tgt := 29) hx hb dX1_isFor_25 (by decide) ?_
    exact hret _ _ _ _ _ _ dX1_isFor_29 (wk_rt hf (fun z => wk_bI z)) rfl hP hD hS
  · have hf := wk_itF hf c2
    refine lv_aload_n hx hb dX1_isFor_12 rfl (lv_at hl 0 rfl) ?_
    refine va_get (D := D) (ci := 1) (v := .ref a_counties) (C := RX1) (T := TX1) (N := 6) hx hb hts in_X1_isFor_X1 hown hK hP 0 rfl rfl 1 (by decide) (hts (.fieldLink RX1 20 "HangingCards$Orders" "counties" "LHangingCards$Row;") (List.mem_of_getElem? (i := 1) rfl)) (fun _ h9 => h9) rfl dX1_isFor_13 ?_
    refine lv_iload_n hx hb dX1_isFor_16 rfl (lv_at hl 1 rfl) ?_
    obtain ⟨r3, hc3, hf⟩ := wk_b1E hf
    refine wk_callVi2 C hP hD hS (c_X6_get l D cB cI cJ N a_counties a_counties_cells 40 v_counties x1 hc3) (cwV 1 hts gX1_isFor_X6_get rfl rfl rfl hd_X6_get ⟨Nat.le_of_ble_eq_true rfl, Nat.le_of_ble_eq_true rfl⟩) hl.1 ⟨Nat.zero_le _, Nat.zero_le _⟩ [1, 2] [0] 3 (by decide +kernel) rfl (Wn := w_X1_isFor cB cI cJ a_this a_kinds a_counties a_ranks a_values a_hours a_counties_cells v_size v_counties) rfl rfl rfl rfl rfl rfl (ci := 6) rfl rfl (q0 := 1) rfl rfl rfl (Nat.le_of_ble_eq_true rfl) dX1_isFor_17 (fun H locs hP hD hS => ?_)
    refine lv_iload_n hx hb dX1_isFor_20 rfl (lv_at hl 2 rfl) ?_
    refine lv_icmp_ne (tgt := 28) hx hb dX1_isFor_21 (by decide) (fun c4 => ?_) (fun c4 => ?_)
    · have hf := wk_itF hf c4
      refine lv_iconst (v := (0 : Int32)) hx hb dX1_isFor_28 (by decide) ?_
      exact hret _ _ _ _ _ _ dX1_isFor_29 (wk_rt hf (fun z => wk_bI z)) rfl hP hD hS
    · have hf := wk_itT hf c4
      refine lv_iconst (v := (1 : Int32)) hx hb dX1_isFor_24 (by decide) ?_
      refine lv_goto (tgt := 29) hx hb dX1_isFor_25 (by decide) ?_
      exact hret _ _ _ _ _ _ dX1_isFor_29 (wk_rt hf (fun z => wk_bI z)) rfl hP hD hS
abbrev w_X1_yields (cB cI cJ : ClassId) (a_this : Nat) (a_kinds : Nat) (a_counties : Nat) (a_ranks : Nat) (a_values : Nat) (a_hours : Nat) (a_hours_cells : Nat) (a_kinds_cells : Nat) (a_ranks_cells : Nat) (v_size : Int32) (v_hours : Nat → Int32) (v_kinds : Nat → Int32) (v_ranks : Nat → Int32) : va_W := [(a_this, .inr (1, [.ref a_kinds, .ref a_counties, .ref a_ranks, .ref a_values, .ref a_hours, .int v_size])), (a_hours, .inr (6, [.ref a_hours_cells])), (a_hours_cells, .inl (cI, 40, .inl v_hours)), (a_kinds, .inr (6, [.ref a_kinds_cells])), (a_kinds_cells, .inl (cI, 40, .inl v_kinds)), (a_ranks, .inr (6, [.ref a_ranks_cells])), (a_ranks_cells, .inl (cI, 40, .inl v_ranks))]
theorem hd_X1_yields : yX1_yields.cls = RX1 ∧ yX1_yields.cls ≠ "java/lang/invoke/MethodHandle" ∧ yX1_yields.cls ≠ "java/lang/invoke/VarHandle" ∧ (parseMethodDescriptor yX1_yields.desc).map (fun d => d.parameters.length) = some 2 := by decide +kernel
abbrev rm_X1_yields : Room := { frames := 1, cells := 0, slots := 0, locals := 21 }
theorem in_X1_yields_X1 : ∀ w ∈ wsX10, w ∈ wsX1_yields := fun w h => List.mem_cons_of_mem _ (List.mem_append_left _ (List.mem_append_right _ h))
set_option maxHeartbeats 4000000 in
set_option maxRecDepth 100000 in
theorem c_X1_yields (l : Launch) (D : va_G) (cB cI cJ : ClassId) (N : Nat) (a_this : Nat) (a_kinds : Nat) (a_counties : Nat) (a_ranks : Nat) (a_values : Nat) (a_hours : Nat) (a_hours_cells : Nat) (a_kinds_cells : Nat) (a_ranks_cells : Nat) (v_size : Int32) (v_hours : Nat → Int32) (v_kinds : Nat → Int32) (v_ranks : Nat → Int32) (x1 : Int32) (x2 : Int32) {r : Bool} (hf : f_X1_yields N v_hours v_kinds v_ranks x1 x2 = some r) : MTi l yX1_yields wsX1_yields rm_X1_yields D (wk_T cB cI cJ) [.ref a_this, .int x1, .int x2] (w_X1_yields cB cI cJ a_this a_kinds a_counties a_ranks a_values a_hours a_hours_cells a_kinds_cells a_ranks_cells v_size v_hours v_kinds v_ranks) (w_X1_yields cB cI cJ a_this a_kinds a_counties a_ranks a_values a_hours a_hours_cells a_kinds_cells a_ranks_cells v_size v_hours v_kinds v_ranks) (wk_bI r) := by
  refine MTi.of (cc := cX1_yields) (nL := 3) (rt := .boolean) (own := RX1) pn_X1 rfl rfl (Nat.le_of_ble_eq_true rfl) (wk_nz r) ?_
  intro p e s m args below meth c A ls Q C hP hD hS hl hret
  obtain ⟨hx, hb, hml, hts, hown, hK, hN, hA, hlk⟩ := id C
  have hl : lv_has ls 3 [(0, .ref a_this), (1, .int x1), (2, .int x2)] := hl
  unfold f_X1_yields at hf
  refine lv_aload_n hx hb dX1_yields_0 rfl (lv_at hl 0 rfl) ?_
  refine va_get (D := D) (ci := 1) (v := .ref a_kinds) (C := RX1) (T := TX1) (N := 6) hx hb hts in_X1_yields_X1 hown hK hP 0 rfl rfl 0 (by decide) (hts (.fieldLink RX1 14 "HangingCards$Orders" "kinds" "LHangingCards$Row;") (List.mem_of_getElem? (i := 1) rfl)) (fun _ h9 => h9) rfl dX1_yields_1 ?_
  refine lv_iload_n hx hb dX1_yields_4 rfl (lv_at hl 1 rfl) ?_
  obtain ⟨r1, hc1, hf⟩ := wk_b1E hf
  refine wk_callVi2 C hP hD hS (c_X6_get l D cB cI cJ N a_kinds a_kinds_cells 40 v_kinds x1 hc1) (cwV 1 hts gX1_yields_X6_get rfl rfl rfl hd_X6_get ⟨Nat.le_of_ble_eq_true rfl, Nat.le_of_ble_eq_true rfl⟩) hl.1 ⟨Nat.zero_le _, Nat.zero_le _⟩ [3, 4] [0, 1, 2, 5, 6] 7 (by decide +kernel) rfl (Wn := w_X1_yields cB cI cJ a_this a_kinds a_counties a_ranks a_values a_hours a_hours_cells a_kinds_cells a_ranks_cells v_size v_hours v_kinds v_ranks) rfl rfl rfl rfl rfl rfl (ci := 6) rfl rfl (q0 := 3) rfl rfl rfl (Nat.le_of_ble_eq_true rfl) dX1_yields_5 (fun H locs hP hD hS => ?_)
  refine lv_iconst (v := (3 : Int32)) hx hb dX1_yields_8 (by decide) ?_
  refine lv_icmp_eq (tgt := 14) hx hb dX1_yields_9 (by decide) (fun c2 => ?_) (fun c2 => ?_)
  · have hf := wk_itT hf c2
    refine lv_aload_n hx hb dX1_yields_14 rfl (lv_at hl 0 rfl) ?_
    refine va_get (D := D) (ci := 1) (v := .ref a_ranks) (C := RX1) (T := TX1) (N := 6) hx hb hts in_X1_yields_X1 hown hK hP 0 rfl rfl 2 (by decide) (hts (.fieldLink RX1 23 "HangingCards$Orders" "ranks" "LHangingCards$Row;") (List.mem_of_getElem? (i := 2) rfl)) (fun _ h9 => h9) rfl dX1_yields_15 ?_
    refine lv_iload_n hx hb dX1_yields_18 rfl (lv_at hl 1 rfl) ?_
    obtain ⟨r3, hc3, hf⟩ := wk_b1E hf
    refine wk_callVi2 C hP hD hS (c_X6_get l D cB cI cJ N a_ranks a_ranks_cells 40 v_ranks x1 hc3) (cwV 1 hts gX1_yields_X6_get rfl rfl rfl hd_X6_get ⟨Nat.le_of_ble_eq_true rfl, Nat.le_of_ble_eq_true rfl⟩) hl.1 ⟨Nat.zero_le _, Nat.zero_le _⟩ [5, 6] [0, 1, 2, 3, 4] 7 (by decide +kernel) rfl (Wn := w_X1_yields cB cI cJ a_this a_kinds a_counties a_ranks a_values a_hours a_hours_cells a_kinds_cells a_ranks_cells v_size v_hours v_kinds v_ranks) rfl rfl rfl rfl rfl rfl (ci := 6) rfl rfl (q0 := 5) rfl rfl rfl (Nat.le_of_ble_eq_true rfl) dX1_yields_19 (fun H locs hP hD hS => ?_)
    refine lv_aload_n hx hb dX1_yields_22 rfl (lv_at hl 0 rfl) ?_
    refine va_get (D := D) (ci := 1) (v := .ref a_ranks) (C := RX1) (T := TX1) (N := 6) hx hb hts in_X1_yields_X1 hown hK hP 0 rfl rfl 2 (by decide) (hts (.fieldLink RX1 23 "HangingCards$Orders" "ranks" "LHangingCards$Row;") (List.mem_of_getElem? (i := 2) rfl)) (fun _ h9 => h9) rfl dX1_yields_23 ?_
    refine lv_iload_n hx hb dX1_yields_26 rfl (lv_at hl 2 rfl) ?_
    obtain ⟨r4, hc4, hf⟩ := wk_b1E hf
    refine wk_callVi2 C hP hD hS (c_X6_get l D cB cI cJ N a_ranks a_ranks_cells 40 v_ranks x2 hc4) (cwV 1 hts gX1_yields_X6_get rfl rfl rfl hd_X6_get ⟨Nat.le_of_ble_eq_true rfl, Nat.le_of_ble_eq_true rfl⟩) hl.1 ⟨Nat.zero_le _, Nat.zero_le _⟩ [5, 6] [0, 1, 2, 3, 4] 7 (by decide +kernel) rfl (Wn := w_X1_yields cB cI cJ a_this a_kinds a_counties a_ranks a_values a_hours a_hours_cells a_kinds_cells a_ranks_cells v_size v_hours v_kinds v_ranks) rfl rfl rfl rfl rfl rfl (ci := 6) rfl rfl (q0 := 5) rfl rfl rfl (Nat.le_of_ble_eq_true rfl) dX1_yields_27 (fun H locs hP hD hS => ?_)
    refine lv_icmp_eq (tgt := 58) hx hb dX1_yields_30 (by decide) (fun c5 => ?_) (fun c5 => ?_)
    · have hf := wk_itT hf c5
      refine lv_aload_n hx hb dX1_yields_58 rfl (lv_at hl 0 rfl) ?_
      refine va_get (D := D) (ci := 1) (v := .ref a_hours) (C := RX1) (T := TX1) (N := 6) hx hb hts in_X1_yields_X1 hown hK hP 0 rfl rfl 4 (by decide) (hts (.fieldLink RX1 29 "HangingCards$Orders" "hours" "LHangingCards$Row;") (List.mem_of_getElem? (i := 3) rfl)) (fun _ h9 => h9) rfl dX1_yields_59 ?_
      refine lv_iload_n hx hb dX1_yields_62 rfl (lv_at hl 1 rfl) ?_
      obtain ⟨r6, hc6, hf⟩ := wk_b1E hf
      refine wk_callVi2 C hP hD hS (c_X6_get l D cB cI cJ N a_hours a_hours_cells 40 v_hours x1 hc6) (cwV 1 hts gX1_yields_X6_get rfl rfl rfl hd_X6_get ⟨Nat.le_of_ble_eq_true rfl, Nat.le_of_ble_eq_true rfl⟩) hl.1 ⟨Nat.zero_le _, Nat.zero_le _⟩ [1, 2] [0, 3, 4, 5, 6] 7 (by decide +kernel) rfl (Wn := w_X1_yields cB cI cJ a_this a_kinds a_counties a_ranks a_values a_hours a_hours_cells a_kinds_cells a_ranks_cells v_size v_hours v_kinds v_ranks) rfl rfl rfl rfl rfl rfl (ci := 6) rfl rfl (q0 := 1) rfl rfl rfl (Nat.le_of_ble_eq_true rfl) dX1_yields_63 (fun H locs hP hD hS => ?_)
      refine lv_aload_n hx hb dX1_yields_66 rfl (lv_at hl 0 rfl) ?_
      refine va_get (D := D) (ci := 1) (v := .ref a_hours) (C := RX1) (T := TX1) (N := 6) hx hb hts in_X1_yields_X1 hown hK hP 0 rfl rfl 4 (by decide) (hts (.fieldLink RX1 29 "HangingCards$Orders" "hours" "LHangingCards$Row;") (List.mem_of_getElem? (i := 3) rfl)) (fun _ h9 => h9) rfl dX1_yields_67 ?_
      refine lv_iload_n hx hb dX1_yields_70 rfl (lv_at hl 2 rfl) ?_
      obtain ⟨r7, hc7, hf⟩ := wk_b1E hf
      refine wk_callVi2 C hP hD hS (c_X6_get l D cB cI cJ N a_hours a_hours_cells 40 v_hours x2 hc7) (cwV 1 hts gX1_yields_X6_get rfl rfl rfl hd_X6_get ⟨Nat.le_of_ble_eq_true rfl, Nat.le_of_ble_eq_true rfl⟩) hl.1 ⟨Nat.zero_le _, Nat.zero_le _⟩ [1, 2] [0, 3, 4, 5, 6] 7 (by decide +kernel) rfl (Wn := w_X1_yields cB cI cJ a_this a_kinds a_counties a_ranks a_values a_hours a_hours_cells a_kinds_cells a_ranks_cells v_size v_hours v_kinds v_ranks) rfl rfl rfl rfl rfl rfl (ci := 6) rfl rfl (q0 := 1) rfl rfl rfl (Nat.le_of_ble_eq_true rfl) dX1_yields_71 (fun H locs hP hD hS => ?_)
      refine lv_icmp_ge (tgt := 81) hx hb dX1_yields_74 (by decide) (fun c8 => ?_) (fun c8 => ?_)
      · have hf := wk_itT hf c8
        refine lv_iconst (v := (0 : Int32)) hx hb dX1_yields_81 (by decide) ?_
        exact hret _ _ _ _ _ _ dX1_yields_82 (wk_rt hf (fun z => wk_bI z)) rfl hP hD hS
      · have hf := wk_itF hf c8
        refine lv_iconst (v := (1 : Int32)) hx hb dX1_yields_77 (by decide) ?_
        refine lv_goto (tgt := 82) hx hb dX1_yields_78 (by decide) ?_
        exact hret _ _ _ _ _ _ dX1_yields_82 (wk_rt hf (fun z => wk_bI z)) rfl hP hD hS
    · have hf := wk_itF hf c5
      refine lv_aload_n hx hb dX1_yields_33 rfl (lv_at hl 0 rfl) ?_
      refine va_get (D := D) (ci := 1) (v := .ref a_ranks) (C := RX1) (T := TX1) (N := 6) hx hb hts in_X1_yields_X1 hown hK hP 0 rfl rfl 2 (by decide) (hts (.fieldLink RX1 23 "HangingCards$Orders" "ranks" "LHangingCards$Row;") (List.mem_of_getElem? (i := 2) rfl)) (fun _ h9 => h9) rfl dX1_yields_34 ?_
      refine lv_iload_n hx hb dX1_yields_37 rfl (lv_at hl 1 rfl) ?_
      obtain ⟨r9, hc9, hf⟩ := wk_b1E hf
      refine wk_callVi2 C hP hD hS (c_X6_get l D cB cI cJ N a_ranks a_ranks_cells 40 v_ranks x1 hc9) (cwV 1 hts gX1_yields_X6_get rfl rfl rfl hd_X6_get ⟨Nat.le_of_ble_eq_true rfl, Nat.le_of_ble_eq_true rfl⟩) hl.1 ⟨Nat.zero_le _, Nat.zero_le _⟩ [5, 6] [0, 1, 2, 3, 4] 7 (by decide +kernel) rfl (Wn := w_X1_yields cB cI cJ a_this a_kinds a_counties a_ranks a_values a_hours a_hours_cells a_kinds_cells a_ranks_cells v_size v_hours v_kinds v_ranks) rfl rfl rfl rfl rfl rfl (ci := 6) rfl rfl (q0 := 5) rfl rfl rfl (Nat.le_of_ble_eq_true rfl) dX1_yields_38 (fun H locs hP hD hS => ?_)
      refine lv_aload_n hx hb dX1_yields_41 rfl (lv_at hl 0 rfl) ?_
      refine va_get (D := D) (ci := 1) (v := .ref a_ranks) (C := RX1) (T := TX1) (N := 6) hx hb hts in_X1_yields_X1 hown hK hP 0 rfl rfl 2 (by decide) (hts (.fieldLink RX1 23 "HangingCards$Orders" "ranks" "LHangingCards$Row;") (List.mem_of_getElem? (i := 2) rfl)) (fun _ h9 => h9) rfl dX1_yields_42 ?_
      refine lv_iload_n hx hb dX1_yields_45 rfl (lv_at hl 2 rfl) ?_
      obtain ⟨r10, hc10, hf⟩ := wk_b1E hf
      refine wk_callVi2 C hP hD hS (c_X6_get l D cB cI cJ N a_ranks a_ranks_cells 40 v_ranks x2 hc10) (cwV 1 hts gX1_yields_X6_get rfl rfl rfl hd_X6_get ⟨Nat.le_of_ble_eq_true rfl, Nat.le_of_ble_eq_true rfl⟩) hl.1 ⟨Nat.zero_le _, Nat.zero_le _⟩ [5, 6] [0, 1, 2, 3, 4] 7 (by decide +kernel) rfl (Wn := w_X1_yields cB cI cJ a_this a_kinds a_counties a_ranks a_values a_hours a_hours_cells a_kinds_cells a_ranks_cells v_size v_hours v_kinds v_ranks) rfl rfl rfl rfl rfl rfl (ci := 6) rfl rfl (q0 := 5) rfl rfl rfl (Nat.le_of_ble_eq_true rfl) dX1_yields_46 (fun H locs hP hD hS => ?_)
      refine lv_icmp_ge (tgt := 56) hx hb dX1_yields_49 (by decide) (fun c11 => ?_) (fun c11 => ?_)
      · have hf := wk_itT hf c11
        refine lv_iconst (v := (0 : Int32)) hx hb dX1_yields_56 (by decide) ?_
        exact hret _ _ _ _ _ _ dX1_yields_57 (wk_rt hf (fun z => wk_bI z)) rfl hP hD hS
      · have hf := wk_itF hf c11
        refine lv_iconst (v := (1 : Int32)) hx hb dX1_yields_52 (by decide) ?_
        refine lv_goto (tgt := 57) hx hb dX1_yields_53 (by decide) ?_
        exact hret _ _ _ _ _ _ dX1_yields_57 (wk_rt hf (fun z => wk_bI z)) rfl hP hD hS
  · have hf := wk_itF hf c2
    refine lv_iconst (v := (0 : Int32)) hx hb dX1_yields_12 (by decide) ?_
    exact hret _ _ _ _ _ _ dX1_yields_13 (wk_rt hf (fun z => wk_bI z)) rfl hP hD hS
abbrev w_X1_holding (cB cI cJ : ClassId) (a_this : Nat) (a_kinds : Nat) (a_counties : Nat) (a_ranks : Nat) (a_values : Nat) (a_hours : Nat) (a_counties_cells : Nat) (a_hours_cells : Nat) (a_kinds_cells : Nat) (a_ranks_cells : Nat) (v_size : Int32) (v_counties : Nat → Int32) (v_hours : Nat → Int32) (v_kinds : Nat → Int32) (v_ranks : Nat → Int32) : va_W := [(a_this, .inr (1, [.ref a_kinds, .ref a_counties, .ref a_ranks, .ref a_values, .ref a_hours, .int v_size])), (a_counties, .inr (6, [.ref a_counties_cells])), (a_counties_cells, .inl (cI, 40, .inl v_counties)), (a_hours, .inr (6, [.ref a_hours_cells])), (a_hours_cells, .inl (cI, 40, .inl v_hours)), (a_kinds, .inr (6, [.ref a_kinds_cells])), (a_kinds_cells, .inl (cI, 40, .inl v_kinds)), (a_ranks, .inr (6, [.ref a_ranks_cells])), (a_ranks_cells, .inl (cI, 40, .inl v_ranks))]
theorem hd_X1_holding : yX1_holding.cls = RX1 ∧ yX1_holding.cls ≠ "java/lang/invoke/MethodHandle" ∧ yX1_holding.cls ≠ "java/lang/invoke/VarHandle" ∧ (parseMethodDescriptor yX1_holding.desc).map (fun d => d.parameters.length) = some 3 := by decide +kernel
abbrev rm_X1_holding : Room := { frames := 2, cells := 0, slots := 0, locals := 43 }
theorem in_X1_holding_X1 : ∀ w ∈ wsX10, w ∈ wsX1_holding := fun w h => List.mem_cons_of_mem _ (List.mem_append_left _ (List.mem_append_right _ h))
set_option maxHeartbeats 4000000 in
set_option maxRecDepth 100000 in
theorem c_X1_holding (l : Launch) (D : va_G) (cB cI cJ : ClassId) (N : Nat) (a_this : Nat) (a_kinds : Nat) (a_counties : Nat) (a_ranks : Nat) (a_values : Nat) (a_hours : Nat) (a_counties_cells : Nat) (a_hours_cells : Nat) (a_kinds_cells : Nat) (a_ranks_cells : Nat) (v_size : Int32) (v_counties : Nat → Int32) (v_hours : Nat → Int32) (v_kinds : Nat → Int32) (v_ranks : Nat → Int32) (x1 : Int32) (x2 : Int32) (x3 : Int32) {r : Int32} (hf : f_X1_holding N v_size v_counties v_hours v_kinds v_ranks x1 x2 x3 = some r) : MTi l yX1_holding wsX1_holding rm_X1_holding D (wk_T cB cI cJ) [.ref a_this, .int x1, .int x2, .int x3] (w_X1_holding cB cI cJ a_this a_kinds a_counties a_ranks a_values a_hours a_counties_cells a_hours_cells a_kinds_cells a_ranks_cells v_size v_counties v_hours v_kinds v_ranks) (w_X1_holding cB cI cJ a_this a_kinds a_counties a_ranks a_values a_hours a_counties_cells a_hours_cells a_kinds_cells a_ranks_cells v_size v_counties v_hours v_kinds v_ranks) r := by
  refine MTi.of (cc := cX1_holding) (nL := 7) (rt := .int) (own := RX1) pn_X1 rfl rfl (Nat.le_of_ble_eq_true rfl) rfl ?_
  intro p e s m args below meth c A ls Q C hP hD hS hl hret
  obtain ⟨hx, hb, hml, hts, hown, hK, hN, hA, hlk⟩ := id C
  have hl : lv_has ls 7 [(0, .ref a_this), (1, .int x1), (2, .int x2), (3, .int x3)] := hl
  have L7 := wk_loopI (F := (fun k7 : Int32 → Int32 → Int32 → Int32 → Int32 → Option Int32 => B_X1_holding_7 N v_size v_counties v_hours v_kinds v_ranks k7)) (bot := fun _ _ _ _ _ => none) (fun k7 : Int32 → Int32 → Int32 → Int32 → Int32 → Option Int32 => ∀ (x1 : Int32) (x2 : Int32) (x3 : Int32) (x4 : Int32) (x5 : Int32), k7 x1 x2 x3 x4 x5 = some r → ∀ (H : Heap) (locs : List Loc) (ls : Array Slot), va_P D vwCl (w_X1_holding cB cI cJ a_this a_kinds a_counties a_ranks a_values a_hours a_counties_cells a_hours_cells a_kinds_cells a_ranks_cells v_size v_counties v_hours v_kinds v_ranks) H → va_D A (w_X1_holding cB cI cJ a_this a_kinds a_counties a_ranks a_values a_hours a_counties_cells a_hours_cells a_kinds_cells a_ranks_cells v_size v_counties v_hours v_kinds v_ranks) → va_S A s.heap H locs → lv_has ls 7 [(0, .ref a_this), (1, .int x1), (2, .int x2), (3, .int x3), (4, .int x4), (5, .int x5)] → W p l e rm_X1_holding s m args below meth c H locs 0 0 Q (F0 m 7 ls [])) (by intro x1 x2 x3 x4 x5 hf; exact wk_no hf) (by
    intro k7 ih7
    have J57 : ∀ (x1 : Int32) (x2 : Int32) (x3 : Int32) (x4 : Int32) (x5 : Int32) (s0 : Int32), B_X1_holding_57 N v_size v_counties v_hours v_kinds v_ranks k7 x1 x2 x3 x4 x5 s0 = some r → ∀ (H : Heap) (locs : List Loc) (ls : Array Slot), va_P D vwCl (w_X1_holding cB cI cJ a_this a_kinds a_counties a_ranks a_values a_hours a_counties_cells a_hours_cells a_kinds_cells a_ranks_cells v_size v_counties v_hours v_kinds v_ranks) H → va_D A (w_X1_holding cB cI cJ a_this a_kinds a_counties a_ranks a_values a_hours a_counties_cells a_hours_cells a_kinds_cells a_ranks_cells v_size v_counties v_hours v_kinds v_ranks) → va_S A s.heap H locs → lv_has ls 7 [(0, .ref a_this), (1, .int x1), (2, .int x2), (3, .int x3), (4, .int x4), (5, .int x5)] → W p l e rm_X1_holding s m args below meth c H locs 0 0 Q (F0 m 57 ls [.int s0]) := by
      intro x1 x2 x3 x4 x5 s0 hf H locs ls hP hD hS hl
      unfold B_X1_holding_57 at hf
      refine lv_istore (lv' := [(6, .int s0), (0, .ref a_this), (1, .int x1), (2, .int x2), (3, .int x3), (4, .int x4), (5, .int x5)]) hx hb dX1_holding_57 hl (by decide) rfl (fun ls hl => ?_)
      refine lv_iload hx hb dX1_holding_59 (lv_at hl 0 rfl) ?_
      refine lv_if_eq (tgt := 86) hx hb dX1_holding_61 (by decide) (fun c1 => ?_) (fun c1 => ?_)
      · have hf := wk_itT hf c1
        obtain ⟨y2, ey2⟩ : ∃ y : Int32, y = x5 + (1 : Int32) := ⟨_, rfl⟩
        have hf := wk_nmE hf ey2
        refine lv_iinc (v := y2) (lv' := [(5, .int y2), (6, .int s0), (0, .ref a_this), (1, .int x1), (2, .int x2), (3, .int x3), (4, .int x4)]) hx hb dX1_holding_86 hl (k := 6) rfl (by rw [ey2]; rfl) (by decide) rfl (fun ls hl => ?_)
        refine lv_goto (tgt := 7) hx hb dX1_holding_89 (by decide) ?_
        exact ih7 _ _ _ _ _ hf _ _ _ hP hD hS (lv_sub hl [2, 3, 4, 5, 6, 0] rfl)
      · have hf := wk_itF hf c1
        refine lv_iload hx hb dX1_holding_64 (lv_at hl 5 rfl) ?_
        refine lv_bipush (v := (-4 : Int32)) hx hb dX1_holding_66 (by decide) ?_
        refine lv_icmp_eq (tgt := 82) hx hb dX1_holding_68 (by decide) (fun c3 => ?_) (fun c3 => ?_)
        · have hf := wk_itT hf c3
          refine lv_iload hx hb dX1_holding_82 (lv_at hl 6 rfl) ?_
          refine lv_istore (lv' := [(4, .int x5), (6, .int s0), (0, .ref a_this), (1, .int x1), (2, .int x2), (3, .int x3), (5, .int x5)]) hx hb dX1_holding_84 hl (by decide) rfl (fun ls hl => ?_)
          obtain ⟨y4, ey4⟩ : ∃ y : Int32, y = x5 + (1 : Int32) := ⟨_, rfl⟩
          have hf := wk_nmE hf ey4
          refine lv_iinc (v := y4) (lv' := [(5, .int y4), (4, .int x5), (6, .int s0), (0, .ref a_this), (1, .int x1), (2, .int x2), (3, .int x3)]) hx hb dX1_holding_86 hl (k := 6) rfl (by rw [ey4]; rfl) (by decide) rfl (fun ls hl => ?_)
          refine lv_goto (tgt := 7) hx hb dX1_holding_89 (by decide) ?_
          exact ih7 _ _ _ _ _ hf _ _ _ hP hD hS (lv_sub hl [3, 4, 5, 6, 1, 0] rfl)
        · have hf := wk_itF hf c3
          refine lv_aload_n hx hb dX1_holding_71 rfl (lv_at hl 1 rfl) ?_
          refine lv_iload hx hb dX1_holding_72 (lv_at hl 6 rfl) ?_
          refine lv_iload hx hb dX1_holding_74 (lv_at hl 5 rfl) ?_
          obtain ⟨r5, hc5, hf⟩ := wk_b1E hf
          refine wk_callVi2 C hP hD hS (c_X1_yields l D cB cI cJ N a_this a_kinds a_counties a_ranks a_values a_hours a_hours_cells a_kinds_cells a_ranks_cells v_size v_hours v_kinds v_ranks x5 x4 hc5) (cwV 2 hts gX1_holding_X1_yields rfl rfl rfl hd_X1_yields ⟨Nat.le_of_ble_eq_true rfl, Nat.le_of_ble_eq_true rfl⟩) hl.1 ⟨Nat.zero_le _, Nat.zero_le _⟩ [0, 3, 4, 5, 6, 7, 8] [1, 2] 9 (by decide +kernel) rfl (Wn := w_X1_holding cB cI cJ a_this a_kinds a_counties a_ranks a_values a_hours a_counties_cells a_hours_cells a_kinds_cells a_ranks_cells v_size v_counties v_hours v_kinds v_ranks) rfl rfl rfl rfl rfl rfl (ci := 1) rfl rfl (q0 := 0) rfl rfl rfl (Nat.le_of_ble_eq_true rfl) dX1_holding_76 (fun H locs hP hD hS => ?_)
          refine lv_if_ne (tgt := 86) hx hb dX1_holding_79 (by decide) (fun c6 => ?_) (fun c6 => ?_)
          · have hf := wk_itF hf c6
            obtain ⟨y7, ey7⟩ : ∃ y : Int32, y = x5 + (1 : Int32) := ⟨_, rfl⟩
            have hf := wk_nmE hf ey7
            refine lv_iinc (v := y7) (lv' := [(5, .int y7), (6, .int s0), (0, .ref a_this), (1, .int x1), (2, .int x2), (3, .int x3), (4, .int x4)]) hx hb dX1_holding_86 hl (k := 6) rfl (by rw [ey7]; rfl) (by decide) rfl (fun ls hl => ?_)
            refine lv_goto (tgt := 7) hx hb dX1_holding_89 (by decide) ?_
            exact ih7 _ _ _ _ _ hf _ _ _ hP hD hS (lv_sub hl [2, 3, 4, 5, 6, 0] rfl)
          · have hf := wk_itT hf c6
            refine lv_iload hx hb dX1_holding_82 (lv_at hl 6 rfl) ?_
            refine lv_istore (lv' := [(4, .int x5), (6, .int s0), (0, .ref a_this), (1, .int x1), (2, .int x2), (3, .int x3), (5, .int x5)]) hx hb dX1_holding_84 hl (by decide) rfl (fun ls hl => ?_)
            obtain ⟨y8, ey8⟩ : ∃ y : Int32, y = x5 + (1 : Int32) := ⟨_, rfl⟩
            have hf := wk_nmE hf ey8
            refine lv_iinc (v := y8) (lv' := [(5, .int y8), (4, .int x5), (6, .int s0), (0, .ref a_this), (1, .int x1), (2, .int x2), (3, .int x3)]) hx hb dX1_holding_86 hl (k := 6) rfl (by rw [ey8]; rfl) (by decide) rfl (fun ls hl => ?_)
            refine lv_goto (tgt := 7) hx hb dX1_holding_89 (by decide) ?_
            exact ih7 _ _ _ _ _ hf _ _ _ hP hD hS (lv_sub hl [3, 4, 5, 6, 1, 0] rfl)
    intro x1 x2 x3 x4 x5 hf H locs ls hP hD hS hl
    have hf : B_X1_holding_7 N v_size v_counties v_hours v_kinds v_ranks k7 x1 x2 x3 x4 x5 = some r := hf
    unfold B_X1_holding_7 at hf
    refine lv_iload hx hb dX1_holding_7 (lv_at hl 5 rfl) ?_
    refine lv_aload_n hx hb dX1_holding_9 rfl (lv_at hl 0 rfl) ?_
    refine va_get (D := D) (ci := 1) (v := .int v_size) (C := RX1) (T := TX1) (N := 6) hx hb hts in_X1_holding_X1 hown hK hP 0 rfl rfl 5 (by decide) (hts (.fieldLink RX1 32 "HangingCards$Orders" "size" "I") (List.mem_of_getElem? (i := 1) rfl)) (fun _ h9 => h9) rfl dX1_holding_10 ?_
    refine lv_icmp_ge (tgt := 92) hx hb dX1_holding_13 (by decide) (fun c9 => ?_) (fun c9 => ?_)
    · have hf := wk_itT hf c9
      refine lv_iload hx hb dX1_holding_92 (lv_at hl 4 rfl) ?_
      exact hret _ _ _ _ _ _ dX1_holding_94 (wk_rt hf (fun z => z)) rfl hP hD hS
    · have hf := wk_itF hf c9
      refine lv_aload_n hx hb dX1_holding_16 rfl (lv_at hl 0 rfl) ?_
      refine va_get (D := D) (ci := 1) (v := .ref a_kinds) (C := RX1) (T := TX1) (N := 6) hx hb hts in_X1_holding_X1 hown hK hP 0 rfl rfl 0 (by decide) (hts (.fieldLink RX1 14 "HangingCards$Orders" "kinds" "LHangingCards$Row;") (List.mem_of_getElem? (i := 2) rfl)) (fun _ h9 => h9) rfl dX1_holding_17 ?_
      refine lv_iload hx hb dX1_holding_20 (lv_at hl 5 rfl) ?_
      obtain ⟨r10, hc10, hf⟩ := wk_b1E hf
      refine wk_callVi2 C hP hD hS (c_X6_get l D cB cI cJ N a_kinds a_kinds_cells 40 v_kinds x5 hc10) (cwV 1 hts gX1_holding_X6_get rfl rfl rfl hd_X6_get ⟨Nat.le_of_ble_eq_true rfl, Nat.le_of_ble_eq_true rfl⟩) hl.1 ⟨Nat.zero_le _, Nat.zero_le _⟩ [5, 6] [0, 1, 2, 3, 4, 7, 8] 9 (by decide +kernel) rfl (Wn := w_X1_holding cB cI cJ a_this a_kinds a_counties a_ranks a_values a_hours a_counties_cells a_hours_cells a_kinds_cells a_ranks_cells v_size v_counties v_hours v_kinds v_ranks) rfl rfl rfl rfl rfl rfl (ci := 6) rfl rfl (q0 := 5) rfl rfl rfl (Nat.le_of_ble_eq_true rfl) dX1_holding_22 (fun H locs hP hD hS => ?_)
      refine lv_iload_n hx hb dX1_holding_25 rfl (lv_at hl 1 rfl) ?_
      refine lv_icmp_ne (tgt := 56) hx hb dX1_holding_26 (by decide) (fun c11 => ?_) (fun c11 => ?_)
      · have hf := wk_itF hf c11
        refine lv_iconst (v := (0 : Int32)) hx hb dX1_holding_56 (by decide) ?_
        exact J57 _ _ _ _ _ _ hf _ _ _ hP hD hS (lv_sub hl [0, 1, 2, 3, 4, 5] rfl)
      · have hf := wk_itT hf c11
        refine lv_aload_n hx hb dX1_holding_29 rfl (lv_at hl 0 rfl) ?_
        refine lv_iload hx hb dX1_holding_30 (lv_at hl 5 rfl) ?_
        refine lv_iload_n hx hb dX1_holding_32 rfl (lv_at hl 2 rfl) ?_
        obtain ⟨r12, hc12, hf⟩ := wk_b1E hf
        refine wk_callVi2 C hP hD hS (c_X1_isFor l D cB cI cJ N a_this a_kinds a_counties a_ranks a_values a_hours a_counties_cells v_size v_counties x5 x2 hc12) (cwV 2 hts gX1_holding_X1_isFor rfl rfl rfl hd_X1_isFor ⟨Nat.le_of_ble_eq_true rfl, Nat.le_of_ble_eq_true rfl⟩) hl.1 ⟨Nat.zero_le _, Nat.zero_le _⟩ [0, 1, 2] [3, 4, 5, 6, 7, 8] 9 (by decide +kernel) rfl (Wn := w_X1_holding cB cI cJ a_this a_kinds a_counties a_ranks a_values a_hours a_counties_cells a_hours_cells a_kinds_cells a_ranks_cells v_size v_counties v_hours v_kinds v_ranks) rfl rfl rfl rfl rfl rfl (ci := 1) rfl rfl (q0 := 0) rfl rfl rfl (Nat.le_of_ble_eq_true rfl) dX1_holding_33 (fun H locs hP hD hS => ?_)
        refine lv_if_eq (tgt := 56) hx hb dX1_holding_36 (by decide) (fun c13 => ?_) (fun c13 => ?_)
        · have hf := wk_itT hf c13
          refine lv_iconst (v := (0 : Int32)) hx hb dX1_holding_56 (by decide) ?_
          exact J57 _ _ _ _ _ _ hf _ _ _ hP hD hS (lv_sub hl [0, 1, 2, 3, 4, 5] rfl)
        · have hf := wk_itF hf c13
          refine lv_aload_n hx hb dX1_holding_39 rfl (lv_at hl 0 rfl) ?_
          refine va_get (D := D) (ci := 1) (v := .ref a_hours) (C := RX1) (T := TX1) (N := 6) hx hb hts in_X1_holding_X1 hown hK hP 0 rfl rfl 4 (by decide) (hts (.fieldLink RX1 29 "HangingCards$Orders" "hours" "LHangingCards$Row;") (List.mem_of_getElem? (i := 3) rfl)) (fun _ h9 => h9) rfl dX1_holding_40 ?_
          refine lv_iload hx hb dX1_holding_43 (lv_at hl 5 rfl) ?_
          obtain ⟨r14, hc14, hf⟩ := wk_b1E hf
          refine wk_callVi2 C hP hD hS (c_X6_get l D cB cI cJ N a_hours a_hours_cells 40 v_hours x5 hc14) (cwV 1 hts gX1_holding_X6_get rfl rfl rfl hd_X6_get ⟨Nat.le_of_ble_eq_true rfl, Nat.le_of_ble_eq_true rfl⟩) hl.1 ⟨Nat.zero_le _, Nat.zero_le _⟩ [3, 4] [0, 1, 2, 5, 6, 7, 8] 9 (by decide +kernel) rfl (Wn := w_X1_holding cB cI cJ a_this a_kinds a_counties a_ranks a_values a_hours a_counties_cells a_hours_cells a_kinds_cells a_ranks_cells v_size v_counties v_hours v_kinds v_ranks) rfl rfl rfl rfl rfl rfl (ci := 6) rfl rfl (q0 := 3) rfl rfl rfl (Nat.le_of_ble_eq_true rfl) dX1_holding_45 (fun H locs hP hD hS => ?_)
          refine lv_iload_n hx hb dX1_holding_48 rfl (lv_at hl 3 rfl) ?_
          refine lv_icmp_gt (tgt := 56) hx hb dX1_holding_49 (by decide) (fun c15 => ?_) (fun c15 => ?_)
          · have hf := wk_itT hf c15
            refine lv_iconst (v := (0 : Int32)) hx hb dX1_holding_56 (by decide) ?_
            exact J57 _ _ _ _ _ _ hf _ _ _ hP hD hS (lv_sub hl [0, 1, 2, 3, 4, 5] rfl)
          · have hf := wk_itF hf c15
            refine lv_iconst (v := (1 : Int32)) hx hb dX1_holding_52 (by decide) ?_
            refine lv_goto (tgt := 57) hx hb dX1_holding_53 (by decide) ?_
            exact J57 _ _ _ _ _ _ hf _ _ _ hP hD hS (lv_sub hl [0, 1, 2, 3, 4, 5] rfl))
  unfold f_X1_holding at hf
  refine lv_bipush (v := (-4 : Int32)) hx hb dX1_holding_0 (by decide) ?_
  refine lv_istore (lv' := [(4, .int (-4 : Int32)), (0, .ref a_this), (1, .int x1), (2, .int x2), (3, .int x3)]) hx hb dX1_holding_2 hl (by decide) rfl (fun ls hl => ?_)
  refine lv_iconst (v := (0 : Int32)) hx hb dX1_holding_4 (by decide) ?_
  refine lv_istore (lv' := [(5, .int (0 : Int32)), (4, .int (-4 : Int32)), (0, .ref a_this), (1, .int x1), (2, .int x2), (3, .int x3)]) hx hb dX1_holding_5 hl (by decide) rfl (fun ls hl => ?_)
  exact L7 N _ _ _ _ _ hf _ _ _ hP hD hS (lv_sub hl [2, 3, 4, 5, 1, 0] rfl)
abbrev w_X1_without (cB cI cJ : ClassId) : va_W := []
theorem hd_X1_without : yX1_without.cls = RX1 ∧ yX1_without.cls ≠ "java/lang/invoke/MethodHandle" ∧ yX1_without.cls ≠ "java/lang/invoke/VarHandle" ∧ (parseMethodDescriptor yX1_without.desc).map (fun d => d.parameters.length) = some 1 := by decide +kernel
abbrev rm_X1_without : Room := { frames := 0, cells := 0, slots := 0, locals := 0 }
set_option maxHeartbeats 4000000 in
set_option maxRecDepth 100000 in
theorem c_X1_without (l : Launch) (D : va_G) (cB cI cJ : ClassId) (N : Nat) (x0 : Int32) {r : Int32} (hf : f_X1_without N x0 = some r) : MTi l yX1_without wsX1_without rm_X1_without D (wk_T cB cI cJ) [.int x0] (w_X1_without cB cI cJ) (w_X1_without cB cI cJ) r := by
  refine MTi.of (cc := cX1_without) (nL := 1) (rt := .int) (own := RX1) pn_X1 rfl rfl (Nat.le_of_ble_eq_true rfl) rfl ?_
  intro p e s m args below meth c A ls Q C hP hD hS hl hret
  obtain ⟨hx, hb, hml, hts, hown, hK, hN, hA, hlk⟩ := id C
  have hl : lv_has ls 1 [(0, .int x0)] := hl
  unfold f_X1_without at hf
  refine lv_iload_n hx hb dX1_without_0 rfl (lv_at hl 0 rfl) ?_
  by_cases c1 : x0 = (0 : Int32)
  · have hf := wk_itT hf c1
    refine lv_tableIn (off := 27) (tgt := 28) hx hb dX1_without_1 (by rw [c1]; decide) (by rw [c1]; decide) (by rw [c1]; rfl) (by decide) ?_
    refine lv_iconst (v := (5 : Int32)) hx hb dX1_without_28 (by decide) ?_
    exact hret _ _ _ _ _ _ dX1_without_29 (wk_rt hf (fun z => z)) rfl hP hD hS
  have hf := wk_itF hf c1
  by_cases c2 : x0 = (1 : Int32)
  · have hf := wk_itT hf c2
    refine lv_tableIn (off := 29) (tgt := 30) hx hb dX1_without_1 (by rw [c2]; decide) (by rw [c2]; decide) (by rw [c2]; rfl) (by decide) ?_
    refine lv_iconst (v := (0 : Int32)) hx hb dX1_without_30 (by decide) ?_
    exact hret _ _ _ _ _ _ dX1_without_31 (wk_rt hf (fun z => z)) rfl hP hD hS
  have hf := wk_itF hf c2
  by_cases c3 : x0 = (2 : Int32)
  · have hf := wk_itT hf c3
    refine lv_tableIn (off := 31) (tgt := 32) hx hb dX1_without_1 (by rw [c3]; decide) (by rw [c3]; decide) (by rw [c3]; rfl) (by decide) ?_
    refine lv_iconst (v := (4 : Int32)) hx hb dX1_without_32 (by decide) ?_
    exact hret _ _ _ _ _ _ dX1_without_33 (wk_rt hf (fun z => z)) rfl hP hD hS
  have hf := wk_itF hf c3
  have t1 := lv_neT (a := 0) c1 rfl
  have t2 := lv_neT (a := 1) c2 rfl
  have t3 := lv_neT (a := 2) c3 rfl
  refine lv_tableOut (tgt := 34) hx hb dX1_without_1 (by omega) (by decide) ?_
  refine lv_iconst (v := (1 : Int32)) hx hb dX1_without_34 (by decide) ?_
  exact hret _ _ _ _ _ _ dX1_without_35 (wk_rt hf (fun z => z)) rfl hP hD hS
abbrev w_X1_valueIn (cB cI cJ : ClassId) (a_this : Nat) (a_kinds : Nat) (a_counties : Nat) (a_ranks : Nat) (a_values : Nat) (a_hours : Nat) (a_counties_cells : Nat) (a_hours_cells : Nat) (a_kinds_cells : Nat) (a_ranks_cells : Nat) (a_values_cells : Nat) (v_size : Int32) (v_counties : Nat → Int32) (v_hours : Nat → Int32) (v_kinds : Nat → Int32) (v_ranks : Nat → Int32) (v_values : Nat → Int32) : va_W := [(a_this, .inr (1, [.ref a_kinds, .ref a_counties, .ref a_ranks, .ref a_values, .ref a_hours, .int v_size])), (a_counties, .inr (6, [.ref a_counties_cells])), (a_counties_cells, .inl (cI, 40, .inl v_counties)), (a_hours, .inr (6, [.ref a_hours_cells])), (a_hours_cells, .inl (cI, 40, .inl v_hours)), (a_kinds, .inr (6, [.ref a_kinds_cells])), (a_kinds_cells, .inl (cI, 40, .inl v_kinds)), (a_ranks, .inr (6, [.ref a_ranks_cells])), (a_ranks_cells, .inl (cI, 40, .inl v_ranks)), (a_values, .inr (6, [.ref a_values_cells])), (a_values_cells, .inl (cI, 40, .inl v_values))]
theorem hd_X1_valueIn : yX1_valueIn.cls = RX1 ∧ yX1_valueIn.cls ≠ "java/lang/invoke/MethodHandle" ∧ yX1_valueIn.cls ≠ "java/lang/invoke/VarHandle" ∧ (parseMethodDescriptor yX1_valueIn.desc).map (fun d => d.parameters.length) = some 3 := by decide +kernel
abbrev rm_X1_valueIn : Room := { frames := 3, cells := 0, slots := 0, locals := 69 }
theorem in_X1_valueIn_X1 : ∀ w ∈ wsX10, w ∈ wsX1_valueIn := fun w h => List.mem_cons_of_mem _ (List.mem_append_left _ (List.mem_append_right _ h))
set_option maxHeartbeats 4000000 in
set_option maxRecDepth 100000 in
theorem c_X1_valueIn (l : Launch) (D : va_G) (cB cI cJ : ClassId) (N : Nat) (a_this : Nat) (a_kinds : Nat) (a_counties : Nat) (a_ranks : Nat) (a_values : Nat) (a_hours : Nat) (a_counties_cells : Nat) (a_hours_cells : Nat) (a_kinds_cells : Nat) (a_ranks_cells : Nat) (a_values_cells : Nat) (v_size : Int32) (v_counties : Nat → Int32) (v_hours : Nat → Int32) (v_kinds : Nat → Int32) (v_ranks : Nat → Int32) (v_values : Nat → Int32) (x1 : Int32) (x2 : Int32) (x3 : Int32) {r : Int32} (hf : f_X1_valueIn N v_size v_counties v_hours v_kinds v_ranks v_values x1 x2 x3 = some r) : MTi l yX1_valueIn wsX1_valueIn rm_X1_valueIn D (wk_T cB cI cJ) [.ref a_this, .int x1, .int x2, .int x3] (w_X1_valueIn cB cI cJ a_this a_kinds a_counties a_ranks a_values a_hours a_counties_cells a_hours_cells a_kinds_cells a_ranks_cells a_values_cells v_size v_counties v_hours v_kinds v_ranks v_values) (w_X1_valueIn cB cI cJ a_this a_kinds a_counties a_ranks a_values a_hours a_counties_cells a_hours_cells a_kinds_cells a_ranks_cells a_values_cells v_size v_counties v_hours v_kinds v_ranks v_values) r := by
  refine MTi.of (cc := cX1_valueIn) (nL := 5) (rt := .int) (own := RX1) pn_X1 rfl rfl (Nat.le_of_ble_eq_true rfl) rfl ?_
  intro p e s m args below meth c A ls Q C hP hD hS hl hret
  obtain ⟨hx, hb, hml, hts, hown, hK, hN, hA, hlk⟩ := id C
  have hl : lv_has ls 5 [(0, .ref a_this), (1, .int x1), (2, .int x2), (3, .int x3)] := hl
  unfold f_X1_valueIn at hf
  refine lv_aload_n hx hb dX1_valueIn_0 rfl (lv_at hl 0 rfl) ?_
  refine lv_iload_n hx hb dX1_valueIn_1 rfl (lv_at hl 1 rfl) ?_
  refine lv_iload_n hx hb dX1_valueIn_2 rfl (lv_at hl 2 rfl) ?_
  refine lv_iload_n hx hb dX1_valueIn_3 rfl (lv_at hl 3 rfl) ?_
  obtain ⟨r1, hc1, hf⟩ := wk_b1E hf
  refine wk_callVi2 C hP hD hS (c_X1_holding l D cB cI cJ N a_this a_kinds a_counties a_ranks a_values a_hours a_counties_cells a_hours_cells a_kinds_cells a_ranks_cells v_size v_counties v_hours v_kinds v_ranks x1 x2 x3 hc1) (cwV 3 hts gX1_valueIn_X1_holding rfl rfl rfl hd_X1_holding ⟨Nat.le_of_ble_eq_true rfl, Nat.le_of_ble_eq_true rfl⟩) hl.1 ⟨Nat.zero_le _, Nat.zero_le _⟩ [0, 1, 2, 3, 4, 5, 6, 7, 8] [9, 10] 11 (by decide +kernel) rfl (Wn := w_X1_valueIn cB cI cJ a_this a_kinds a_counties a_ranks a_values a_hours a_counties_cells a_hours_cells a_kinds_cells a_ranks_cells a_values_cells v_size v_counties v_hours v_kinds v_ranks v_values) rfl rfl rfl rfl rfl rfl (ci := 1) rfl rfl (q0 := 0) rfl rfl rfl (Nat.le_of_ble_eq_true rfl) dX1_valueIn_4 (fun H locs hP hD hS => ?_)
  refine lv_istore (lv' := [(4, .int r1), (0, .ref a_this), (1, .int x1), (2, .int x2), (3, .int x3)]) hx hb dX1_valueIn_7 hl (by decide) rfl (fun ls hl => ?_)
  refine lv_iload hx hb dX1_valueIn_9 (lv_at hl 0 rfl) ?_
  refine lv_bipush (v := (-4 : Int32)) hx hb dX1_valueIn_11 (by decide) ?_
  refine lv_icmp_ne (tgt := 23) hx hb dX1_valueIn_13 (by decide) (fun c2 => ?_) (fun c2 => ?_)
  · have hf := wk_itF hf c2
    refine lv_aload_n hx hb dX1_valueIn_23 rfl (lv_at hl 1 rfl) ?_
    refine va_get (D := D) (ci := 1) (v := .ref a_values) (C := RX1) (T := TX1) (N := 6) hx hb hts in_X1_valueIn_X1 hown hK hP 0 rfl rfl 3 (by decide) (hts (.fieldLink RX1 26 "HangingCards$Orders" "values" "LHangingCards$Row;") (List.mem_of_getElem? (i := 1) rfl)) (fun _ h9 => h9) rfl dX1_valueIn_24 ?_
    refine lv_iload hx hb dX1_valueIn_27 (lv_at hl 0 rfl) ?_
    obtain ⟨r3, hc3, hf⟩ := wk_b1E hf
    refine wk_callVi2 C hP hD hS (c_X6_get l D cB cI cJ N a_values a_values_cells 40 v_values r1 hc3) (cwV 1 hts gX1_valueIn_X6_get rfl rfl rfl hd_X6_get ⟨Nat.le_of_ble_eq_true rfl, Nat.le_of_ble_eq_true rfl⟩) hl.1 ⟨Nat.zero_le _, Nat.zero_le _⟩ [9, 10] [0, 1, 2, 3, 4, 5, 6, 7, 8] 11 (by decide +kernel) rfl (Wn := w_X1_valueIn cB cI cJ a_this a_kinds a_counties a_ranks a_values a_hours a_counties_cells a_hours_cells a_kinds_cells a_ranks_cells a_values_cells v_size v_counties v_hours v_kinds v_ranks v_values) rfl rfl rfl rfl rfl rfl (ci := 6) rfl rfl (q0 := 9) rfl rfl rfl (Nat.le_of_ble_eq_true rfl) dX1_valueIn_29 (fun H locs hP hD hS => ?_)
    exact hret _ _ _ _ _ _ dX1_valueIn_32 (wk_rt hf (fun z => z)) rfl hP hD hS
  · have hf := wk_itT hf c2
    refine lv_iload_n hx hb dX1_valueIn_16 rfl (lv_at hl 2 rfl) ?_
    obtain ⟨r4, hc4, hf⟩ := wk_b1E hf
    refine wk_callSi2 C hP hD hS (c_X1_without l D cB cI cJ N x1 hc4) (va_cwS 1 hts gX1_valueIn_X1_without rfl rfl rfl hd_X1_without.2 ⟨Nat.le_of_ble_eq_true rfl, Nat.le_of_ble_eq_true rfl⟩) hl.1 ⟨Nat.zero_le _, Nat.zero_le _⟩ [] [0, 1, 2, 3, 4, 5, 6, 7, 8, 9, 10] 11 (by decide +kernel) rfl (Wn := w_X1_valueIn cB cI cJ a_this a_kinds a_counties a_ranks a_values a_hours a_counties_cells a_hours_cells a_kinds_cells a_ranks_cells a_values_cells v_size v_counties v_hours v_kinds v_ranks v_values) rfl rfl rfl rfl rfl rfl rfl rfl (Nat.le_of_ble_eq_true rfl) dX1_valueIn_17 (fun H locs hP hD hS => ?_)
    refine lv_goto (tgt := 32) hx hb dX1_valueIn_20 (by decide) ?_
    exact hret _ _ _ _ _ _ dX1_valueIn_32 (wk_rt hf (fun z => z)) rfl hP hD hS
abbrev w_X1_areUnlike (cB cI cJ : ClassId) (a_this : Nat) (a_kinds : Nat) (a_counties : Nat) (a_ranks : Nat) (a_values : Nat) (a_hours : Nat) (a_counties_cells : Nat) (a_hours_cells : Nat) (a_kinds_cells : Nat) (a_ranks_cells : Nat) (a_values_cells : Nat) (v_size : Int32) (v_counties : Nat → Int32) (v_hours : Nat → Int32) (v_kinds : Nat → Int32) (v_ranks : Nat → Int32) (v_values : Nat → Int32) : va_W := [(a_this, .inr (1, [.ref a_kinds, .ref a_counties, .ref a_ranks, .ref a_values, .ref a_hours, .int v_size])), (a_counties, .inr (6, [.ref a_counties_cells])), (a_counties_cells, .inl (cI, 40, .inl v_counties)), (a_hours, .inr (6, [.ref a_hours_cells])), (a_hours_cells, .inl (cI, 40, .inl v_hours)), (a_kinds, .inr (6, [.ref a_kinds_cells])), (a_kinds_cells, .inl (cI, 40, .inl v_kinds)), (a_ranks, .inr (6, [.ref a_ranks_cells])), (a_ranks_cells, .inl (cI, 40, .inl v_ranks)), (a_values, .inr (6, [.ref a_values_cells])), (a_values_cells, .inl (cI, 40, .inl v_values))]
theorem hd_X1_areUnlike : yX1_areUnlike.cls = RX1 ∧ yX1_areUnlike.cls ≠ "java/lang/invoke/MethodHandle" ∧ yX1_areUnlike.cls ≠ "java/lang/invoke/VarHandle" ∧ (parseMethodDescriptor yX1_areUnlike.desc).map (fun d => d.parameters.length) = some 2 := by decide +kernel
abbrev rm_X1_areUnlike : Room := { frames := 2, cells := 0, slots := 0, locals := 43 }
theorem in_X1_areUnlike_X1 : ∀ w ∈ wsX10, w ∈ wsX1_areUnlike := fun w h => List.mem_cons_of_mem _ (List.mem_append_left _ (List.mem_append_right _ h))
set_option maxHeartbeats 4000000 in
set_option maxRecDepth 100000 in
theorem c_X1_areUnlike (l : Launch) (D : va_G) (cB cI cJ : ClassId) (N : Nat) (a_this : Nat) (a_kinds : Nat) (a_counties : Nat) (a_ranks : Nat) (a_values : Nat) (a_hours : Nat) (a_counties_cells : Nat) (a_hours_cells : Nat) (a_kinds_cells : Nat) (a_ranks_cells : Nat) (a_values_cells : Nat) (v_size : Int32) (v_counties : Nat → Int32) (v_hours : Nat → Int32) (v_kinds : Nat → Int32) (v_ranks : Nat → Int32) (v_values : Nat → Int32) (x1 : Int32) (x2 : Int32) {r : Bool} (hf : f_X1_areUnlike N v_counties v_hours v_kinds v_ranks v_values x1 x2 = some r) : MTi l yX1_areUnlike wsX1_areUnlike rm_X1_areUnlike D (wk_T cB cI cJ) [.ref a_this, .int x1, .int x2] (w_X1_areUnlike cB cI cJ a_this a_kinds a_counties a_ranks a_values a_hours a_counties_cells a_hours_cells a_kinds_cells a_ranks_cells a_values_cells v_size v_counties v_hours v_kinds v_ranks v_values) (w_X1_areUnlike cB cI cJ a_this a_kinds a_counties a_ranks a_values a_hours a_counties_cells a_hours_cells a_kinds_cells a_ranks_cells a_values_cells v_size v_counties v_hours v_kinds v_ranks v_values) (wk_bI r) := by
  refine MTi.of (cc := cX1_areUnlike) (nL := 3) (rt := .boolean) (own := RX1) pn_X1 rfl rfl (Nat.le_of_ble_eq_true rfl) (wk_nz r) ?_
  intro p e s m args below meth c A ls Q C hP hD hS hl hret
  obtain ⟨hx, hb, hml, hts, hown, hK, hN, hA, hlk⟩ := id C
  have hl : lv_has ls 3 [(0, .ref a_this), (1, .int x1), (2, .int x2)] := hl
  unfold f_X1_areUnlike at hf
  refine lv_aload_n hx hb dX1_areUnlike_0 rfl (lv_at hl 0 rfl) ?_
  refine va_get (D := D) (ci := 1) (v := .ref a_kinds) (C := RX1) (T := TX1) (N := 6) hx hb hts in_X1_areUnlike_X1 hown hK hP 0 rfl rfl 0 (by decide) (hts (.fieldLink RX1 14 "HangingCards$Orders" "kinds" "LHangingCards$Row;") (List.mem_of_getElem? (i := 1) rfl)) (fun _ h9 => h9) rfl dX1_areUnlike_1 ?_
  refine lv_iload_n hx hb dX1_areUnlike_4 rfl (lv_at hl 1 rfl) ?_
  obtain ⟨r1, hc1, hf⟩ := wk_b1E hf
  refine wk_callVi2 C hP hD hS (c_X6_get l D cB cI cJ N a_kinds a_kinds_cells 40 v_kinds x1 hc1) (cwV 1 hts gX1_areUnlike_X6_get rfl rfl rfl hd_X6_get ⟨Nat.le_of_ble_eq_true rfl, Nat.le_of_ble_eq_true rfl⟩) hl.1 ⟨Nat.zero_le _, Nat.zero_le _⟩ [5, 6] [0, 1, 2, 3, 4, 7, 8, 9, 10] 11 (by decide +kernel) rfl (Wn := w_X1_areUnlike cB cI cJ a_this a_kinds a_counties a_ranks a_values a_hours a_counties_cells a_hours_cells a_kinds_cells a_ranks_cells a_values_cells v_size v_counties v_hours v_kinds v_ranks v_values) rfl rfl rfl rfl rfl rfl (ci := 6) rfl rfl (q0 := 5) rfl rfl rfl (Nat.le_of_ble_eq_true rfl) dX1_areUnlike_5 (fun H locs hP hD hS => ?_)
  refine lv_iconst (v := (3 : Int32)) hx hb dX1_areUnlike_8 (by decide) ?_
  refine lv_icmp_ne (tgt := 113) hx hb dX1_areUnlike_9 (by decide) (fun c2 => ?_) (fun c2 => ?_)
  · have hf := wk_itF hf c2
    refine lv_iconst (v := (0 : Int32)) hx hb dX1_areUnlike_113 (by decide) ?_
    exact hret _ _ _ _ _ _ dX1_areUnlike_114 (wk_rt hf (fun z => wk_bI z)) rfl hP hD hS
  · have hf := wk_itT hf c2
    refine lv_aload_n hx hb dX1_areUnlike_12 rfl (lv_at hl 0 rfl) ?_
    refine va_get (D := D) (ci := 1) (v := .ref a_kinds) (C := RX1) (T := TX1) (N := 6) hx hb hts in_X1_areUnlike_X1 hown hK hP 0 rfl rfl 0 (by decide) (hts (.fieldLink RX1 14 "HangingCards$Orders" "kinds" "LHangingCards$Row;") (List.mem_of_getElem? (i := 1) rfl)) (fun _ h9 => h9) rfl dX1_areUnlike_13 ?_
    refine lv_iload_n hx hb dX1_areUnlike_16 rfl (lv_at hl 2 rfl) ?_
    obtain ⟨r3, hc3, hf⟩ := wk_b1E hf
    refine wk_callVi2 C hP hD hS (c_X6_get l D cB cI cJ N a_kinds a_kinds_cells 40 v_kinds x2 hc3) (cwV 1 hts gX1_areUnlike_X6_get rfl rfl rfl hd_X6_get ⟨Nat.le_of_ble_eq_true rfl, Nat.le_of_ble_eq_true rfl⟩) hl.1 ⟨Nat.zero_le _, Nat.zero_le _⟩ [5, 6] [0, 1, 2, 3, 4, 7, 8, 9, 10] 11 (by decide +kernel) rfl (Wn := w_X1_areUnlike cB cI cJ a_this a_kinds a_counties a_ranks a_values a_hours a_counties_cells a_hours_cells a_kinds_cells a_ranks_cells a_values_cells v_size v_counties v_hours v_kinds v_ranks v_values) rfl rfl rfl rfl rfl rfl (ci := 6) rfl rfl (q0 := 5) rfl rfl rfl (Nat.le_of_ble_eq_true rfl) dX1_areUnlike_17 (fun H locs hP hD hS => ?_)
    refine lv_iconst (v := (3 : Int32)) hx hb dX1_areUnlike_20 (by decide) ?_
    refine lv_icmp_ne (tgt := 113) hx hb dX1_areUnlike_21 (by decide) (fun c4 => ?_) (fun c4 => ?_)
    · have hf := wk_itF hf c4
      refine lv_iconst (v := (0 : Int32)) hx hb dX1_areUnlike_113 (by decide) ?_
      exact hret _ _ _ _ _ _ dX1_areUnlike_114 (wk_rt hf (fun z => wk_bI z)) rfl hP hD hS
    · have hf := wk_itT hf c4
      refine lv_aload_n hx hb dX1_areUnlike_24 rfl (lv_at hl 0 rfl) ?_
      refine va_get (D := D) (ci := 1) (v := .ref a_ranks) (C := RX1) (T := TX1) (N := 6) hx hb hts in_X1_areUnlike_X1 hown hK hP 0 rfl rfl 2 (by decide) (hts (.fieldLink RX1 23 "HangingCards$Orders" "ranks" "LHangingCards$Row;") (List.mem_of_getElem? (i := 2) rfl)) (fun _ h9 => h9) rfl dX1_areUnlike_25 ?_
      refine lv_iload_n hx hb dX1_areUnlike_28 rfl (lv_at hl 1 rfl) ?_
      obtain ⟨r5, hc5, hf⟩ := wk_b1E hf
      refine wk_callVi2 C hP hD hS (c_X6_get l D cB cI cJ N a_ranks a_ranks_cells 40 v_ranks x1 hc5) (cwV 1 hts gX1_areUnlike_X6_get rfl rfl rfl hd_X6_get ⟨Nat.le_of_ble_eq_true rfl, Nat.le_of_ble_eq_true rfl⟩) hl.1 ⟨Nat.zero_le _, Nat.zero_le _⟩ [7, 8] [0, 1, 2, 3, 4, 5, 6, 9, 10] 11 (by decide +kernel) rfl (Wn := w_X1_areUnlike cB cI cJ a_this a_kinds a_counties a_ranks a_values a_hours a_counties_cells a_hours_cells a_kinds_cells a_ranks_cells a_values_cells v_size v_counties v_hours v_kinds v_ranks v_values) rfl rfl rfl rfl rfl rfl (ci := 6) rfl rfl (q0 := 7) rfl rfl rfl (Nat.le_of_ble_eq_true rfl) dX1_areUnlike_29 (fun H locs hP hD hS => ?_)
      refine lv_aload_n hx hb dX1_areUnlike_32 rfl (lv_at hl 0 rfl) ?_
      refine va_get (D := D) (ci := 1) (v := .ref a_ranks) (C := RX1) (T := TX1) (N := 6) hx hb hts in_X1_areUnlike_X1 hown hK hP 0 rfl rfl 2 (by decide) (hts (.fieldLink RX1 23 "HangingCards$Orders" "ranks" "LHangingCards$Row;") (List.mem_of_getElem? (i := 2) rfl)) (fun _ h9 => h9) rfl dX1_areUnlike_33 ?_
      refine lv_iload_n hx hb dX1_areUnlike_36 rfl (lv_at hl 2 rfl) ?_
      obtain ⟨r6, hc6, hf⟩ := wk_b1E hf
      refine wk_callVi2 C hP hD hS (c_X6_get l D cB cI cJ N a_ranks a_ranks_cells 40 v_ranks x2 hc6) (cwV 1 hts gX1_areUnlike_X6_get rfl rfl rfl hd_X6_get ⟨Nat.le_of_ble_eq_true rfl, Nat.le_of_ble_eq_true rfl⟩) hl.1 ⟨Nat.zero_le _, Nat.zero_le _⟩ [7, 8] [0, 1, 2, 3, 4, 5, 6, 9, 10] 11 (by decide +kernel) rfl (Wn := w_X1_areUnlike cB cI cJ a_this a_kinds a_counties a_ranks a_values a_hours a_counties_cells a_hours_cells a_kinds_cells a_ranks_cells a_values_cells v_size v_counties v_hours v_kinds v_ranks v_values) rfl rfl rfl rfl rfl rfl (ci := 6) rfl rfl (q0 := 7) rfl rfl rfl (Nat.le_of_ble_eq_true rfl) dX1_areUnlike_37 (fun H locs hP hD hS => ?_)
      refine lv_icmp_ne (tgt := 113) hx hb dX1_areUnlike_40 (by decide) (fun c7 => ?_) (fun c7 => ?_)
      · have hf := wk_itF hf c7
        refine lv_iconst (v := (0 : Int32)) hx hb dX1_areUnlike_113 (by decide) ?_
        exact hret _ _ _ _ _ _ dX1_areUnlike_114 (wk_rt hf (fun z => wk_bI z)) rfl hP hD hS
      · have hf := wk_itT hf c7
        refine lv_aload_n hx hb dX1_areUnlike_43 rfl (lv_at hl 0 rfl) ?_
        refine va_get (D := D) (ci := 1) (v := .ref a_hours) (C := RX1) (T := TX1) (N := 6) hx hb hts in_X1_areUnlike_X1 hown hK hP 0 rfl rfl 4 (by decide) (hts (.fieldLink RX1 29 "HangingCards$Orders" "hours" "LHangingCards$Row;") (List.mem_of_getElem? (i := 3) rfl)) (fun _ h9 => h9) rfl dX1_areUnlike_44 ?_
        refine lv_iload_n hx hb dX1_areUnlike_47 rfl (lv_at hl 1 rfl) ?_
        obtain ⟨r8, hc8, hf⟩ := wk_b1E hf
        refine wk_callVi2 C hP hD hS (c_X6_get l D cB cI cJ N a_hours a_hours_cells 40 v_hours x1 hc8) (cwV 1 hts gX1_areUnlike_X6_get rfl rfl rfl hd_X6_get ⟨Nat.le_of_ble_eq_true rfl, Nat.le_of_ble_eq_true rfl⟩) hl.1 ⟨Nat.zero_le _, Nat.zero_le _⟩ [3, 4] [0, 1, 2, 5, 6, 7, 8, 9, 10] 11 (by decide +kernel) rfl (Wn := w_X1_areUnlike cB cI cJ a_this a_kinds a_counties a_ranks a_values a_hours a_counties_cells a_hours_cells a_kinds_cells a_ranks_cells a_values_cells v_size v_counties v_hours v_kinds v_ranks v_values) rfl rfl rfl rfl rfl rfl (ci := 6) rfl rfl (q0 := 3) rfl rfl rfl (Nat.le_of_ble_eq_true rfl) dX1_areUnlike_48 (fun H locs hP hD hS => ?_)
        refine lv_aload_n hx hb dX1_areUnlike_51 rfl (lv_at hl 0 rfl) ?_
        refine va_get (D := D) (ci := 1) (v := .ref a_hours) (C := RX1) (T := TX1) (N := 6) hx hb hts in_X1_areUnlike_X1 hown hK hP 0 rfl rfl 4 (by decide) (hts (.fieldLink RX1 29 "HangingCards$Orders" "hours" "LHangingCards$Row;") (List.mem_of_getElem? (i := 3) rfl)) (fun _ h9 => h9) rfl dX1_areUnlike_52 ?_
        refine lv_iload_n hx hb dX1_areUnlike_55 rfl (lv_at hl 2 rfl) ?_
        obtain ⟨r9, hc9, hf⟩ := wk_b1E hf
        refine wk_callVi2 C hP hD hS (c_X6_get l D cB cI cJ N a_hours a_hours_cells 40 v_hours x2 hc9) (cwV 1 hts gX1_areUnlike_X6_get rfl rfl rfl hd_X6_get ⟨Nat.le_of_ble_eq_true rfl, Nat.le_of_ble_eq_true rfl⟩) hl.1 ⟨Nat.zero_le _, Nat.zero_le _⟩ [3, 4] [0, 1, 2, 5, 6, 7, 8, 9, 10] 11 (by decide +kernel) rfl (Wn := w_X1_areUnlike cB cI cJ a_this a_kinds a_counties a_ranks a_values a_hours a_counties_cells a_hours_cells a_kinds_cells a_ranks_cells a_values_cells v_size v_counties v_hours v_kinds v_ranks v_values) rfl rfl rfl rfl rfl rfl (ci := 6) rfl rfl (q0 := 3) rfl rfl rfl (Nat.le_of_ble_eq_true rfl) dX1_areUnlike_56 (fun H locs hP hD hS => ?_)
        refine lv_icmp_ne (tgt := 113) hx hb dX1_areUnlike_59 (by decide) (fun c10 => ?_) (fun c10 => ?_)
        · have hf := wk_itF hf c10
          refine lv_iconst (v := (0 : Int32)) hx hb dX1_areUnlike_113 (by decide) ?_
          exact hret _ _ _ _ _ _ dX1_areUnlike_114 (wk_rt hf (fun z => wk_bI z)) rfl hP hD hS
        · have hf := wk_itT hf c10
          refine lv_aload_n hx hb dX1_areUnlike_62 rfl (lv_at hl 0 rfl) ?_
          refine va_get (D := D) (ci := 1) (v := .ref a_values) (C := RX1) (T := TX1) (N := 6) hx hb hts in_X1_areUnlike_X1 hown hK hP 0 rfl rfl 3 (by decide) (hts (.fieldLink RX1 26 "HangingCards$Orders" "values" "LHangingCards$Row;") (List.mem_of_getElem? (i := 4) rfl)) (fun _ h9 => h9) rfl dX1_areUnlike_63 ?_
          refine lv_iload_n hx hb dX1_areUnlike_66 rfl (lv_at hl 1 rfl) ?_
          obtain ⟨r11, hc11, hf⟩ := wk_b1E hf
          refine wk_callVi2 C hP hD hS (c_X6_get l D cB cI cJ N a_values a_values_cells 40 v_values x1 hc11) (cwV 1 hts gX1_areUnlike_X6_get rfl rfl rfl hd_X6_get ⟨Nat.le_of_ble_eq_true rfl, Nat.le_of_ble_eq_true rfl⟩) hl.1 ⟨Nat.zero_le _, Nat.zero_le _⟩ [9, 10] [0, 1, 2, 3, 4, 5, 6, 7, 8] 11 (by decide +kernel) rfl (Wn := w_X1_areUnlike cB cI cJ a_this a_kinds a_counties a_ranks a_values a_hours a_counties_cells a_hours_cells a_kinds_cells a_ranks_cells a_values_cells v_size v_counties v_hours v_kinds v_ranks v_values) rfl rfl rfl rfl rfl rfl (ci := 6) rfl rfl (q0 := 9) rfl rfl rfl (Nat.le_of_ble_eq_true rfl) dX1_areUnlike_67 (fun H locs hP hD hS => ?_)
          refine lv_aload_n hx hb dX1_areUnlike_70 rfl (lv_at hl 0 rfl) ?_
          refine va_get (D := D) (ci := 1) (v := .ref a_values) (C := RX1) (T := TX1) (N := 6) hx hb hts in_X1_areUnlike_X1 hown hK hP 0 rfl rfl 3 (by decide) (hts (.fieldLink RX1 26 "HangingCards$Orders" "values" "LHangingCards$Row;") (List.mem_of_getElem? (i := 4) rfl)) (fun _ h9 => h9) rfl dX1_areUnlike_71 ?_
          refine lv_iload_n hx hb dX1_areUnlike_74 rfl (lv_at hl 2 rfl) ?_
          obtain ⟨r12, hc12, hf⟩ := wk_b1E hf
          refine wk_callVi2 C hP hD hS (c_X6_get l D cB cI cJ N a_values a_values_cells 40 v_values x2 hc12) (cwV 1 hts gX1_areUnlike_X6_get rfl rfl rfl hd_X6_get ⟨Nat.le_of_ble_eq_true rfl, Nat.le_of_ble_eq_true rfl⟩) hl.1 ⟨Nat.zero_le _, Nat.zero_le _⟩ [9, 10] [0, 1, 2, 3, 4, 5, 6, 7, 8] 11 (by decide +kernel) rfl (Wn := w_X1_areUnlike cB cI cJ a_this a_kinds a_counties a_ranks a_values a_hours a_counties_cells a_hours_cells a_kinds_cells a_ranks_cells a_values_cells v_size v_counties v_hours v_kinds v_ranks v_values) rfl rfl rfl rfl rfl rfl (ci := 6) rfl rfl (q0 := 9) rfl rfl rfl (Nat.le_of_ble_eq_true rfl) dX1_areUnlike_75 (fun H locs hP hD hS => ?_)
          refine lv_icmp_eq (tgt := 113) hx hb dX1_areUnlike_78 (by decide) (fun c13 => ?_) (fun c13 => ?_)
          · have hf := wk_itT hf c13
            refine lv_iconst (v := (0 : Int32)) hx hb dX1_areUnlike_113 (by decide) ?_
            exact hret _ _ _ _ _ _ dX1_areUnlike_114 (wk_rt hf (fun z => wk_bI z)) rfl hP hD hS
          · have hf := wk_itF hf c13
            refine lv_aload_n hx hb dX1_areUnlike_81 rfl (lv_at hl 0 rfl) ?_
            refine lv_iload_n hx hb dX1_areUnlike_82 rfl (lv_at hl 1 rfl) ?_
            refine lv_aload_n hx hb dX1_areUnlike_83 rfl (lv_at hl 0 rfl) ?_
            refine va_get (D := D) (ci := 1) (v := .ref a_counties) (C := RX1) (T := TX1) (N := 6) hx hb hts in_X1_areUnlike_X1 hown hK hP 0 rfl rfl 1 (by decide) (hts (.fieldLink RX1 20 "HangingCards$Orders" "counties" "LHangingCards$Row;") (List.mem_of_getElem? (i := 5) rfl)) (fun _ h9 => h9) rfl dX1_areUnlike_84 ?_
            refine lv_iload_n hx hb dX1_areUnlike_87 rfl (lv_at hl 2 rfl) ?_
            obtain ⟨r14, hc14, hf⟩ := wk_b1E hf
            refine wk_callVi2 C hP hD hS (c_X6_get l D cB cI cJ N a_counties a_counties_cells 40 v_counties x2 hc14) (cwV 1 hts gX1_areUnlike_X6_get rfl rfl rfl hd_X6_get ⟨Nat.le_of_ble_eq_true rfl, Nat.le_of_ble_eq_true rfl⟩) hl.1 ⟨Nat.zero_le _, Nat.zero_le _⟩ [1, 2] [0, 3, 4, 5, 6, 7, 8, 9, 10] 11 (by decide +kernel) rfl (Wn := w_X1_areUnlike cB cI cJ a_this a_kinds a_counties a_ranks a_values a_hours a_counties_cells a_hours_cells a_kinds_cells a_ranks_cells a_values_cells v_size v_counties v_hours v_kinds v_ranks v_values) rfl rfl rfl rfl rfl rfl (ci := 6) rfl rfl (q0 := 1) rfl rfl rfl (Nat.le_of_ble_eq_true rfl) dX1_areUnlike_88 (fun H locs hP hD hS => ?_)
            obtain ⟨r15, hc15, hf⟩ := wk_b1E hf
            refine wk_callVi2 C hP hD hS (c_X1_isFor l D cB cI cJ N a_this a_kinds a_counties a_ranks a_values a_hours a_counties_cells v_size v_counties x1 r14 hc15) (cwV 2 hts gX1_areUnlike_X1_isFor rfl rfl rfl hd_X1_isFor ⟨Nat.le_of_ble_eq_true rfl, Nat.le_of_ble_eq_true rfl⟩) hl.1 ⟨Nat.zero_le _, Nat.zero_le _⟩ [0, 1, 2] [3, 4, 5, 6, 7, 8, 9, 10] 11 (by decide +kernel) rfl (Wn := w_X1_areUnlike cB cI cJ a_this a_kinds a_counties a_ranks a_values a_hours a_counties_cells a_hours_cells a_kinds_cells a_ranks_cells a_values_cells v_size v_counties v_hours v_kinds v_ranks v_values) rfl rfl rfl rfl rfl rfl (ci := 1) rfl rfl (q0 := 0) rfl rfl rfl (Nat.le_of_ble_eq_true rfl) dX1_areUnlike_91 (fun H locs hP hD hS => ?_)
            refine lv_if_ne (tgt := 109) hx hb dX1_areUnlike_94 (by decide) (fun c16 => ?_) (fun c16 => ?_)
            · have hf := wk_itF hf c16
              refine lv_iconst (v := (1 : Int32)) hx hb dX1_areUnlike_109 (by decide) ?_
              refine lv_goto (tgt := 114) hx hb dX1_areUnlike_110 (by decide) ?_
              exact hret _ _ _ _ _ _ dX1_areUnlike_114 (wk_rt hf (fun z => wk_bI z)) rfl hP hD hS
            · have hf := wk_itT hf c16
              refine lv_aload_n hx hb dX1_areUnlike_97 rfl (lv_at hl 0 rfl) ?_
              refine va_get (D := D) (ci := 1) (v := .ref a_counties) (C := RX1) (T := TX1) (N := 6) hx hb hts in_X1_areUnlike_X1 hown hK hP 0 rfl rfl 1 (by decide) (hts (.fieldLink RX1 20 "HangingCards$Orders" "counties" "LHangingCards$Row;") (List.mem_of_getElem? (i := 5) rfl)) (fun _ h9 => h9) rfl dX1_areUnlike_98 ?_
              refine lv_iload_n hx hb dX1_areUnlike_101 rfl (lv_at hl 2 rfl) ?_
              obtain ⟨r17, hc17, hf⟩ := wk_b1E hf
              refine wk_callVi2 C hP hD hS (c_X6_get l D cB cI cJ N a_counties a_counties_cells 40 v_counties x2 hc17) (cwV 1 hts gX1_areUnlike_X6_get rfl rfl rfl hd_X6_get ⟨Nat.le_of_ble_eq_true rfl, Nat.le_of_ble_eq_true rfl⟩) hl.1 ⟨Nat.zero_le _, Nat.zero_le _⟩ [1, 2] [0, 3, 4, 5, 6, 7, 8, 9, 10] 11 (by decide +kernel) rfl (Wn := w_X1_areUnlike cB cI cJ a_this a_kinds a_counties a_ranks a_values a_hours a_counties_cells a_hours_cells a_kinds_cells a_ranks_cells a_values_cells v_size v_counties v_hours v_kinds v_ranks v_values) rfl rfl rfl rfl rfl rfl (ci := 6) rfl rfl (q0 := 1) rfl rfl rfl (Nat.le_of_ble_eq_true rfl) dX1_areUnlike_102 (fun H locs hP hD hS => ?_)
              refine lv_iconst (v := (5 : Int32)) hx hb dX1_areUnlike_105 (by decide) ?_
              refine lv_icmp_ne (tgt := 113) hx hb dX1_areUnlike_106 (by decide) (fun c18 => ?_) (fun c18 => ?_)
              · have hf := wk_itF hf c18
                refine lv_iconst (v := (0 : Int32)) hx hb dX1_areUnlike_113 (by decide) ?_
                exact hret _ _ _ _ _ _ dX1_areUnlike_114 (wk_rt hf (fun z => wk_bI z)) rfl hP hD hS
              · have hf := wk_itT hf c18
                refine lv_iconst (v := (1 : Int32)) hx hb dX1_areUnlike_109 (by decide) ?_
                refine lv_goto (tgt := 114) hx hb dX1_areUnlike_110 (by decide) ?_
                exact hret _ _ _ _ _ _ dX1_areUnlike_114 (wk_rt hf (fun z => wk_bI z)) rfl hP hD hS
abbrev w_X1_firstClash (cB cI cJ : ClassId) (a_this : Nat) (a_kinds : Nat) (a_counties : Nat) (a_ranks : Nat) (a_values : Nat) (a_hours : Nat) (a_counties_cells : Nat) (a_hours_cells : Nat) (a_kinds_cells : Nat) (a_ranks_cells : Nat) (a_values_cells : Nat) (v_size : Int32) (v_counties : Nat → Int32) (v_hours : Nat → Int32) (v_kinds : Nat → Int32) (v_ranks : Nat → Int32) (v_values : Nat → Int32) : va_W := [(a_this, .inr (1, [.ref a_kinds, .ref a_counties, .ref a_ranks, .ref a_values, .ref a_hours, .int v_size])), (a_counties, .inr (6, [.ref a_counties_cells])), (a_counties_cells, .inl (cI, 40, .inl v_counties)), (a_hours, .inr (6, [.ref a_hours_cells])), (a_hours_cells, .inl (cI, 40, .inl v_hours)), (a_kinds, .inr (6, [.ref a_kinds_cells])), (a_kinds_cells, .inl (cI, 40, .inl v_kinds)), (a_ranks, .inr (6, [.ref a_ranks_cells])), (a_ranks_cells, .inl (cI, 40, .inl v_ranks)), (a_values, .inr (6, [.ref a_values_cells])), (a_values_cells, .inl (cI, 40, .inl v_values))]
theorem hd_X1_firstClash : yX1_firstClash.cls = RX1 ∧ yX1_firstClash.cls ≠ "java/lang/invoke/MethodHandle" ∧ yX1_firstClash.cls ≠ "java/lang/invoke/VarHandle" ∧ (parseMethodDescriptor yX1_firstClash.desc).map (fun d => d.parameters.length) = some 0 := by decide +kernel
abbrev rm_X1_firstClash : Room := { frames := 3, cells := 0, slots := 0, locals := 65 }
theorem in_X1_firstClash_X1 : ∀ w ∈ wsX10, w ∈ wsX1_firstClash := fun w h => List.mem_cons_of_mem _ (List.mem_append_left _ (List.mem_append_right _ h))
set_option maxHeartbeats 4000000 in
set_option maxRecDepth 100000 in
theorem c_X1_firstClash (l : Launch) (D : va_G) (cB cI cJ : ClassId) (N : Nat) (a_this : Nat) (a_kinds : Nat) (a_counties : Nat) (a_ranks : Nat) (a_values : Nat) (a_hours : Nat) (a_counties_cells : Nat) (a_hours_cells : Nat) (a_kinds_cells : Nat) (a_ranks_cells : Nat) (a_values_cells : Nat) (v_size : Int32) (v_counties : Nat → Int32) (v_hours : Nat → Int32) (v_kinds : Nat → Int32) (v_ranks : Nat → Int32) (v_values : Nat → Int32) {r : Int32} (hf : f_X1_firstClash N v_size v_counties v_hours v_kinds v_ranks v_values = some r) : MTi l yX1_firstClash wsX1_firstClash rm_X1_firstClash D (wk_T cB cI cJ) [.ref a_this] (w_X1_firstClash cB cI cJ a_this a_kinds a_counties a_ranks a_values a_hours a_counties_cells a_hours_cells a_kinds_cells a_ranks_cells a_values_cells v_size v_counties v_hours v_kinds v_ranks v_values) (w_X1_firstClash cB cI cJ a_this a_kinds a_counties a_ranks a_values a_hours a_counties_cells a_hours_cells a_kinds_cells a_ranks_cells a_values_cells v_size v_counties v_hours v_kinds v_ranks v_values) r := by
  refine MTi.of (cc := cX1_firstClash) (nL := 3) (rt := .int) (own := RX1) pn_X1 rfl rfl (Nat.le_of_ble_eq_true rfl) rfl ?_
  intro p e s m args below meth c A ls Q C hP hD hS hl hret
  obtain ⟨hx, hb, hml, hts, hown, hK, hN, hA, hlk⟩ := id C
  have hl : lv_has ls 3 [(0, .ref a_this)] := hl
  have L2 := wk_loopI (F := (fun k2 : Int32 → Option Int32 => B_X1_firstClash_2 N v_size v_counties v_hours v_kinds v_ranks v_values k2)) (bot := fun _ => none) (fun k2 : Int32 → Option Int32 => ∀ (x1 : Int32), k2 x1 = some r → ∀ (H : Heap) (locs : List Loc) (ls : Array Slot), va_P D vwCl (w_X1_firstClash cB cI cJ a_this a_kinds a_counties a_ranks a_values a_hours a_counties_cells a_hours_cells a_kinds_cells a_ranks_cells a_values_cells v_size v_counties v_hours v_kinds v_ranks v_values) H → va_D A (w_X1_firstClash cB cI cJ a_this a_kinds a_counties a_ranks a_values a_hours a_counties_cells a_hours_cells a_kinds_cells a_ranks_cells a_values_cells v_size v_counties v_hours v_kinds v_ranks v_values) → va_S A s.heap H locs → lv_has ls 3 [(0, .ref a_this), (1, .int x1)] → W p l e rm_X1_firstClash s m args below meth c H locs 0 0 Q (F0 m 2 ls [])) (by intro x1 hf; exact wk_no hf) (by
    intro k2 ih2
    have L14 := wk_loopI (F := (fun k14 : Int32 → Int32 → Option Int32 => B_X1_firstClash_14 N v_size v_counties v_hours v_kinds v_ranks v_values k2 k14)) (bot := fun _ _ => none) (fun k14 : Int32 → Int32 → Option Int32 => ∀ (x1 : Int32) (x2 : Int32), k14 x1 x2 = some r → ∀ (H : Heap) (locs : List Loc) (ls : Array Slot), va_P D vwCl (w_X1_firstClash cB cI cJ a_this a_kinds a_counties a_ranks a_values a_hours a_counties_cells a_hours_cells a_kinds_cells a_ranks_cells a_values_cells v_size v_counties v_hours v_kinds v_ranks v_values) H → va_D A (w_X1_firstClash cB cI cJ a_this a_kinds a_counties a_ranks a_values a_hours a_counties_cells a_hours_cells a_kinds_cells a_ranks_cells a_values_cells v_size v_counties v_hours v_kinds v_ranks v_values) → va_S A s.heap H locs → lv_has ls 3 [(0, .ref a_this), (1, .int x1), (2, .int x2)] → W p l e rm_X1_firstClash s m args below meth c H locs 0 0 Q (F0 m 14 ls [])) (by intro x1 x2 hf; exact wk_no hf) (by
      intro k14 ih14
      intro x1 x2 hf H locs ls hP hD hS hl
      have hf : B_X1_firstClash_14 N v_size v_counties v_hours v_kinds v_ranks v_values k2 k14 x1 x2 = some r := hf
      unfold B_X1_firstClash_14 at hf
      refine lv_iload_n hx hb dX1_firstClash_14 rfl (lv_at hl 2 rfl) ?_
      refine lv_aload_n hx hb dX1_firstClash_15 rfl (lv_at hl 0 rfl) ?_
      refine va_get (D := D) (ci := 1) (v := .int v_size) (C := RX1) (T := TX1) (N := 6) hx hb hts in_X1_firstClash_X1 hown hK hP 0 rfl rfl 5 (by decide) (hts (.fieldLink RX1 32 "HangingCards$Orders" "size" "I") (List.mem_of_getElem? (i := 1) rfl)) (fun _ h9 => h9) rfl dX1_firstClash_16 ?_
      refine lv_icmp_ge (tgt := 44) hx hb dX1_firstClash_19 (by decide) (fun c1 => ?_) (fun c1 => ?_)
      · have hf := wk_itT hf c1
        obtain ⟨y2, ey2⟩ : ∃ y : Int32, y = x1 + (1 : Int32) := ⟨_, rfl⟩
        have hf := wk_nmE hf ey2
        refine lv_iinc (v := y2) (lv' := [(1, .int y2), (0, .ref a_this), (2, .int x2)]) hx hb dX1_firstClash_44 hl (k := 1) rfl (by rw [ey2]; rfl) (by decide) rfl (fun ls hl => ?_)
        refine lv_goto (tgt := 2) hx hb dX1_firstClash_47 (by decide) ?_
        exact ih2 _ hf _ _ _ hP hD hS (lv_sub hl [1, 0] rfl)
      · have hf := wk_itF hf c1
        refine lv_aload_n hx hb dX1_firstClash_22 rfl (lv_at hl 0 rfl) ?_
        refine lv_iload_n hx hb dX1_firstClash_23 rfl (lv_at hl 1 rfl) ?_
        refine lv_iload_n hx hb dX1_firstClash_24 rfl (lv_at hl 2 rfl) ?_
        obtain ⟨r3, hc3, hf⟩ := wk_b1E hf
        refine wk_callVi2 C hP hD hS (c_X1_areUnlike l D cB cI cJ N a_this a_kinds a_counties a_ranks a_values a_hours a_counties_cells a_hours_cells a_kinds_cells a_ranks_cells a_values_cells v_size v_counties v_hours v_kinds v_ranks v_values x1 x2 hc3) (cwV 2 hts gX1_firstClash_X1_areUnlike rfl rfl rfl hd_X1_areUnlike ⟨Nat.le_of_ble_eq_true rfl, Nat.le_of_ble_eq_true rfl⟩) hl.1 ⟨Nat.zero_le _, Nat.zero_le _⟩ [0, 1, 2, 3, 4, 5, 6, 7, 8, 9, 10] [] 11 (by decide +kernel) rfl (Wn := w_X1_firstClash cB cI cJ a_this a_kinds a_counties a_ranks a_values a_hours a_counties_cells a_hours_cells a_kinds_cells a_ranks_cells a_values_cells v_size v_counties v_hours v_kinds v_ranks v_values) rfl rfl rfl rfl rfl rfl (ci := 1) rfl rfl (q0 := 0) rfl rfl rfl (Nat.le_of_ble_eq_true rfl) dX1_firstClash_25 (fun H locs hP hD hS => ?_)
        refine lv_if_eq (tgt := 38) hx hb dX1_firstClash_28 (by decide) (fun c4 => ?_) (fun c4 => ?_)
        · have hf := wk_itT hf c4
          obtain ⟨y5, ey5⟩ : ∃ y : Int32, y = x2 + (1 : Int32) := ⟨_, rfl⟩
          have hf := wk_nmE hf ey5
          refine lv_iinc (v := y5) (lv' := [(2, .int y5), (0, .ref a_this), (1, .int x1)]) hx hb dX1_firstClash_38 hl (k := 2) rfl (by rw [ey5]; rfl) (by decide) rfl (fun ls hl => ?_)
          refine lv_goto (tgt := 14) hx hb dX1_firstClash_41 (by decide) ?_
          exact ih14 _ _ hf _ _ _ hP hD hS (lv_sub hl [1, 2, 0] rfl)
        · have hf := wk_itF hf c4
          refine lv_bipush (v := (100 : Int32)) hx hb dX1_firstClash_31 (by decide) ?_
          refine lv_iload_n hx hb dX1_firstClash_33 rfl (lv_at hl 1 rfl) ?_
          refine lv_imul hx hb dX1_firstClash_34 ?_
          refine lv_iload_n hx hb dX1_firstClash_35 rfl (lv_at hl 2 rfl) ?_
          refine lv_iadd hx hb dX1_firstClash_36 ?_
          exact hret _ _ _ _ _ _ dX1_firstClash_37 (wk_rt hf (fun z => z)) rfl hP hD hS)
    intro x1 hf H locs ls hP hD hS hl
    have hf : B_X1_firstClash_2 N v_size v_counties v_hours v_kinds v_ranks v_values k2 x1 = some r := hf
    unfold B_X1_firstClash_2 at hf
    refine lv_iload_n hx hb dX1_firstClash_2 rfl (lv_at hl 1 rfl) ?_
    refine lv_aload_n hx hb dX1_firstClash_3 rfl (lv_at hl 0 rfl) ?_
    refine va_get (D := D) (ci := 1) (v := .int v_size) (C := RX1) (T := TX1) (N := 6) hx hb hts in_X1_firstClash_X1 hown hK hP 0 rfl rfl 5 (by decide) (hts (.fieldLink RX1 32 "HangingCards$Orders" "size" "I") (List.mem_of_getElem? (i := 1) rfl)) (fun _ h9 => h9) rfl dX1_firstClash_4 ?_
    refine lv_icmp_ge (tgt := 50) hx hb dX1_firstClash_7 (by decide) (fun c6 => ?_) (fun c6 => ?_)
    · have hf := wk_itT hf c6
      refine lv_bipush (v := (-4 : Int32)) hx hb dX1_firstClash_50 (by decide) ?_
      exact hret _ _ _ _ _ _ dX1_firstClash_52 (wk_rt hf (fun z => z)) rfl hP hD hS
    · have hf := wk_itF hf c6
      refine lv_iload_n hx hb dX1_firstClash_10 rfl (lv_at hl 1 rfl) ?_
      refine lv_iconst (v := (1 : Int32)) hx hb dX1_firstClash_11 (by decide) ?_
      refine lv_iadd hx hb dX1_firstClash_12 ?_
      refine lv_topi (fun y7 ey7 => ?_)
      have hf := wk_nmE hf ey7
      refine lv_istore_n (lv' := [(2, .int y7), (0, .ref a_this), (1, .int x1)]) hx hb dX1_firstClash_13 rfl hl (by decide) rfl (fun ls hl => ?_)
      exact L14 N _ _ hf _ _ _ hP hD hS (lv_sub hl [1, 2, 0] rfl))
  unfold f_X1_firstClash at hf
  refine lv_iconst (v := (0 : Int32)) hx hb dX1_firstClash_0 (by decide) ?_
  refine lv_istore_n (lv' := [(1, .int (0 : Int32)), (0, .ref a_this)]) hx hb dX1_firstClash_1 rfl hl (by decide) rfl (fun ls hl => ?_)
  exact L2 N _ hf _ _ _ hP hD hS (lv_sub hl [1, 0] rfl)
abbrev w_X1_closedIn (cB cI cJ : ClassId) (a_this : Nat) (a_kinds : Nat) (a_counties : Nat) (a_ranks : Nat) (a_values : Nat) (a_hours : Nat) (a_counties_cells : Nat) (a_hours_cells : Nat) (a_kinds_cells : Nat) (a_ranks_cells : Nat) (a_values_cells : Nat) (v_size : Int32) (v_counties : Nat → Int32) (v_hours : Nat → Int32) (v_kinds : Nat → Int32) (v_ranks : Nat → Int32) (v_values : Nat → Int32) : va_W := [(a_this, .inr (1, [.ref a_kinds, .ref a_counties, .ref a_ranks, .ref a_values, .ref a_hours, .int v_size])), (a_counties, .inr (6, [.ref a_counties_cells])), (a_counties_cells, .inl (cI, 40, .inl v_counties)), (a_hours, .inr (6, [.ref a_hours_cells])), (a_hours_cells, .inl (cI, 40, .inl v_hours)), (a_kinds, .inr (6, [.ref a_kinds_cells])), (a_kinds_cells, .inl (cI, 40, .inl v_kinds)), (a_ranks, .inr (6, [.ref a_ranks_cells])), (a_ranks_cells, .inl (cI, 40, .inl v_ranks)), (a_values, .inr (6, [.ref a_values_cells])), (a_values_cells, .inl (cI, 40, .inl v_values))]
theorem hd_X1_closedIn : yX1_closedIn.cls = RX1 ∧ yX1_closedIn.cls ≠ "java/lang/invoke/MethodHandle" ∧ yX1_closedIn.cls ≠ "java/lang/invoke/VarHandle" ∧ (parseMethodDescriptor yX1_closedIn.desc).map (fun d => d.parameters.length) = some 1 := by decide +kernel
abbrev rm_X1_closedIn : Room := { frames := 4, cells := 0, slots := 0, locals := 93 }
set_option maxHeartbeats 4000000 in
set_option maxRecDepth 100000 in
theorem c_X1_closedIn (l : Launch) (D : va_G) (cB cI cJ : ClassId) (N : Nat) (a_this : Nat) (a_kinds : Nat) (a_counties : Nat) (a_ranks : Nat) (a_values : Nat) (a_hours : Nat) (a_counties_cells : Nat) (a_hours_cells : Nat) (a_kinds_cells : Nat) (a_ranks_cells : Nat) (a_values_cells : Nat) (v_size : Int32) (v_counties : Nat → Int32) (v_hours : Nat → Int32) (v_kinds : Nat → Int32) (v_ranks : Nat → Int32) (v_values : Nat → Int32) (x1 : Int32) {r : Int32} (hf : f_X1_closedIn N v_size v_counties v_hours v_kinds v_ranks v_values x1 = some r) : MTi l yX1_closedIn wsX1_closedIn rm_X1_closedIn D (wk_T cB cI cJ) [.ref a_this, .int x1] (w_X1_closedIn cB cI cJ a_this a_kinds a_counties a_ranks a_values a_hours a_counties_cells a_hours_cells a_kinds_cells a_ranks_cells a_values_cells v_size v_counties v_hours v_kinds v_ranks v_values) (w_X1_closedIn cB cI cJ a_this a_kinds a_counties a_ranks a_values a_hours a_counties_cells a_hours_cells a_kinds_cells a_ranks_cells a_values_cells v_size v_counties v_hours v_kinds v_ranks v_values) r := by
  refine MTi.of (cc := cX1_closedIn) (nL := 4) (rt := .int) (own := RX1) pn_X1 rfl rfl (Nat.le_of_ble_eq_true rfl) rfl ?_
  intro p e s m args below meth c A ls Q C hP hD hS hl hret
  obtain ⟨hx, hb, hml, hts, hown, hK, hN, hA, hlk⟩ := id C
  have hl : lv_has ls 4 [(0, .ref a_this), (1, .int x1)] := hl
  have L4 := wk_loopI (F := (fun k4 : Int32 → Int32 → Int32 → Option Int32 => B_X1_closedIn_4 N v_size v_counties v_hours v_kinds v_ranks v_values k4)) (bot := fun _ _ _ => none) (fun k4 : Int32 → Int32 → Int32 → Option Int32 => ∀ (x1 : Int32) (x2 : Int32) (x3 : Int32), k4 x1 x2 x3 = some r → ∀ (H : Heap) (locs : List Loc) (ls : Array Slot), va_P D vwCl (w_X1_closedIn cB cI cJ a_this a_kinds a_counties a_ranks a_values a_hours a_counties_cells a_hours_cells a_kinds_cells a_ranks_cells a_values_cells v_size v_counties v_hours v_kinds v_ranks v_values) H → va_D A (w_X1_closedIn cB cI cJ a_this a_kinds a_counties a_ranks a_values a_hours a_counties_cells a_hours_cells a_kinds_cells a_ranks_cells a_values_cells v_size v_counties v_hours v_kinds v_ranks v_values) → va_S A s.heap H locs → lv_has ls 4 [(0, .ref a_this), (1, .int x1), (2, .int x2), (3, .int x3)] → W p l e rm_X1_closedIn s m args below meth c H locs 0 0 Q (F0 m 4 ls [])) (by intro x1 x2 x3 hf; exact wk_no hf) (by
    intro k4 ih4
    intro x1 x2 x3 hf H locs ls hP hD hS hl
    have hf : B_X1_closedIn_4 N v_size v_counties v_hours v_kinds v_ranks v_values k4 x1 x2 x3 = some r := hf
    unfold B_X1_closedIn_4 at hf
    refine lv_iload_n hx hb dX1_closedIn_4 rfl (lv_at hl 3 rfl) ?_
    refine lv_iconst (v := (5 : Int32)) hx hb dX1_closedIn_5 (by decide) ?_
    refine lv_icmp_ge (tgt := 31) hx hb dX1_closedIn_6 (by decide) (fun c1 => ?_) (fun c1 => ?_)
    · have hf := wk_itT hf c1
      refine lv_iload_n hx hb dX1_closedIn_31 rfl (lv_at hl 2 rfl) ?_
      exact hret _ _ _ _ _ _ dX1_closedIn_32 (wk_rt hf (fun z => z)) rfl hP hD hS
    · have hf := wk_itF hf c1
      refine lv_aload_n hx hb dX1_closedIn_9 rfl (lv_at hl 0 rfl) ?_
      refine lv_iconst (v := (3 : Int32)) hx hb dX1_closedIn_10 (by decide) ?_
      refine lv_iload_n hx hb dX1_closedIn_11 rfl (lv_at hl 3 rfl) ?_
      refine lv_iload_n hx hb dX1_closedIn_12 rfl (lv_at hl 1 rfl) ?_
      obtain ⟨r2, hc2, hf⟩ := wk_b1E hf
      refine wk_callVi2 C hP hD hS (c_X1_valueIn l D cB cI cJ N a_this a_kinds a_counties a_ranks a_values a_hours a_counties_cells a_hours_cells a_kinds_cells a_ranks_cells a_values_cells v_size v_counties v_hours v_kinds v_ranks v_values (3 : Int32) x3 x1 hc2) (cwV 3 hts gX1_closedIn_X1_valueIn rfl rfl rfl hd_X1_valueIn ⟨Nat.le_of_ble_eq_true rfl, Nat.le_of_ble_eq_true rfl⟩) hl.1 ⟨Nat.zero_le _, Nat.zero_le _⟩ [0, 1, 2, 3, 4, 5, 6, 7, 8, 9, 10] [] 11 (by decide +kernel) rfl (Wn := w_X1_closedIn cB cI cJ a_this a_kinds a_counties a_ranks a_values a_hours a_counties_cells a_hours_cells a_kinds_cells a_ranks_cells a_values_cells v_size v_counties v_hours v_kinds v_ranks v_values) rfl rfl rfl rfl rfl rfl (ci := 1) rfl rfl (q0 := 0) rfl rfl rfl (Nat.le_of_ble_eq_true rfl) dX1_closedIn_13 (fun H locs hP hD hS => ?_)
      refine lv_if_ne (tgt := 25) hx hb dX1_closedIn_16 (by decide) (fun c3 => ?_) (fun c3 => ?_)
      · have hf := wk_itF hf c3
        obtain ⟨y4, ey4⟩ : ∃ y : Int32, y = x3 + (1 : Int32) := ⟨_, rfl⟩
        have hf := wk_nmE hf ey4
        refine lv_iinc (v := y4) (lv' := [(3, .int y4), (0, .ref a_this), (1, .int x1), (2, .int x2)]) hx hb dX1_closedIn_25 hl (k := 3) rfl (by rw [ey4]; rfl) (by decide) rfl (fun ls hl => ?_)
        refine lv_goto (tgt := 4) hx hb dX1_closedIn_28 (by decide) ?_
        exact ih4 _ _ _ hf _ _ _ hP hD hS (lv_sub hl [1, 2, 3, 0] rfl)
      · have hf := wk_itT hf c3
        refine lv_iload_n hx hb dX1_closedIn_19 rfl (lv_at hl 2 rfl) ?_
        refine lv_iconst (v := (1 : Int32)) hx hb dX1_closedIn_20 (by decide) ?_
        refine lv_iload_n hx hb dX1_closedIn_21 rfl (lv_at hl 3 rfl) ?_
        refine lv_ishl hx hb dX1_closedIn_22 ?_
        refine lv_ior hx hb dX1_closedIn_23 ?_
        refine lv_topi (fun y5 ey5 => ?_)
        have hf := wk_nmE hf ey5
        refine lv_istore_n (lv' := [(2, .int y5), (0, .ref a_this), (1, .int x1), (3, .int x3)]) hx hb dX1_closedIn_24 rfl hl (by decide) rfl (fun ls hl => ?_)
        obtain ⟨y6, ey6⟩ : ∃ y : Int32, y = x3 + (1 : Int32) := ⟨_, rfl⟩
        have hf := wk_nmE hf ey6
        refine lv_iinc (v := y6) (lv' := [(3, .int y6), (2, .int y5), (0, .ref a_this), (1, .int x1)]) hx hb dX1_closedIn_25 hl (k := 3) rfl (by rw [ey6]; rfl) (by decide) rfl (fun ls hl => ?_)
        refine lv_goto (tgt := 4) hx hb dX1_closedIn_28 (by decide) ?_
        exact ih4 _ _ _ hf _ _ _ hP hD hS (lv_sub hl [2, 3, 1, 0] rfl))
  unfold f_X1_closedIn at hf
  refine lv_iconst (v := (0 : Int32)) hx hb dX1_closedIn_0 (by decide) ?_
  refine lv_istore_n (lv' := [(2, .int (0 : Int32)), (0, .ref a_this), (1, .int x1)]) hx hb dX1_closedIn_1 rfl hl (by decide) rfl (fun ls hl => ?_)
  refine lv_iconst (v := (0 : Int32)) hx hb dX1_closedIn_2 (by decide) ?_
  refine lv_istore_n (lv' := [(3, .int (0 : Int32)), (2, .int (0 : Int32)), (0, .ref a_this), (1, .int x1)]) hx hb dX1_closedIn_3 rfl hl (by decide) rfl (fun ls hl => ?_)
  exact L4 N _ _ _ hf _ _ _ hP hD hS (lv_sub hl [2, 3, 1, 0] rfl)
abbrev w_X1_nextOrder (cB cI cJ : ClassId) (a_this : Nat) (a_kinds : Nat) (a_counties : Nat) (a_ranks : Nat) (a_values : Nat) (a_hours : Nat) (a_hours_cells : Nat) (a_kinds_cells : Nat) (v_size : Int32) (v_hours : Nat → Int32) (v_kinds : Nat → Int32) : va_W := [(a_this, .inr (1, [.ref a_kinds, .ref a_counties, .ref a_ranks, .ref a_values, .ref a_hours, .int v_size])), (a_hours, .inr (6, [.ref a_hours_cells])), (a_hours_cells, .inl (cI, 40, .inl v_hours)), (a_kinds, .inr (6, [.ref a_kinds_cells])), (a_kinds_cells, .inl (cI, 40, .inl v_kinds))]
theorem hd_X1_nextOrder : yX1_nextOrder.cls = RX1 ∧ yX1_nextOrder.cls ≠ "java/lang/invoke/MethodHandle" ∧ yX1_nextOrder.cls ≠ "java/lang/invoke/VarHandle" ∧ (parseMethodDescriptor yX1_nextOrder.desc).map (fun d => d.parameters.length) = some 1 := by decide +kernel
abbrev rm_X1_nextOrder : Room := { frames := 1, cells := 0, slots := 0, locals := 21 }
theorem in_X1_nextOrder_X1 : ∀ w ∈ wsX10, w ∈ wsX1_nextOrder := fun w h => List.mem_cons_of_mem _ (List.mem_append_left _ (List.mem_append_right _ h))
set_option maxHeartbeats 4000000 in
set_option maxRecDepth 100000 in
theorem c_X1_nextOrder (l : Launch) (D : va_G) (cB cI cJ : ClassId) (N : Nat) (a_this : Nat) (a_kinds : Nat) (a_counties : Nat) (a_ranks : Nat) (a_values : Nat) (a_hours : Nat) (a_hours_cells : Nat) (a_kinds_cells : Nat) (v_size : Int32) (v_hours : Nat → Int32) (v_kinds : Nat → Int32) (x1 : Int32) {r : Int32} (hf : f_X1_nextOrder N v_size v_hours v_kinds x1 = some r) : MTi l yX1_nextOrder wsX1_nextOrder rm_X1_nextOrder D (wk_T cB cI cJ) [.ref a_this, .int x1] (w_X1_nextOrder cB cI cJ a_this a_kinds a_counties a_ranks a_values a_hours a_hours_cells a_kinds_cells v_size v_hours v_kinds) (w_X1_nextOrder cB cI cJ a_this a_kinds a_counties a_ranks a_values a_hours a_hours_cells a_kinds_cells v_size v_hours v_kinds) r := by
  refine MTi.of (cc := cX1_nextOrder) (nL := 5) (rt := .int) (own := RX1) pn_X1 rfl rfl (Nat.le_of_ble_eq_true rfl) rfl ?_
  intro p e s m args below meth c A ls Q C hP hD hS hl hret
  obtain ⟨hx, hb, hml, hts, hown, hK, hN, hA, hlk⟩ := id C
  have hl : lv_has ls 5 [(0, .ref a_this), (1, .int x1)] := hl
  have L6 := wk_loopI (F := (fun k6 : Int32 → Int32 → Int32 → Option Int32 => B_X1_nextOrder_6 N v_size v_hours v_kinds k6)) (bot := fun _ _ _ => none) (fun k6 : Int32 → Int32 → Int32 → Option Int32 => ∀ (x1 : Int32) (x2 : Int32) (x3 : Int32), k6 x1 x2 x3 = some r → ∀ (H : Heap) (locs : List Loc) (ls : Array Slot), va_P D vwCl (w_X1_nextOrder cB cI cJ a_this a_kinds a_counties a_ranks a_values a_hours a_hours_cells a_kinds_cells v_size v_hours v_kinds) H → va_D A (w_X1_nextOrder cB cI cJ a_this a_kinds a_counties a_ranks a_values a_hours a_hours_cells a_kinds_cells v_size v_hours v_kinds) → va_S A s.heap H locs → lv_has ls 5 [(0, .ref a_this), (1, .int x1), (2, .int x2), (3, .int x3)] → W p l e rm_X1_nextOrder s m args below meth c H locs 0 0 Q (F0 m 6 ls [])) (by intro x1 x2 x3 hf; exact wk_no hf) (by
    intro k6 ih6
    have J43 : ∀ (x1 : Int32) (x2 : Int32) (x3 : Int32) (s0 : Int32), B_X1_nextOrder_43 N v_size v_hours v_kinds k6 x1 x2 x3 s0 = some r → ∀ (H : Heap) (locs : List Loc) (ls : Array Slot), va_P D vwCl (w_X1_nextOrder cB cI cJ a_this a_kinds a_counties a_ranks a_values a_hours a_hours_cells a_kinds_cells v_size v_hours v_kinds) H → va_D A (w_X1_nextOrder cB cI cJ a_this a_kinds a_counties a_ranks a_values a_hours a_hours_cells a_kinds_cells v_size v_hours v_kinds) → va_S A s.heap H locs → lv_has ls 5 [(0, .ref a_this), (1, .int x1), (2, .int x2), (3, .int x3)] → W p l e rm_X1_nextOrder s m args below meth c H locs 0 0 Q (F0 m 43 ls [.int s0]) := by
      intro x1 x2 x3 s0 hf H locs ls hP hD hS hl
      unfold B_X1_nextOrder_43 at hf
      refine lv_istore (lv' := [(4, .int s0), (0, .ref a_this), (1, .int x1), (2, .int x2), (3, .int x3)]) hx hb dX1_nextOrder_43 hl (by decide) rfl (fun ls hl => ?_)
      refine lv_iload hx hb dX1_nextOrder_45 (lv_at hl 0 rfl) ?_
      refine lv_if_eq (tgt := 71) hx hb dX1_nextOrder_47 (by decide) (fun c1 => ?_) (fun c1 => ?_)
      · have hf := wk_itT hf c1
        obtain ⟨y2, ey2⟩ : ∃ y : Int32, y = x3 + (1 : Int32) := ⟨_, rfl⟩
        have hf := wk_nmE hf ey2
        refine lv_iinc (v := y2) (lv' := [(3, .int y2), (4, .int s0), (0, .ref a_this), (1, .int x1), (2, .int x2)]) hx hb dX1_nextOrder_71 hl (k := 4) rfl (by rw [ey2]; rfl) (by decide) rfl (fun ls hl => ?_)
        refine lv_goto (tgt := 6) hx hb dX1_nextOrder_74 (by decide) ?_
        exact ih6 _ _ _ hf _ _ _ hP hD hS (lv_sub hl [2, 3, 4, 0] rfl)
      · have hf := wk_itF hf c1
        refine lv_aload_n hx hb dX1_nextOrder_50 rfl (lv_at hl 1 rfl) ?_
        refine va_get (D := D) (ci := 1) (v := .ref a_hours) (C := RX1) (T := TX1) (N := 6) hx hb hts in_X1_nextOrder_X1 hown hK hP 0 rfl rfl 4 (by decide) (hts (.fieldLink RX1 29 "HangingCards$Orders" "hours" "LHangingCards$Row;") (List.mem_of_getElem? (i := 3) rfl)) (fun _ h9 => h9) rfl dX1_nextOrder_51 ?_
        refine lv_iload_n hx hb dX1_nextOrder_54 rfl (lv_at hl 4 rfl) ?_
        obtain ⟨r3, hc3, hf⟩ := wk_b1E hf
        refine wk_callVi2 C hP hD hS (c_X6_get l D cB cI cJ N a_hours a_hours_cells 40 v_hours x3 hc3) (cwV 1 hts gX1_nextOrder_X6_get rfl rfl rfl hd_X6_get ⟨Nat.le_of_ble_eq_true rfl, Nat.le_of_ble_eq_true rfl⟩) hl.1 ⟨Nat.zero_le _, Nat.zero_le _⟩ [1, 2] [0, 3, 4] 5 (by decide +kernel) rfl (Wn := w_X1_nextOrder cB cI cJ a_this a_kinds a_counties a_ranks a_values a_hours a_hours_cells a_kinds_cells v_size v_hours v_kinds) rfl rfl rfl rfl rfl rfl (ci := 6) rfl rfl (q0 := 1) rfl rfl rfl (Nat.le_of_ble_eq_true rfl) dX1_nextOrder_55 (fun H locs hP hD hS => ?_)
        refine lv_iload_n hx hb dX1_nextOrder_58 rfl (lv_at hl 3 rfl) ?_
        refine lv_icmp_ge (tgt := 71) hx hb dX1_nextOrder_59 (by decide) (fun c4 => ?_) (fun c4 => ?_)
        · have hf := wk_itT hf c4
          obtain ⟨y5, ey5⟩ : ∃ y : Int32, y = x3 + (1 : Int32) := ⟨_, rfl⟩
          have hf := wk_nmE hf ey5
          refine lv_iinc (v := y5) (lv' := [(3, .int y5), (4, .int s0), (0, .ref a_this), (1, .int x1), (2, .int x2)]) hx hb dX1_nextOrder_71 hl (k := 4) rfl (by rw [ey5]; rfl) (by decide) rfl (fun ls hl => ?_)
          refine lv_goto (tgt := 6) hx hb dX1_nextOrder_74 (by decide) ?_
          exact ih6 _ _ _ hf _ _ _ hP hD hS (lv_sub hl [2, 3, 4, 0] rfl)
        · have hf := wk_itF hf c4
          refine lv_aload_n hx hb dX1_nextOrder_62 rfl (lv_at hl 1 rfl) ?_
          refine va_get (D := D) (ci := 1) (v := .ref a_hours) (C := RX1) (T := TX1) (N := 6) hx hb hts in_X1_nextOrder_X1 hown hK hP 0 rfl rfl 4 (by decide) (hts (.fieldLink RX1 29 "HangingCards$Orders" "hours" "LHangingCards$Row;") (List.mem_of_getElem? (i := 3) rfl)) (fun _ h9 => h9) rfl dX1_nextOrder_63 ?_
          refine lv_iload_n hx hb dX1_nextOrder_66 rfl (lv_at hl 4 rfl) ?_
          obtain ⟨r6, hc6, hf⟩ := wk_b1E hf
          refine wk_callVi2 C hP hD hS (c_X6_get l D cB cI cJ N a_hours a_hours_cells 40 v_hours x3 hc6) (cwV 1 hts gX1_nextOrder_X6_get rfl rfl rfl hd_X6_get ⟨Nat.le_of_ble_eq_true rfl, Nat.le_of_ble_eq_true rfl⟩) hl.1 ⟨Nat.zero_le _, Nat.zero_le _⟩ [1, 2] [0, 3, 4] 5 (by decide +kernel) rfl (Wn := w_X1_nextOrder cB cI cJ a_this a_kinds a_counties a_ranks a_values a_hours a_hours_cells a_kinds_cells v_size v_hours v_kinds) rfl rfl rfl rfl rfl rfl (ci := 6) rfl rfl (q0 := 1) rfl rfl rfl (Nat.le_of_ble_eq_true rfl) dX1_nextOrder_67 (fun H locs hP hD hS => ?_)
          refine lv_istore_n (lv' := [(2, .int r6), (4, .int s0), (0, .ref a_this), (1, .int x1), (3, .int x3)]) hx hb dX1_nextOrder_70 rfl hl (by decide) rfl (fun ls hl => ?_)
          obtain ⟨y7, ey7⟩ : ∃ y : Int32, y = x3 + (1 : Int32) := ⟨_, rfl⟩
          have hf := wk_nmE hf ey7
          refine lv_iinc (v := y7) (lv' := [(3, .int y7), (2, .int r6), (4, .int s0), (0, .ref a_this), (1, .int x1)]) hx hb dX1_nextOrder_71 hl (k := 4) rfl (by rw [ey7]; rfl) (by decide) rfl (fun ls hl => ?_)
          refine lv_goto (tgt := 6) hx hb dX1_nextOrder_74 (by decide) ?_
          exact ih6 _ _ _ hf _ _ _ hP hD hS (lv_sub hl [3, 4, 1, 0] rfl)
    intro x1 x2 x3 hf H locs ls hP hD hS hl
    have hf : B_X1_nextOrder_6 N v_size v_hours v_kinds k6 x1 x2 x3 = some r := hf
    unfold B_X1_nextOrder_6 at hf
    refine lv_iload_n hx hb dX1_nextOrder_6 rfl (lv_at hl 3 rfl) ?_
    refine lv_aload_n hx hb dX1_nextOrder_7 rfl (lv_at hl 0 rfl) ?_
    refine va_get (D := D) (ci := 1) (v := .int v_size) (C := RX1) (T := TX1) (N := 6) hx hb hts in_X1_nextOrder_X1 hown hK hP 0 rfl rfl 5 (by decide) (hts (.fieldLink RX1 32 "HangingCards$Orders" "size" "I") (List.mem_of_getElem? (i := 1) rfl)) (fun _ h9 => h9) rfl dX1_nextOrder_8 ?_
    refine lv_icmp_ge (tgt := 77) hx hb dX1_nextOrder_11 (by decide) (fun c8 => ?_) (fun c8 => ?_)
    · have hf := wk_itT hf c8
      refine lv_iload_n hx hb dX1_nextOrder_77 rfl (lv_at hl 2 rfl) ?_
      exact hret _ _ _ _ _ _ dX1_nextOrder_78 (wk_rt hf (fun z => z)) rfl hP hD hS
    · have hf := wk_itF hf c8
      refine lv_aload_n hx hb dX1_nextOrder_14 rfl (lv_at hl 0 rfl) ?_
      refine va_get (D := D) (ci := 1) (v := .ref a_kinds) (C := RX1) (T := TX1) (N := 6) hx hb hts in_X1_nextOrder_X1 hown hK hP 0 rfl rfl 0 (by decide) (hts (.fieldLink RX1 14 "HangingCards$Orders" "kinds" "LHangingCards$Row;") (List.mem_of_getElem? (i := 2) rfl)) (fun _ h9 => h9) rfl dX1_nextOrder_15 ?_
      refine lv_iload_n hx hb dX1_nextOrder_18 rfl (lv_at hl 3 rfl) ?_
      obtain ⟨r9, hc9, hf⟩ := wk_b1E hf
      refine wk_callVi2 C hP hD hS (c_X6_get l D cB cI cJ N a_kinds a_kinds_cells 40 v_kinds x3 hc9) (cwV 1 hts gX1_nextOrder_X6_get rfl rfl rfl hd_X6_get ⟨Nat.le_of_ble_eq_true rfl, Nat.le_of_ble_eq_true rfl⟩) hl.1 ⟨Nat.zero_le _, Nat.zero_le _⟩ [3, 4] [0, 1, 2] 5 (by decide +kernel) rfl (Wn := w_X1_nextOrder cB cI cJ a_this a_kinds a_counties a_ranks a_values a_hours a_hours_cells a_kinds_cells v_size v_hours v_kinds) rfl rfl rfl rfl rfl rfl (ci := 6) rfl rfl (q0 := 3) rfl rfl rfl (Nat.le_of_ble_eq_true rfl) dX1_nextOrder_19 (fun H locs hP hD hS => ?_)
      refine lv_iconst (v := (3 : Int32)) hx hb dX1_nextOrder_22 (by decide) ?_
      refine lv_icmp_ne (tgt := 42) hx hb dX1_nextOrder_23 (by decide) (fun c10 => ?_) (fun c10 => ?_)
      · have hf := wk_itF hf c10
        refine lv_iconst (v := (0 : Int32)) hx hb dX1_nextOrder_42 (by decide) ?_
        exact J43 _ _ _ _ hf _ _ _ hP hD hS (lv_sub hl [0, 1, 2, 3] rfl)
      · have hf := wk_itT hf c10
        refine lv_aload_n hx hb dX1_nextOrder_26 rfl (lv_at hl 0 rfl) ?_
        refine va_get (D := D) (ci := 1) (v := .ref a_hours) (C := RX1) (T := TX1) (N := 6) hx hb hts in_X1_nextOrder_X1 hown hK hP 0 rfl rfl 4 (by decide) (hts (.fieldLink RX1 29 "HangingCards$Orders" "hours" "LHangingCards$Row;") (List.mem_of_getElem? (i := 3) rfl)) (fun _ h9 => h9) rfl dX1_nextOrder_27 ?_
        refine lv_iload_n hx hb dX1_nextOrder_30 rfl (lv_at hl 3 rfl) ?_
        obtain ⟨r11, hc11, hf⟩ := wk_b1E hf
        refine wk_callVi2 C hP hD hS (c_X6_get l D cB cI cJ N a_hours a_hours_cells 40 v_hours x3 hc11) (cwV 1 hts gX1_nextOrder_X6_get rfl rfl rfl hd_X6_get ⟨Nat.le_of_ble_eq_true rfl, Nat.le_of_ble_eq_true rfl⟩) hl.1 ⟨Nat.zero_le _, Nat.zero_le _⟩ [1, 2] [0, 3, 4] 5 (by decide +kernel) rfl (Wn := w_X1_nextOrder cB cI cJ a_this a_kinds a_counties a_ranks a_values a_hours a_hours_cells a_kinds_cells v_size v_hours v_kinds) rfl rfl rfl rfl rfl rfl (ci := 6) rfl rfl (q0 := 1) rfl rfl rfl (Nat.le_of_ble_eq_true rfl) dX1_nextOrder_31 (fun H locs hP hD hS => ?_)
        refine lv_iload_n hx hb dX1_nextOrder_34 rfl (lv_at hl 1 rfl) ?_
        refine lv_icmp_le (tgt := 42) hx hb dX1_nextOrder_35 (by decide) (fun c12 => ?_) (fun c12 => ?_)
        · have hf := wk_itT hf c12
          refine lv_iconst (v := (0 : Int32)) hx hb dX1_nextOrder_42 (by decide) ?_
          exact J43 _ _ _ _ hf _ _ _ hP hD hS (lv_sub hl [0, 1, 2, 3] rfl)
        · have hf := wk_itF hf c12
          refine lv_iconst (v := (1 : Int32)) hx hb dX1_nextOrder_38 (by decide) ?_
          refine lv_goto (tgt := 43) hx hb dX1_nextOrder_39 (by decide) ?_
          exact J43 _ _ _ _ hf _ _ _ hP hD hS (lv_sub hl [0, 1, 2, 3] rfl))
  unfold f_X1_nextOrder at hf
  refine lv_sipush (v := (1000 : Int32)) hx hb dX1_nextOrder_0 (by decide) ?_
  refine lv_istore_n (lv' := [(2, .int (1000 : Int32)), (0, .ref a_this), (1, .int x1)]) hx hb dX1_nextOrder_3 rfl hl (by decide) rfl (fun ls hl => ?_)
  refine lv_iconst (v := (0 : Int32)) hx hb dX1_nextOrder_4 (by decide) ?_
  refine lv_istore_n (lv' := [(3, .int (0 : Int32)), (2, .int (1000 : Int32)), (0, .ref a_this), (1, .int x1)]) hx hb dX1_nextOrder_5 rfl hl (by decide) rfl (fun ls hl => ?_)
  exact L6 N _ _ _ hf _ _ _ hP hD hS (lv_sub hl [2, 3, 1, 0] rfl)
