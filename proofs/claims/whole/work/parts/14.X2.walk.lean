abbrev w_X2_size (cB cI cJ : ClassId) (a_this : Nat) (a_letters : Nat) (a_days : Nat) (a_counties : Nat) (v_limit : Int32) (v_size : Int32) : va_W := [(a_this, .inr (2, [.int v_limit, .ref a_letters, .ref a_days, .ref a_counties, .int v_size]))]
theorem hd_X2_size : yX2_size.cls = RX2 ∧ yX2_size.cls ≠ "java/lang/invoke/MethodHandle" ∧ yX2_size.cls ≠ "java/lang/invoke/VarHandle" ∧ (parseMethodDescriptor yX2_size.desc).map (fun d => d.parameters.length) = some 0 := by decide +kernel
abbrev rm_X2_size : Room := { frames := 0, cells := 0, slots := 0, locals := 0 }
theorem in_X2_size_X2 : ∀ w ∈ wsX20, w ∈ wsX2_size := fun w h => List.mem_cons_of_mem _ (List.mem_append_right _ h)
set_option maxHeartbeats 4000000 in
set_option maxRecDepth 100000 in
theorem c_X2_size (l : Launch) (D : va_G) (cB cI cJ : ClassId) (N : Nat) (a_this : Nat) (a_letters : Nat) (a_days : Nat) (a_counties : Nat) (v_limit : Int32) (v_size : Int32) {r : Int32} (hf : f_X2_size N v_size = some r) : MTi l yX2_size wsX2_size rm_X2_size D (wk_T cB cI cJ) [.ref a_this] (w_X2_size cB cI cJ a_this a_letters a_days a_counties v_limit v_size) (w_X2_size cB cI cJ a_this a_letters a_days a_counties v_limit v_size) r := by
  refine MTi.of (cc := cX2_size) (nL := 1) (rt := .int) (own := RX2) pn_X2 rfl rfl (Nat.le_of_ble_eq_true rfl) rfl ?_
  intro p e s m args below meth c A ls Q C hP hD hS hl hret
  obtain ⟨hx, hb, hml, hts, hown, hK, hN, hA, hlk⟩ := id C
  have hl : lv_has ls 1 [(0, .ref a_this)] := hl
  unfold f_X2_size at hf
  refine lv_aload_n hx hb dX2_size_0 rfl (lv_at hl 0 rfl) ?_
  refine va_get (D := D) (ci := 2) (v := .int v_size) (C := RX2) (T := TX2) (N := 5) hx hb hts in_X2_size_X2 hown hK hP 0 rfl rfl 4 (by decide) (hts (.fieldLink RX2 9 "HangingCards$People" "size" "I") (List.mem_of_getElem? (i := 1) rfl)) (fun _ h9 => h9) rfl dX2_size_1 ?_
  exact hret _ _ _ _ _ _ dX2_size_4 (wk_rt hf (fun z => z)) rfl hP hD hS
abbrev w_X2_has (cB cI cJ : ClassId) (a_this : Nat) (a_letters : Nat) (a_days : Nat) (a_counties : Nat) (v_limit : Int32) (v_size : Int32) : va_W := [(a_this, .inr (2, [.int v_limit, .ref a_letters, .ref a_days, .ref a_counties, .int v_size]))]
theorem hd_X2_has : yX2_has.cls = RX2 ∧ yX2_has.cls ≠ "java/lang/invoke/MethodHandle" ∧ yX2_has.cls ≠ "java/lang/invoke/VarHandle" ∧ (parseMethodDescriptor yX2_has.desc).map (fun d => d.parameters.length) = some 1 := by decide +kernel
abbrev rm_X2_has : Room := { frames := 0, cells := 0, slots := 0, locals := 0 }
theorem in_X2_has_X2 : ∀ w ∈ wsX20, w ∈ wsX2_has := fun w h => List.mem_cons_of_mem _ (List.mem_append_right _ h)
set_option maxHeartbeats 4000000 in
set_option maxRecDepth 100000 in
theorem c_X2_has (l : Launch) (D : va_G) (cB cI cJ : ClassId) (N : Nat) (a_this : Nat) (a_letters : Nat) (a_days : Nat) (a_counties : Nat) (v_limit : Int32) (v_size : Int32) (x1 : Int32) {r : Bool} (hf : f_X2_has N v_size x1 = some r) : MTi l yX2_has wsX2_has rm_X2_has D (wk_T cB cI cJ) [.ref a_this, .int x1] (w_X2_has cB cI cJ a_this a_letters a_days a_counties v_limit v_size) (w_X2_has cB cI cJ a_this a_letters a_days a_counties v_limit v_size) (wk_bI r) := by
  refine MTi.of (cc := cX2_has) (nL := 2) (rt := .boolean) (own := RX2) pn_X2 rfl rfl (Nat.le_of_ble_eq_true rfl) (wk_nz r) ?_
  intro p e s m args below meth c A ls Q C hP hD hS hl hret
  obtain ⟨hx, hb, hml, hts, hown, hK, hN, hA, hlk⟩ := id C
  have hl : lv_has ls 2 [(0, .ref a_this), (1, .int x1)] := hl
  unfold f_X2_has at hf
  refine lv_iload_n hx hb dX2_has_0 rfl (lv_at hl 1 rfl) ?_
  refine lv_if_lt (tgt := 16) hx hb dX2_has_1 (by decide) (fun c1 => ?_) (fun c1 => ?_)
  · have hf := wk_itT hf c1
    refine lv_iconst (v := (0 : Int32)) hx hb dX2_has_16 (by decide) ?_
    exact hret _ _ _ _ _ _ dX2_has_17 (wk_rt hf (fun z => wk_bI z)) rfl hP hD hS
  · have hf := wk_itF hf c1
    refine lv_iload_n hx hb dX2_has_4 rfl (lv_at hl 1 rfl) ?_
    refine lv_aload_n hx hb dX2_has_5 rfl (lv_at hl 0 rfl) ?_
    refine va_get (D := D) (ci := 2) (v := .int v_size) (C := RX2) (T := TX2) (N := 5) hx hb hts in_X2_has_X2 hown hK hP 0 rfl rfl 4 (by decide) (hts (.fieldLink RX2 9 "HangingCards$People" "size" "I") (List.mem_of_getElem? (i := 1) rfl)) (fun _ h9 => h9) rfl dX2_has_6 ?_
    refine lv_icmp_ge (tgt := 16) hx hb dX2_has_9 (by decide) (fun c2 => ?_) (fun c2 => ?_)
    · have hf := wk_itT hf c2
      refine lv_iconst (v := (0 : Int32)) hx hb dX2_has_16 (by decide) ?_
      exact hret _ _ _ _ _ _ dX2_has_17 (wk_rt hf (fun z => wk_bI z)) rfl hP hD hS
    · have hf := wk_itF hf c2
      refine lv_iconst (v := (1 : Int32)) hx hb dX2_has_12 (by decide) ?_
      refine lv_goto (tgt := 17) hx hb dX2_has_13 (by decide) ?_
      exact hret _ _ _ _ _ _ dX2_has_17 (wk_rt hf (fun z => wk_bI z)) rfl hP hD hS
abbrev w_X2_dayOf (cB cI cJ : ClassId) (a_this : Nat) (a_letters : Nat) (a_days : Nat) (a_counties : Nat) (a_days_cells : Nat) (n_days : Nat) (v_limit : Int32) (v_size : Int32) (v_days : Nat → Int32) : va_W := [(a_this, .inr (2, [.int v_limit, .ref a_letters, .ref a_days, .ref a_counties, .int v_size])), (a_days, .inr (6, [.ref a_days_cells])), (a_days_cells, .inl (cI, n_days, .inl v_days))]
theorem hd_X2_dayOf : yX2_dayOf.cls = RX2 ∧ yX2_dayOf.cls ≠ "java/lang/invoke/MethodHandle" ∧ yX2_dayOf.cls ≠ "java/lang/invoke/VarHandle" ∧ (parseMethodDescriptor yX2_dayOf.desc).map (fun d => d.parameters.length) = some 1 := by decide +kernel
abbrev rm_X2_dayOf : Room := { frames := 1, cells := 0, slots := 0, locals := 21 }
theorem in_X2_dayOf_X2 : ∀ w ∈ wsX20, w ∈ wsX2_dayOf := fun w h => List.mem_cons_of_mem _ (List.mem_append_left _ (List.mem_append_right _ h))
set_option maxHeartbeats 4000000 in
set_option maxRecDepth 100000 in
theorem c_X2_dayOf (l : Launch) (D : va_G) (cB cI cJ : ClassId) (N : Nat) (a_this : Nat) (a_letters : Nat) (a_days : Nat) (a_counties : Nat) (a_days_cells : Nat) (n_days : Nat) (v_limit : Int32) (v_size : Int32) (v_days : Nat → Int32) (x1 : Int32) {r : Int32} (hf : f_X2_dayOf N n_days v_days x1 = some r) : MTi l yX2_dayOf wsX2_dayOf rm_X2_dayOf D (wk_T cB cI cJ) [.ref a_this, .int x1] (w_X2_dayOf cB cI cJ a_this a_letters a_days a_counties a_days_cells n_days v_limit v_size v_days) (w_X2_dayOf cB cI cJ a_this a_letters a_days a_counties a_days_cells n_days v_limit v_size v_days) r := by
  refine MTi.of (cc := cX2_dayOf) (nL := 2) (rt := .int) (own := RX2) pn_X2 rfl rfl (Nat.le_of_ble_eq_true rfl) rfl ?_
  intro p e s m args below meth c A ls Q C hP hD hS hl hret
  obtain ⟨hx, hb, hml, hts, hown, hK, hN, hA, hlk⟩ := id C
  have hl : lv_has ls 2 [(0, .ref a_this), (1, .int x1)] := hl
  unfold f_X2_dayOf at hf
  refine lv_aload_n hx hb dX2_dayOf_0 rfl (lv_at hl 0 rfl) ?_
  refine va_get (D := D) (ci := 2) (v := .ref a_days) (C := RX2) (T := TX2) (N := 5) hx hb hts in_X2_dayOf_X2 hown hK hP 0 rfl rfl 2 (by decide) (hts (.fieldLink RX2 27 "HangingCards$People" "days" "LHangingCards$Row;") (List.mem_of_getElem? (i := 1) rfl)) (fun _ h9 => h9) rfl dX2_dayOf_1 ?_
  refine lv_iload_n hx hb dX2_dayOf_4 rfl (lv_at hl 1 rfl) ?_
  obtain ⟨r1, hc1, hf⟩ := wk_b1E hf
  refine wk_callVi2 C hP hD hS (c_X6_get l D cB cI cJ N a_days a_days_cells n_days v_days x1 hc1) (cwV 1 hts gX2_dayOf_X6_get rfl rfl rfl hd_X6_get ⟨Nat.le_of_ble_eq_true rfl, Nat.le_of_ble_eq_true rfl⟩) hl.1 ⟨Nat.zero_le _, Nat.zero_le _⟩ [1, 2] [0] 3 (by decide +kernel) rfl (Wn := w_X2_dayOf cB cI cJ a_this a_letters a_days a_counties a_days_cells n_days v_limit v_size v_days) rfl rfl rfl rfl rfl rfl (ci := 6) rfl rfl (q0 := 1) rfl rfl rfl (Nat.le_of_ble_eq_true rfl) dX2_dayOf_5 (fun H locs hP hD hS => ?_)
  exact hret _ _ _ _ _ _ dX2_dayOf_8 (wk_rt hf (fun z => z)) rfl hP hD hS
abbrev w_X2_isOf (cB cI cJ : ClassId) (a_this : Nat) (a_letters : Nat) (a_days : Nat) (a_counties : Nat) (a_counties_cells : Nat) (n_counties : Nat) (v_limit : Int32) (v_size : Int32) (v_counties : Nat → Int32) : va_W := [(a_this, .inr (2, [.int v_limit, .ref a_letters, .ref a_days, .ref a_counties, .int v_size])), (a_counties, .inr (6, [.ref a_counties_cells])), (a_counties_cells, .inl (cI, n_counties, .inl v_counties))]
theorem hd_X2_isOf : yX2_isOf.cls = RX2 ∧ yX2_isOf.cls ≠ "java/lang/invoke/MethodHandle" ∧ yX2_isOf.cls ≠ "java/lang/invoke/VarHandle" ∧ (parseMethodDescriptor yX2_isOf.desc).map (fun d => d.parameters.length) = some 2 := by decide +kernel
abbrev rm_X2_isOf : Room := { frames := 1, cells := 0, slots := 0, locals := 21 }
theorem in_X2_isOf_X2 : ∀ w ∈ wsX20, w ∈ wsX2_isOf := fun w h => List.mem_cons_of_mem _ (List.mem_append_left _ (List.mem_append_right _ h))
set_option maxHeartbeats 4000000 in
set_option maxRecDepth 100000 in
theorem c_X2_isOf (l : Launch) (D : va_G) (cB cI cJ : ClassId) (N : Nat) (a_this : Nat) (a_letters : Nat) (a_days : Nat) (a_counties : Nat) (a_counties_cells : Nat) (n_counties : Nat) (v_limit : Int32) (v_size : Int32) (v_counties : Nat → Int32) (x1 : Int32) (x2 : Int32) {r : Bool} (hf : f_X2_isOf N n_counties v_counties x1 x2 = some r) : MTi l yX2_isOf wsX2_isOf rm_X2_isOf D (wk_T cB cI cJ) [.ref a_this, .int x1, .int x2] (w_X2_isOf cB cI cJ a_this a_letters a_days a_counties a_counties_cells n_counties v_limit v_size v_counties) (w_X2_isOf cB cI cJ a_this a_letters a_days a_counties a_counties_cells n_counties v_limit v_size v_counties) (wk_bI r) := by
  refine MTi.of (cc := cX2_isOf) (nL := 3) (rt := .boolean) (own := RX2) pn_X2 rfl rfl (Nat.le_of_ble_eq_true rfl) (wk_nz r) ?_
  intro p e s m args below meth c A ls Q C hP hD hS hl hret
  obtain ⟨hx, hb, hml, hts, hown, hK, hN, hA, hlk⟩ := id C
  have hl : lv_has ls 3 [(0, .ref a_this), (1, .int x1), (2, .int x2)] := hl
  unfold f_X2_isOf at hf
  refine lv_iload_n hx hb dX2_isOf_0 rfl (lv_at hl 2 rfl) ?_
  refine lv_iconst (v := (5 : Int32)) hx hb dX2_isOf_1 (by decide) ?_
  refine lv_icmp_eq (tgt := 17) hx hb dX2_isOf_2 (by decide) (fun c1 => ?_) (fun c1 => ?_)
  · have hf := wk_itT hf c1
    refine lv_iconst (v := (1 : Int32)) hx hb dX2_isOf_17 (by decide) ?_
    refine lv_goto (tgt := 22) hx hb dX2_isOf_18 (by decide) ?_
    exact hret _ _ _ _ _ _ dX2_isOf_22 (wk_rt hf (fun z => wk_bI z)) rfl hP hD hS
  · have hf := wk_itF hf c1
    refine lv_aload_n hx hb dX2_isOf_5 rfl (lv_at hl 0 rfl) ?_
    refine va_get (D := D) (ci := 2) (v := .ref a_counties) (C := RX2) (T := TX2) (N := 5) hx hb hts in_X2_isOf_X2 hown hK hP 0 rfl rfl 3 (by decide) (hts (.fieldLink RX2 30 "HangingCards$People" "counties" "LHangingCards$Row;") (List.mem_of_getElem? (i := 1) rfl)) (fun _ h9 => h9) rfl dX2_isOf_6 ?_
    refine lv_iload_n hx hb dX2_isOf_9 rfl (lv_at hl 1 rfl) ?_
    obtain ⟨r2, hc2, hf⟩ := wk_b1E hf
    refine wk_callVi2 C hP hD hS (c_X6_get l D cB cI cJ N a_counties a_counties_cells n_counties v_counties x1 hc2) (cwV 1 hts gX2_isOf_X6_get rfl rfl rfl hd_X6_get ⟨Nat.le_of_ble_eq_true rfl, Nat.le_of_ble_eq_true rfl⟩) hl.1 ⟨Nat.zero_le _, Nat.zero_le _⟩ [1, 2] [0] 3 (by decide +kernel) rfl (Wn := w_X2_isOf cB cI cJ a_this a_letters a_days a_counties a_counties_cells n_counties v_limit v_size v_counties) rfl rfl rfl rfl rfl rfl (ci := 6) rfl rfl (q0 := 1) rfl rfl rfl (Nat.le_of_ble_eq_true rfl) dX2_isOf_10 (fun H locs hP hD hS => ?_)
    refine lv_iload_n hx hb dX2_isOf_13 rfl (lv_at hl 2 rfl) ?_
    refine lv_icmp_ne (tgt := 21) hx hb dX2_isOf_14 (by decide) (fun c3 => ?_) (fun c3 => ?_)
    · have hf := wk_itF hf c3
      refine lv_iconst (v := (0 : Int32)) hx hb dX2_isOf_21 (by decide) ?_
      exact hret _ _ _ _ _ _ dX2_isOf_22 (wk_rt hf (fun z => wk_bI z)) rfl hP hD hS
    · have hf := wk_itT hf c3
      refine lv_iconst (v := (1 : Int32)) hx hb dX2_isOf_17 (by decide) ?_
      refine lv_goto (tgt := 22) hx hb dX2_isOf_18 (by decide) ?_
      exact hret _ _ _ _ _ _ dX2_isOf_22 (wk_rt hf (fun z => wk_bI z)) rfl hP hD hS
abbrev w_X2_add (cB cI cJ : ClassId) (a_this : Nat) (a_letters : Nat) (a_days : Nat) (a_counties : Nat) (a_counties_cells : Nat) (a_days_cells : Nat) (a_letters_cells : Nat) (n_counties : Nat) (n_days : Nat) (n_letters : Nat) (v_limit : Int32) (v_size : Int32) (v_counties : Nat → Int32) (v_days : Nat → Int32) (v_letters : Nat → Int32) : va_W := [(a_this, .inr (2, [.int v_limit, .ref a_letters, .ref a_days, .ref a_counties, .int v_size])), (a_counties, .inr (6, [.ref a_counties_cells])), (a_counties_cells, .inl (cI, n_counties, .inl v_counties)), (a_days, .inr (6, [.ref a_days_cells])), (a_days_cells, .inl (cI, n_days, .inl v_days)), (a_letters, .inr (6, [.ref a_letters_cells])), (a_letters_cells, .inl (cI, n_letters, .inl v_letters))]
theorem hd_X2_add : yX2_add.cls = RX2 ∧ yX2_add.cls ≠ "java/lang/invoke/MethodHandle" ∧ yX2_add.cls ≠ "java/lang/invoke/VarHandle" ∧ (parseMethodDescriptor yX2_add.desc).map (fun d => d.parameters.length) = some 3 := by decide +kernel
abbrev rm_X2_add : Room := { frames := 1, cells := 0, slots := 0, locals := 22 }
theorem in_X2_add_X2 : ∀ w ∈ wsX20, w ∈ wsX2_add := fun w h => List.mem_cons_of_mem _ (List.mem_append_left _ (List.mem_append_right _ h))
set_option maxHeartbeats 4000000 in
set_option maxRecDepth 100000 in
theorem c_X2_add (l : Launch) (D : va_G) (cB cI cJ : ClassId) (N : Nat) (a_this : Nat) (a_letters : Nat) (a_days : Nat) (a_counties : Nat) (a_counties_cells : Nat) (a_days_cells : Nat) (a_letters_cells : Nat) (n_counties : Nat) (n_days : Nat) (n_letters : Nat) (v_limit : Int32) (v_size : Int32) (v_counties : Nat → Int32) (v_days : Nat → Int32) (v_letters : Nat → Int32) (x1 : Int64) (x3 : Int32) (x4 : Int32) {r : Int32} {o_size : Int32} {o_counties : Nat → Int32} {o_days : Nat → Int32} {o_letters : Nat → Int32} (hf : f_X2_add N n_counties n_days n_letters v_limit v_size v_counties v_days v_letters x1 x3 x4 = some (r, o_size, o_counties, o_days, o_letters)) : MTi l yX2_add wsX2_add rm_X2_add D (wk_T cB cI cJ) [.ref a_this, .long x1, .int x3, .int x4] (w_X2_add cB cI cJ a_this a_letters a_days a_counties a_counties_cells a_days_cells a_letters_cells n_counties n_days n_letters v_limit v_size v_counties v_days v_letters) (w_X2_add cB cI cJ a_this a_letters a_days a_counties a_counties_cells a_days_cells a_letters_cells n_counties n_days n_letters v_limit o_size o_counties o_days o_letters) r := by
  refine MTi.of (cc := cX2_add) (nL := 6) (rt := .int) (own := RX2) pn_X2 rfl rfl (Nat.le_of_ble_eq_true rfl) rfl ?_
  intro p e s m args below meth c A ls Q C hP hD hS hl hret
  obtain ⟨hx, hb, hml, hts, hown, hK, hN, hA, hlk⟩ := id C
  have hl : lv_has ls 6 [(0, .ref a_this), (1, .long x1), (3, .int x3), (4, .int x4)] := hl
  have L17 := wk_loopI (F := (fun k17 : Int32 → (Nat → Int32) → (Nat → Int32) → (Nat → Int32) → Int64 → Int32 → Int32 → Int32 → Option (Int32 × Int32 × (Nat → Int32) × (Nat → Int32) × (Nat → Int32)) => B_X2_add_17 N n_counties n_days n_letters v_limit k17)) (bot := fun _ _ _ _ _ _ _ _ => none) (fun k17 : Int32 → (Nat → Int32) → (Nat → Int32) → (Nat → Int32) → Int64 → Int32 → Int32 → Int32 → Option (Int32 × Int32 × (Nat → Int32) × (Nat → Int32) × (Nat → Int32)) => ∀ (v_size : Int32) (v_counties : Nat → Int32) (v_days : Nat → Int32) (v_letters : Nat → Int32) (x1 : Int64) (x3 : Int32) (x4 : Int32) (x5 : Int32), k17 v_size v_counties v_days v_letters x1 x3 x4 x5 = some (r, o_size, o_counties, o_days, o_letters) → ∀ (H : Heap) (locs : List Loc) (ls : Array Slot), va_P D vwCl (w_X2_add cB cI cJ a_this a_letters a_days a_counties a_counties_cells a_days_cells a_letters_cells n_counties n_days n_letters v_limit v_size v_counties v_days v_letters) H → va_D A (w_X2_add cB cI cJ a_this a_letters a_days a_counties a_counties_cells a_days_cells a_letters_cells n_counties n_days n_letters v_limit v_size v_counties v_days v_letters) → va_S A s.heap H locs → lv_has ls 6 [(0, .ref a_this), (1, .long x1), (3, .int x3), (4, .int x4), (5, .int x5)] → W p l e rm_X2_add s m args below meth c H locs 0 0 Q (F0 m 17 ls [])) (by intro v_size v_counties v_days v_letters x1 x3 x4 x5 hf; exact wk_no hf) (by
    intro k17 ih17
    intro v_size v_counties v_days v_letters x1 x3 x4 x5 hf H locs ls hP hD hS hl
    have hf : B_X2_add_17 N n_counties n_days n_letters v_limit k17 v_size v_counties v_days v_letters x1 x3 x4 x5 = some (r, o_size, o_counties, o_days, o_letters) := hf
    unfold B_X2_add_17 at hf
    refine lv_iload hx hb dX2_add_17 (lv_at hl 4 rfl) ?_
    refine lv_bipush (v := (8 : Int32)) hx hb dX2_add_19 (by decide) ?_
    refine lv_icmp_ge (tgt := 53) hx hb dX2_add_21 (by decide) (fun c1 => ?_) (fun c1 => ?_)
    · have hf := wk_itT hf c1
      refine lv_aload_n hx hb dX2_add_53 rfl (lv_at hl 0 rfl) ?_
      refine va_get (D := D) (ci := 2) (v := .ref a_days) (C := RX2) (T := TX2) (N := 5) hx hb hts in_X2_add_X2 hown hK hP 0 rfl rfl 2 (by decide) (hts (.fieldLink RX2 27 "HangingCards$People" "days" "LHangingCards$Row;") (List.mem_of_getElem? (i := 4) rfl)) (fun _ h9 => h9) rfl dX2_add_54 ?_
      refine lv_aload_n hx hb dX2_add_57 rfl (lv_at hl 0 rfl) ?_
      refine va_get (D := D) (ci := 2) (v := .int v_size) (C := RX2) (T := TX2) (N := 5) hx hb hts in_X2_add_X2 hown hK hP 0 rfl rfl 4 (by decide) (hts (.fieldLink RX2 9 "HangingCards$People" "size" "I") (List.mem_of_getElem? (i := 1) rfl)) (fun _ h9 => h9) rfl dX2_add_58 ?_
      refine lv_iload_n hx hb dX2_add_61 rfl (lv_at hl 2 rfl) ?_
      obtain ⟨o2_0, hc2, hf⟩ := wk_b1E hf
      refine wk_callVv2 C hP hD hS (c_X6_set l D cB cI cJ N a_days a_days_cells n_days v_days v_size x3 hc2) (cwV 2 hts gX2_add_X6_set rfl rfl rfl hd_X6_set ⟨Nat.le_of_ble_eq_true rfl, Nat.le_of_ble_eq_true rfl⟩) hl.1 ⟨Nat.zero_le _, Nat.zero_le _⟩ [3, 4] [0, 1, 2, 5, 6] 7 (by decide +kernel) rfl (Wn := w_X2_add cB cI cJ a_this a_letters a_days a_counties a_counties_cells a_days_cells a_letters_cells n_counties n_days n_letters v_limit v_size v_counties o2_0 v_letters) rfl rfl rfl rfl rfl rfl (ci := 6) rfl rfl (q0 := 3) rfl rfl rfl (Nat.le_of_ble_eq_true rfl) dX2_add_62 (fun H locs hP hD hS => ?_)
      refine lv_aload_n hx hb dX2_add_65 rfl (lv_at hl 0 rfl) ?_
      refine va_get (D := D) (ci := 2) (v := .ref a_counties) (C := RX2) (T := TX2) (N := 5) hx hb hts in_X2_add_X2 hown hK hP 0 rfl rfl 3 (by decide) (hts (.fieldLink RX2 30 "HangingCards$People" "counties" "LHangingCards$Row;") (List.mem_of_getElem? (i := 5) rfl)) (fun _ h9 => h9) rfl dX2_add_66 ?_
      refine lv_aload_n hx hb dX2_add_69 rfl (lv_at hl 0 rfl) ?_
      refine va_get (D := D) (ci := 2) (v := .int v_size) (C := RX2) (T := TX2) (N := 5) hx hb hts in_X2_add_X2 hown hK hP 0 rfl rfl 4 (by decide) (hts (.fieldLink RX2 9 "HangingCards$People" "size" "I") (List.mem_of_getElem? (i := 1) rfl)) (fun _ h9 => h9) rfl dX2_add_70 ?_
      refine lv_iload hx hb dX2_add_73 (lv_at hl 3 rfl) ?_
      obtain ⟨o3_0, hc3, hf⟩ := wk_b1E hf
      refine wk_callVv2 C hP hD hS (c_X6_set l D cB cI cJ N a_counties a_counties_cells n_counties v_counties v_size x4 hc3) (cwV 2 hts gX2_add_X6_set rfl rfl rfl hd_X6_set ⟨Nat.le_of_ble_eq_true rfl, Nat.le_of_ble_eq_true rfl⟩) hl.1 ⟨Nat.zero_le _, Nat.zero_le _⟩ [1, 2] [0, 3, 4, 5, 6] 7 (by decide +kernel) rfl (Wn := w_X2_add cB cI cJ a_this a_letters a_days a_counties a_counties_cells a_days_cells a_letters_cells n_counties n_days n_letters v_limit v_size o3_0 o2_0 v_letters) rfl rfl rfl rfl rfl rfl (ci := 6) rfl rfl (q0 := 1) rfl rfl rfl (Nat.le_of_ble_eq_true rfl) dX2_add_75 (fun H locs hP hD hS => ?_)
      refine lv_aload_n hx hb dX2_add_78 rfl (lv_at hl 0 rfl) ?_
      refine lv_dup hx hb dX2_add_79 rfl ?_
      refine va_get (D := D) (ci := 2) (v := .int v_size) (C := RX2) (T := TX2) (N := 5) hx hb hts in_X2_add_X2 hown hK hP 0 rfl rfl 4 (by decide) (hts (.fieldLink RX2 9 "HangingCards$People" "size" "I") (List.mem_of_getElem? (i := 1) rfl)) (fun _ h9 => h9) rfl dX2_add_80 ?_
      refine lv_iconst (v := (1 : Int32)) hx hb dX2_add_83 (by decide) ?_
      refine lv_iadd hx hb dX2_add_84 ?_
      refine va_put (D := D) (ci := 2) (v := .int (v_size + (1 : Int32))) (ty := .int) (C := RX2) (T := TX2) (N := 5) hx hb hts in_X2_add_X2 tyX2 tyX2_ok nmX2 hown hK hP hD hS 0 rfl rfl 4 (by decide) (hts (.fieldLink RX2 9 "HangingCards$People" "size" "I") (List.mem_of_getElem? (i := 1) rfl)) (fun _ h9 => h9) rfl (by decide +kernel) rfl rfl (Nat.le_of_ble_eq_true rfl) dX2_add_85 (fun H locs hP hD hS => ?_)
      have hP : va_P D vwCl (w_X2_add cB cI cJ a_this a_letters a_days a_counties a_counties_cells a_days_cells a_letters_cells n_counties n_days n_letters v_limit (v_size + (1 : Int32)) o3_0 o2_0 v_letters) H := hP
      have hD : va_D A (w_X2_add cB cI cJ a_this a_letters a_days a_counties a_counties_cells a_days_cells a_letters_cells n_counties n_days n_letters v_limit (v_size + (1 : Int32)) o3_0 o2_0 v_letters) := hD
      refine lv_aload_n hx hb dX2_add_88 rfl (lv_at hl 0 rfl) ?_
      refine va_get (D := D) (ci := 2) (v := .int (v_size + (1 : Int32))) (C := RX2) (T := TX2) (N := 5) hx hb hts in_X2_add_X2 hown hK hP 0 rfl rfl 4 (by decide) (hts (.fieldLink RX2 9 "HangingCards$People" "size" "I") (List.mem_of_getElem? (i := 1) rfl)) (fun _ h9 => h9) rfl dX2_add_89 ?_
      refine lv_iconst (v := (1 : Int32)) hx hb dX2_add_92 (by decide) ?_
      refine lv_isub hx hb dX2_add_93 ?_
      exact hret _ _ _ _ _ _ dX2_add_94 (wk_rt hf (fun z => z.1)) (wk_rt hf (fun z => w_X2_add cB cI cJ a_this a_letters a_days a_counties a_counties_cells a_days_cells a_letters_cells n_counties n_days n_letters v_limit (z.2.1) (z.2.2.1) (z.2.2.2.1) (z.2.2.2.2))) hP hD hS
    · have hf := wk_itF hf c1
      refine lv_aload_n hx hb dX2_add_24 rfl (lv_at hl 0 rfl) ?_
      refine va_get (D := D) (ci := 2) (v := .ref a_letters) (C := RX2) (T := TX2) (N := 5) hx hb hts in_X2_add_X2 hown hK hP 0 rfl rfl 1 (by decide) (hts (.fieldLink RX2 23 "HangingCards$People" "letters" "LHangingCards$Row;") (List.mem_of_getElem? (i := 3) rfl)) (fun _ h9 => h9) rfl dX2_add_25 ?_
      refine lv_aload_n hx hb dX2_add_28 rfl (lv_at hl 0 rfl) ?_
      refine va_get (D := D) (ci := 2) (v := .int v_size) (C := RX2) (T := TX2) (N := 5) hx hb hts in_X2_add_X2 hown hK hP 0 rfl rfl 4 (by decide) (hts (.fieldLink RX2 9 "HangingCards$People" "size" "I") (List.mem_of_getElem? (i := 1) rfl)) (fun _ h9 => h9) rfl dX2_add_29 ?_
      refine lv_bipush (v := (8 : Int32)) hx hb dX2_add_32 (by decide) ?_
      refine lv_imul hx hb dX2_add_34 ?_
      refine lv_iload hx hb dX2_add_35 (lv_at hl 4 rfl) ?_
      refine lv_iadd hx hb dX2_add_37 ?_
      refine lv_lload_n hx hb dX2_add_38 rfl (lv_at hl 1 rfl) ?_
      refine lv_iload hx hb dX2_add_39 (lv_at hl 4 rfl) ?_
      obtain ⟨r4, hc4, hf⟩ := wk_b1E hf
      refine wk_callNi2 C hP hD hS (c_X10_letterAt l D cB cI cJ N x1 x5 hc4) ⟨va_cnB 2 hts gX2_add_X10_letterAt_n37 rfl rfl rfl hN.2.2.2.2.1 (hts (.initialized RX10) (List.mem_of_getElem? (i := 7) rfl)) hd_X10_letterAt.2 ⟨Nat.le_of_ble_eq_true rfl, Nat.le_of_ble_eq_true rfl⟩, (hts (.static yX10_letterAt) (List.mem_of_getElem? (i := 6) rfl)), trivial⟩ hl.1 ⟨Nat.zero_le _, Nat.zero_le _⟩ [] [0, 1, 2, 3, 4, 5, 6] 7 (by decide +kernel) rfl (Wn := w_X2_add cB cI cJ a_this a_letters a_days a_counties a_counties_cells a_days_cells a_letters_cells n_counties n_days n_letters v_limit v_size v_counties v_days v_letters) rfl rfl rfl rfl rfl rfl rfl rfl (Nat.le_of_ble_eq_true rfl) dX2_add_41 (fun H locs hP hD hS => ?_)
      obtain ⟨o5_0, hc5, hf⟩ := wk_b1E hf
      refine wk_callVv2 C hP hD hS (c_X6_set l D cB cI cJ N a_letters a_letters_cells n_letters v_letters ((v_size * (8 : Int32)) + x5) r4 hc5) (cwV 2 hts gX2_add_X6_set rfl rfl rfl hd_X6_set ⟨Nat.le_of_ble_eq_true rfl, Nat.le_of_ble_eq_true rfl⟩) hl.1 ⟨Nat.zero_le _, Nat.zero_le _⟩ [5, 6] [0, 1, 2, 3, 4] 7 (by decide +kernel) rfl (Wn := w_X2_add cB cI cJ a_this a_letters a_days a_counties a_counties_cells a_days_cells a_letters_cells n_counties n_days n_letters v_limit v_size v_counties v_days o5_0) rfl rfl rfl rfl rfl rfl (ci := 6) rfl rfl (q0 := 5) rfl rfl rfl (Nat.le_of_ble_eq_true rfl) dX2_add_44 (fun H locs hP hD hS => ?_)
      obtain ⟨y6, ey6⟩ : ∃ y : Int32, y = x5 + (1 : Int32) := ⟨_, rfl⟩
      have hf := wk_nmE hf ey6
      refine lv_iinc (v := y6) (lv' := [(5, .int y6), (0, .ref a_this), (1, .long x1), (3, .int x3), (4, .int x4)]) hx hb dX2_add_47 hl (k := 4) rfl (by rw [ey6]; rfl) (by decide) rfl (fun ls hl => ?_)
      refine lv_goto (tgt := 17) hx hb dX2_add_50 (by decide) ?_
      exact ih17 _ _ _ _ _ _ _ _ hf _ _ _ hP hD hS (lv_sub hl [1, 2, 3, 4, 0] rfl))
  unfold f_X2_add at hf
  refine lv_aload_n hx hb dX2_add_0 rfl (lv_at hl 0 rfl) ?_
  refine va_get (D := D) (ci := 2) (v := .int v_size) (C := RX2) (T := TX2) (N := 5) hx hb hts in_X2_add_X2 hown hK hP 0 rfl rfl 4 (by decide) (hts (.fieldLink RX2 9 "HangingCards$People" "size" "I") (List.mem_of_getElem? (i := 1) rfl)) (fun _ h9 => h9) rfl dX2_add_1 ?_
  refine lv_aload_n hx hb dX2_add_4 rfl (lv_at hl 0 rfl) ?_
  refine va_get (D := D) (ci := 2) (v := .int v_limit) (C := RX2) (T := TX2) (N := 5) hx hb hts in_X2_add_X2 hown hK hP 0 rfl rfl 0 (by decide) (hts (.fieldLink RX2 15 "HangingCards$People" "limit" "I") (List.mem_of_getElem? (i := 2) rfl)) (fun _ h9 => h9) rfl dX2_add_5 ?_
  refine lv_icmp_lt (tgt := 14) hx hb dX2_add_8 (by decide) (fun c7 => ?_) (fun c7 => ?_)
  · have hf := wk_itT hf c7
    refine lv_iconst (v := (0 : Int32)) hx hb dX2_add_14 (by decide) ?_
    refine lv_istore (lv' := [(5, .int (0 : Int32)), (0, .ref a_this), (1, .long x1), (3, .int x3), (4, .int x4)]) hx hb dX2_add_15 hl (by decide) rfl (fun ls hl => ?_)
    exact L17 N _ _ _ _ _ _ _ _ hf _ _ _ hP hD hS (lv_sub hl [1, 2, 3, 4, 0] rfl)
  · have hf := wk_itF hf c7
    refine lv_bipush (v := (-3 : Int32)) hx hb dX2_add_11 (by decide) ?_
    exact hret _ _ _ _ _ _ dX2_add_13 (wk_rt hf (fun z => z.1)) (wk_rt hf (fun z => w_X2_add cB cI cJ a_this a_letters a_days a_counties a_counties_cells a_days_cells a_letters_cells n_counties n_days n_letters v_limit (z.2.1) (z.2.2.1) (z.2.2.2.1) (z.2.2.2.2))) hP hD hS
abbrev w_X2_letter (cB cI cJ : ClassId) (a_this : Nat) (a_letters : Nat) (a_days : Nat) (a_counties : Nat) (a_letters_cells : Nat) (n_letters : Nat) (v_limit : Int32) (v_size : Int32) (v_letters : Nat → Int32) : va_W := [(a_this, .inr (2, [.int v_limit, .ref a_letters, .ref a_days, .ref a_counties, .int v_size])), (a_letters, .inr (6, [.ref a_letters_cells])), (a_letters_cells, .inl (cI, n_letters, .inl v_letters))]
theorem hd_X2_letter : yX2_letter.cls = RX2 ∧ yX2_letter.cls ≠ "java/lang/invoke/MethodHandle" ∧ yX2_letter.cls ≠ "java/lang/invoke/VarHandle" ∧ (parseMethodDescriptor yX2_letter.desc).map (fun d => d.parameters.length) = some 2 := by decide +kernel
abbrev rm_X2_letter : Room := { frames := 1, cells := 0, slots := 0, locals := 21 }
theorem in_X2_letter_X2 : ∀ w ∈ wsX20, w ∈ wsX2_letter := fun w h => List.mem_cons_of_mem _ (List.mem_append_left _ (List.mem_append_right _ h))
set_option maxHeartbeats 4000000 in
set_option maxRecDepth 100000 in
theorem c_X2_letter (l : Launch) (D : va_G) (cB cI cJ : ClassId) (N : Nat) (a_this : Nat) (a_letters : Nat) (a_days : Nat) (a_counties : Nat) (a_letters_cells : Nat) (n_letters : Nat) (v_limit : Int32) (v_size : Int32) (v_letters : Nat → Int32) (x1 : Int32) (x2 : Int32) {r : Int32} (hf : f_X2_letter N n_letters v_letters x1 x2 = some r) : MTi l yX2_letter wsX2_letter rm_X2_letter D (wk_T cB cI cJ) [.ref a_this, .int x1, .int x2] (w_X2_letter cB cI cJ a_this a_letters a_days a_counties a_letters_cells n_letters v_limit v_size v_letters) (w_X2_letter cB cI cJ a_this a_letters a_days a_counties a_letters_cells n_letters v_limit v_size v_letters) r := by
  refine MTi.of (cc := cX2_letter) (nL := 3) (rt := .int) (own := RX2) pn_X2 rfl rfl (Nat.le_of_ble_eq_true rfl) rfl ?_
  intro p e s m args below meth c A ls Q C hP hD hS hl hret
  obtain ⟨hx, hb, hml, hts, hown, hK, hN, hA, hlk⟩ := id C
  have hl : lv_has ls 3 [(0, .ref a_this), (1, .int x1), (2, .int x2)] := hl
  unfold f_X2_letter at hf
  refine lv_aload_n hx hb dX2_letter_0 rfl (lv_at hl 0 rfl) ?_
  refine va_get (D := D) (ci := 2) (v := .ref a_letters) (C := RX2) (T := TX2) (N := 5) hx hb hts in_X2_letter_X2 hown hK hP 0 rfl rfl 1 (by decide) (hts (.fieldLink RX2 23 "HangingCards$People" "letters" "LHangingCards$Row;") (List.mem_of_getElem? (i := 1) rfl)) (fun _ h9 => h9) rfl dX2_letter_1 ?_
  refine lv_iload_n hx hb dX2_letter_4 rfl (lv_at hl 1 rfl) ?_
  refine lv_bipush (v := (8 : Int32)) hx hb dX2_letter_5 (by decide) ?_
  refine lv_imul hx hb dX2_letter_7 ?_
  refine lv_iload_n hx hb dX2_letter_8 rfl (lv_at hl 2 rfl) ?_
  refine lv_iadd hx hb dX2_letter_9 ?_
  obtain ⟨r1, hc1, hf⟩ := wk_b1E hf
  refine wk_callVi2 C hP hD hS (c_X6_get l D cB cI cJ N a_letters a_letters_cells n_letters v_letters ((x1 * (8 : Int32)) + x2) hc1) (cwV 1 hts gX2_letter_X6_get rfl rfl rfl hd_X6_get ⟨Nat.le_of_ble_eq_true rfl, Nat.le_of_ble_eq_true rfl⟩) hl.1 ⟨Nat.zero_le _, Nat.zero_le _⟩ [1, 2] [0] 3 (by decide +kernel) rfl (Wn := w_X2_letter cB cI cJ a_this a_letters a_days a_counties a_letters_cells n_letters v_limit v_size v_letters) rfl rfl rfl rfl rfl rfl (ci := 6) rfl rfl (q0 := 1) rfl rfl rfl (Nat.le_of_ble_eq_true rfl) dX2_letter_10 (fun H locs hP hD hS => ?_)
  exact hret _ _ _ _ _ _ dX2_letter_13 (wk_rt hf (fun z => z)) rfl hP hD hS
abbrev w_X2_nameLength (cB cI cJ : ClassId) (a_this : Nat) (a_letters : Nat) (a_days : Nat) (a_counties : Nat) (a_letters_cells : Nat) (n_letters : Nat) (v_limit : Int32) (v_size : Int32) (v_letters : Nat → Int32) : va_W := [(a_this, .inr (2, [.int v_limit, .ref a_letters, .ref a_days, .ref a_counties, .int v_size])), (a_letters, .inr (6, [.ref a_letters_cells])), (a_letters_cells, .inl (cI, n_letters, .inl v_letters))]
theorem hd_X2_nameLength : yX2_nameLength.cls = RX2 ∧ yX2_nameLength.cls ≠ "java/lang/invoke/MethodHandle" ∧ yX2_nameLength.cls ≠ "java/lang/invoke/VarHandle" ∧ (parseMethodDescriptor yX2_nameLength.desc).map (fun d => d.parameters.length) = some 1 := by decide +kernel
abbrev rm_X2_nameLength : Room := { frames := 2, cells := 0, slots := 0, locals := 43 }
set_option maxHeartbeats 4000000 in
set_option maxRecDepth 100000 in
theorem c_X2_nameLength (l : Launch) (D : va_G) (cB cI cJ : ClassId) (N : Nat) (a_this : Nat) (a_letters : Nat) (a_days : Nat) (a_counties : Nat) (a_letters_cells : Nat) (n_letters : Nat) (v_limit : Int32) (v_size : Int32) (v_letters : Nat → Int32) (x1 : Int32) {r : Int32} (hf : f_X2_nameLength N n_letters v_letters x1 = some r) : MTi l yX2_nameLength wsX2_nameLength rm_X2_nameLength D (wk_T cB cI cJ) [.ref a_this, .int x1] (w_X2_nameLength cB cI cJ a_this a_letters a_days a_counties a_letters_cells n_letters v_limit v_size v_letters) (w_X2_nameLength cB cI cJ a_this a_letters a_days a_counties a_letters_cells n_letters v_limit v_size v_letters) r := by
  refine MTi.of (cc := cX2_nameLength) (nL := 4) (rt := .int) (own := RX2) pn_X2 rfl rfl (Nat.le_of_ble_eq_true rfl) rfl ?_
  intro p e s m args below meth c A ls Q C hP hD hS hl hret
  obtain ⟨hx, hb, hml, hts, hown, hK, hN, hA, hlk⟩ := id C
  have hl : lv_has ls 4 [(0, .ref a_this), (1, .int x1)] := hl
  have L4 := wk_loopI (F := (fun k4 : Int32 → Int32 → Int32 → Option Int32 => B_X2_nameLength_4 N n_letters v_letters k4)) (bot := fun _ _ _ => none) (fun k4 : Int32 → Int32 → Int32 → Option Int32 => ∀ (x1 : Int32) (x2 : Int32) (x3 : Int32), k4 x1 x2 x3 = some r → ∀ (H : Heap) (locs : List Loc) (ls : Array Slot), va_P D vwCl (w_X2_nameLength cB cI cJ a_this a_letters a_days a_counties a_letters_cells n_letters v_limit v_size v_letters) H → va_D A (w_X2_nameLength cB cI cJ a_this a_letters a_days a_counties a_letters_cells n_letters v_limit v_size v_letters) → va_S A s.heap H locs → lv_has ls 4 [(0, .ref a_this), (1, .int x1), (2, .int x2), (3, .int x3)] → W p l e rm_X2_nameLength s m args below meth c H locs 0 0 Q (F0 m 4 ls [])) (by intro x1 x2 x3 hf; exact wk_no hf) (by
    intro k4 ih4
    intro x1 x2 x3 hf H locs ls hP hD hS hl
    have hf : B_X2_nameLength_4 N n_letters v_letters k4 x1 x2 x3 = some r := hf
    unfold B_X2_nameLength_4 at hf
    refine lv_iload_n hx hb dX2_nameLength_4 rfl (lv_at hl 3 rfl) ?_
    refine lv_bipush (v := (8 : Int32)) hx hb dX2_nameLength_5 (by decide) ?_
    refine lv_icmp_ge (tgt := 28) hx hb dX2_nameLength_7 (by decide) (fun c1 => ?_) (fun c1 => ?_)
    · have hf := wk_itT hf c1
      refine lv_iload_n hx hb dX2_nameLength_28 rfl (lv_at hl 2 rfl) ?_
      exact hret _ _ _ _ _ _ dX2_nameLength_29 (wk_rt hf (fun z => z)) rfl hP hD hS
    · have hf := wk_itF hf c1
      refine lv_aload_n hx hb dX2_nameLength_10 rfl (lv_at hl 0 rfl) ?_
      refine lv_iload_n hx hb dX2_nameLength_11 rfl (lv_at hl 1 rfl) ?_
      refine lv_iload_n hx hb dX2_nameLength_12 rfl (lv_at hl 3 rfl) ?_
      obtain ⟨r2, hc2, hf⟩ := wk_b1E hf
      refine wk_callVi2 C hP hD hS (c_X2_letter l D cB cI cJ N a_this a_letters a_days a_counties a_letters_cells n_letters v_limit v_size v_letters x1 x3 hc2) (cwV 2 hts gX2_nameLength_X2_letter rfl rfl rfl hd_X2_letter ⟨Nat.le_of_ble_eq_true rfl, Nat.le_of_ble_eq_true rfl⟩) hl.1 ⟨Nat.zero_le _, Nat.zero_le _⟩ [0, 1, 2] [] 3 (by decide +kernel) rfl (Wn := w_X2_nameLength cB cI cJ a_this a_letters a_days a_counties a_letters_cells n_letters v_limit v_size v_letters) rfl rfl rfl rfl rfl rfl (ci := 2) rfl rfl (q0 := 0) rfl rfl rfl (Nat.le_of_ble_eq_true rfl) dX2_nameLength_13 (fun H locs hP hD hS => ?_)
      refine lv_if_eq (tgt := 22) hx hb dX2_nameLength_16 (by decide) (fun c3 => ?_) (fun c3 => ?_)
      · have hf := wk_itT hf c3
        obtain ⟨y4, ey4⟩ : ∃ y : Int32, y = x3 + (1 : Int32) := ⟨_, rfl⟩
        have hf := wk_nmE hf ey4
        refine lv_iinc (v := y4) (lv' := [(3, .int y4), (0, .ref a_this), (1, .int x1), (2, .int x2)]) hx hb dX2_nameLength_22 hl (k := 3) rfl (by rw [ey4]; rfl) (by decide) rfl (fun ls hl => ?_)
        refine lv_goto (tgt := 4) hx hb dX2_nameLength_25 (by decide) ?_
        exact ih4 _ _ _ hf _ _ _ hP hD hS (lv_sub hl [1, 2, 3, 0] rfl)
      · have hf := wk_itF hf c3
        obtain ⟨y5, ey5⟩ : ∃ y : Int32, y = x2 + (1 : Int32) := ⟨_, rfl⟩
        have hf := wk_nmE hf ey5
        refine lv_iinc (v := y5) (lv' := [(2, .int y5), (0, .ref a_this), (1, .int x1), (3, .int x3)]) hx hb dX2_nameLength_19 hl (k := 2) rfl (by rw [ey5]; rfl) (by decide) rfl (fun ls hl => ?_)
        obtain ⟨y6, ey6⟩ : ∃ y : Int32, y = x3 + (1 : Int32) := ⟨_, rfl⟩
        have hf := wk_nmE hf ey6
        refine lv_iinc (v := y6) (lv' := [(3, .int y6), (2, .int y5), (0, .ref a_this), (1, .int x1)]) hx hb dX2_nameLength_22 hl (k := 3) rfl (by rw [ey6]; rfl) (by decide) rfl (fun ls hl => ?_)
        refine lv_goto (tgt := 4) hx hb dX2_nameLength_25 (by decide) ?_
        exact ih4 _ _ _ hf _ _ _ hP hD hS (lv_sub hl [2, 3, 1, 0] rfl))
  unfold f_X2_nameLength at hf
  refine lv_iconst (v := (0 : Int32)) hx hb dX2_nameLength_0 (by decide) ?_
  refine lv_istore_n (lv' := [(2, .int (0 : Int32)), (0, .ref a_this), (1, .int x1)]) hx hb dX2_nameLength_1 rfl hl (by decide) rfl (fun ls hl => ?_)
  refine lv_iconst (v := (0 : Int32)) hx hb dX2_nameLength_2 (by decide) ?_
  refine lv_istore_n (lv' := [(3, .int (0 : Int32)), (2, .int (0 : Int32)), (0, .ref a_this), (1, .int x1)]) hx hb dX2_nameLength_3 rfl hl (by decide) rfl (fun ls hl => ?_)
  exact L4 N _ _ _ hf _ _ _ hP hD hS (lv_sub hl [2, 3, 1, 0] rfl)
