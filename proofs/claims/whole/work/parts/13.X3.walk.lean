abbrev w_X3_size (cB cI cJ : ClassId) (a_this : Nat) (a_counties : Nat) (a_states : Nat) (v_size : Int32) : va_W := [(a_this, .inr (3, [.ref a_counties, .ref a_states, .int v_size]))]
theorem hd_X3_size : yX3_size.cls = RX3 ∧ yX3_size.cls ≠ "java/lang/invoke/MethodHandle" ∧ yX3_size.cls ≠ "java/lang/invoke/VarHandle" ∧ (parseMethodDescriptor yX3_size.desc).map (fun d => d.parameters.length) = some 0 := by decide +kernel
abbrev rm_X3_size : Room := { frames := 0, cells := 0, slots := 0, locals := 0 }
theorem in_X3_size_X3 : ∀ w ∈ wsX30, w ∈ wsX3_size := fun w h => List.mem_cons_of_mem _ (List.mem_append_right _ h)
set_option maxHeartbeats 4000000 in
set_option maxRecDepth 100000 in
theorem c_X3_size (l : Launch) (D : va_G) (cB cI cJ : ClassId) (N : Nat) (a_this : Nat) (a_counties : Nat) (a_states : Nat) (v_size : Int32) {r : Int32} (hf : f_X3_size N v_size = some r) : MTi l yX3_size wsX3_size rm_X3_size D (wk_T cB cI cJ) [.ref a_this] (w_X3_size cB cI cJ a_this a_counties a_states v_size) (w_X3_size cB cI cJ a_this a_counties a_states v_size) r := by
  refine MTi.of (cc := cX3_size) (nL := 1) (rt := .int) (own := RX3) pn_X3 rfl rfl (Nat.le_of_ble_eq_true rfl) rfl ?_
  intro p e s m args below meth c A ls Q C hP hD hS hl hret
  obtain ⟨hx, hb, hml, hts, hown, hK, hN, hA, hlk⟩ := id C
  have hl : lv_has ls 1 [(0, .ref a_this)] := hl
  unfold f_X3_size at hf
  refine lv_aload_n hx hb dX3_size_0 rfl (lv_at hl 0 rfl) ?_
  refine va_get (D := D) (ci := 3) (v := .int v_size) (C := RX3) (T := TX3) (N := 3) hx hb hts in_X3_size_X3 hown hK hP 0 rfl rfl 2 (by decide) (hts (.fieldLink RX3 23 "HangingCards$Pile" "size" "I") (List.mem_of_getElem? (i := 1) rfl)) (fun _ h9 => h9) rfl dX3_size_1 ?_
  exact hret _ _ _ _ _ _ dX3_size_4 (wk_rt hf (fun z => z)) rfl hP hD hS
abbrev w_X3_countyOf (cB cI cJ : ClassId) (a_this : Nat) (a_counties : Nat) (a_states : Nat) (a_counties_cells : Nat) (v_size : Int32) (v_counties : Nat → Int32) : va_W := [(a_this, .inr (3, [.ref a_counties, .ref a_states, .int v_size])), (a_counties, .inr (6, [.ref a_counties_cells])), (a_counties_cells, .inl (cI, 40, .inl v_counties))]
theorem hd_X3_countyOf : yX3_countyOf.cls = RX3 ∧ yX3_countyOf.cls ≠ "java/lang/invoke/MethodHandle" ∧ yX3_countyOf.cls ≠ "java/lang/invoke/VarHandle" ∧ (parseMethodDescriptor yX3_countyOf.desc).map (fun d => d.parameters.length) = some 1 := by decide +kernel
abbrev rm_X3_countyOf : Room := { frames := 1, cells := 0, slots := 0, locals := 21 }
theorem in_X3_countyOf_X3 : ∀ w ∈ wsX30, w ∈ wsX3_countyOf := fun w h => List.mem_cons_of_mem _ (List.mem_append_left _ (List.mem_append_right _ h))
set_option maxHeartbeats 4000000 in
set_option maxRecDepth 100000 in
theorem c_X3_countyOf (l : Launch) (D : va_G) (cB cI cJ : ClassId) (N : Nat) (a_this : Nat) (a_counties : Nat) (a_states : Nat) (a_counties_cells : Nat) (v_size : Int32) (v_counties : Nat → Int32) (x1 : Int32) {r : Int32} (hf : f_X3_countyOf N v_counties x1 = some r) : MTi l yX3_countyOf wsX3_countyOf rm_X3_countyOf D (wk_T cB cI cJ) [.ref a_this, .int x1] (w_X3_countyOf cB cI cJ a_this a_counties a_states a_counties_cells v_size v_counties) (w_X3_countyOf cB cI cJ a_this a_counties a_states a_counties_cells v_size v_counties) r := by
  refine MTi.of (cc := cX3_countyOf) (nL := 2) (rt := .int) (own := RX3) pn_X3 rfl rfl (Nat.le_of_ble_eq_true rfl) rfl ?_
  intro p e s m args below meth c A ls Q C hP hD hS hl hret
  obtain ⟨hx, hb, hml, hts, hown, hK, hN, hA, hlk⟩ := id C
  have hl : lv_has ls 2 [(0, .ref a_this), (1, .int x1)] := hl
  unfold f_X3_countyOf at hf
  refine lv_aload_n hx hb dX3_countyOf_0 rfl (lv_at hl 0 rfl) ?_
  refine va_get (D := D) (ci := 3) (v := .ref a_counties) (C := RX3) (T := TX3) (N := 3) hx hb hts in_X3_countyOf_X3 hown hK hP 0 rfl rfl 0 (by decide) (hts (.fieldLink RX3 14 "HangingCards$Pile" "counties" "LHangingCards$Row;") (List.mem_of_getElem? (i := 1) rfl)) (fun _ h9 => h9) rfl dX3_countyOf_1 ?_
  refine lv_iload_n hx hb dX3_countyOf_4 rfl (lv_at hl 1 rfl) ?_
  obtain ⟨r1, hc1, hf⟩ := wk_b1E hf
  refine wk_callVi2 C hP hD hS (c_X6_get l D cB cI cJ N a_counties a_counties_cells 40 v_counties x1 hc1) (cwV 1 hts gX3_countyOf_X6_get rfl rfl rfl hd_X6_get ⟨Nat.le_of_ble_eq_true rfl, Nat.le_of_ble_eq_true rfl⟩) hl.1 ⟨Nat.zero_le _, Nat.zero_le _⟩ [1, 2] [0] 3 (by decide +kernel) rfl (Wn := w_X3_countyOf cB cI cJ a_this a_counties a_states a_counties_cells v_size v_counties) rfl rfl rfl rfl rfl rfl (ci := 6) rfl rfl (q0 := 1) rfl rfl rfl (Nat.le_of_ble_eq_true rfl) dX3_countyOf_5 (fun H locs hP hD hS => ?_)
  exact hret _ _ _ _ _ _ dX3_countyOf_8 (wk_rt hf (fun z => z)) rfl hP hD hS
abbrev w_X3_dimplesOf (cB cI cJ : ClassId) (a_this : Nat) (a_counties : Nat) (a_states : Nat) (a_states_cells : Nat) (v_size : Int32) (v_states : Nat → Int32) : va_W := [(a_this, .inr (3, [.ref a_counties, .ref a_states, .int v_size])), (a_states, .inr (6, [.ref a_states_cells])), (a_states_cells, .inl (cI, 480, .inl v_states))]
theorem hd_X3_dimplesOf : yX3_dimplesOf.cls = RX3 ∧ yX3_dimplesOf.cls ≠ "java/lang/invoke/MethodHandle" ∧ yX3_dimplesOf.cls ≠ "java/lang/invoke/VarHandle" ∧ (parseMethodDescriptor yX3_dimplesOf.desc).map (fun d => d.parameters.length) = some 1 := by decide +kernel
abbrev rm_X3_dimplesOf : Room := { frames := 1, cells := 0, slots := 0, locals := 21 }
theorem in_X3_dimplesOf_X3 : ∀ w ∈ wsX30, w ∈ wsX3_dimplesOf := fun w h => List.mem_cons_of_mem _ (List.mem_append_left _ (List.mem_append_right _ h))
set_option maxHeartbeats 4000000 in
set_option maxRecDepth 100000 in
theorem c_X3_dimplesOf (l : Launch) (D : va_G) (cB cI cJ : ClassId) (N : Nat) (a_this : Nat) (a_counties : Nat) (a_states : Nat) (a_states_cells : Nat) (v_size : Int32) (v_states : Nat → Int32) (x1 : Int32) {r : Int32} (hf : f_X3_dimplesOf N v_states x1 = some r) : MTi l yX3_dimplesOf wsX3_dimplesOf rm_X3_dimplesOf D (wk_T cB cI cJ) [.ref a_this, .int x1] (w_X3_dimplesOf cB cI cJ a_this a_counties a_states a_states_cells v_size v_states) (w_X3_dimplesOf cB cI cJ a_this a_counties a_states a_states_cells v_size v_states) r := by
  refine MTi.of (cc := cX3_dimplesOf) (nL := 4) (rt := .int) (own := RX3) pn_X3 rfl rfl (Nat.le_of_ble_eq_true rfl) rfl ?_
  intro p e s m args below meth c A ls Q C hP hD hS hl hret
  obtain ⟨hx, hb, hml, hts, hown, hK, hN, hA, hlk⟩ := id C
  have hl : lv_has ls 4 [(0, .ref a_this), (1, .int x1)] := hl
  have L7 := wk_loopI (F := (fun k7 : Int32 → Int32 → Int32 → Option Int32 => B_X3_dimplesOf_7 N v_states k7)) (bot := fun _ _ _ => none) (fun k7 : Int32 → Int32 → Int32 → Option Int32 => ∀ (x1 : Int32) (x2 : Int32) (x3 : Int32), k7 x1 x2 x3 = some r → ∀ (H : Heap) (locs : List Loc) (ls : Array Slot), va_P D vwCl (w_X3_dimplesOf cB cI cJ a_this a_counties a_states a_states_cells v_size v_states) H → va_D A (w_X3_dimplesOf cB cI cJ a_this a_counties a_states a_states_cells v_size v_states) → va_S A s.heap H locs → lv_has ls 4 [(0, .ref a_this), (1, .int x1), (2, .int x2), (3, .int x3)] → W p l e rm_X3_dimplesOf s m args below meth c H locs 0 0 Q (F0 m 7 ls [])) (by intro x1 x2 x3 hf; exact wk_no hf) (by
    intro k7 ih7
    intro x1 x2 x3 hf H locs ls hP hD hS hl
    have hf : B_X3_dimplesOf_7 N v_states k7 x1 x2 x3 = some r := hf
    unfold B_X3_dimplesOf_7 at hf
    refine lv_iload_n hx hb dX3_dimplesOf_7 rfl (lv_at hl 3 rfl) ?_
    refine lv_iload_n hx hb dX3_dimplesOf_8 rfl (lv_at hl 1 rfl) ?_
    refine lv_iconst (v := (1 : Int32)) hx hb dX3_dimplesOf_9 (by decide) ?_
    refine lv_iadd hx hb dX3_dimplesOf_10 ?_
    refine lv_bipush (v := (12 : Int32)) hx hb dX3_dimplesOf_11 (by decide) ?_
    refine lv_imul hx hb dX3_dimplesOf_13 ?_
    refine lv_icmp_ge (tgt := 38) hx hb dX3_dimplesOf_14 (by decide) (fun c1 => ?_) (fun c1 => ?_)
    · have hf := wk_itT hf c1
      refine lv_iload_n hx hb dX3_dimplesOf_38 rfl (lv_at hl 2 rfl) ?_
      exact hret _ _ _ _ _ _ dX3_dimplesOf_39 (wk_rt hf (fun z => z)) rfl hP hD hS
    · have hf := wk_itF hf c1
      refine lv_aload_n hx hb dX3_dimplesOf_17 rfl (lv_at hl 0 rfl) ?_
      refine va_get (D := D) (ci := 3) (v := .ref a_states) (C := RX3) (T := TX3) (N := 3) hx hb hts in_X3_dimplesOf_X3 hown hK hP 0 rfl rfl 1 (by decide) (hts (.fieldLink RX3 20 "HangingCards$Pile" "states" "LHangingCards$Row;") (List.mem_of_getElem? (i := 1) rfl)) (fun _ h9 => h9) rfl dX3_dimplesOf_18 ?_
      refine lv_iload_n hx hb dX3_dimplesOf_21 rfl (lv_at hl 3 rfl) ?_
      obtain ⟨r2, hc2, hf⟩ := wk_b1E hf
      refine wk_callVi2 C hP hD hS (c_X6_get l D cB cI cJ N a_states a_states_cells 480 v_states x3 hc2) (cwV 1 hts gX3_dimplesOf_X6_get rfl rfl rfl hd_X6_get ⟨Nat.le_of_ble_eq_true rfl, Nat.le_of_ble_eq_true rfl⟩) hl.1 ⟨Nat.zero_le _, Nat.zero_le _⟩ [1, 2] [0] 3 (by decide +kernel) rfl (Wn := w_X3_dimplesOf cB cI cJ a_this a_counties a_states a_states_cells v_size v_states) rfl rfl rfl rfl rfl rfl (ci := 6) rfl rfl (q0 := 1) rfl rfl rfl (Nat.le_of_ble_eq_true rfl) dX3_dimplesOf_22 (fun H locs hP hD hS => ?_)
      refine lv_iconst (v := (1 : Int32)) hx hb dX3_dimplesOf_25 (by decide) ?_
      refine lv_icmp_ne (tgt := 32) hx hb dX3_dimplesOf_26 (by decide) (fun c3 => ?_) (fun c3 => ?_)
      · have hf := wk_itF hf c3
        obtain ⟨y4, ey4⟩ : ∃ y : Int32, y = x3 + (1 : Int32) := ⟨_, rfl⟩
        have hf := wk_nmE hf ey4
        refine lv_iinc (v := y4) (lv' := [(3, .int y4), (0, .ref a_this), (1, .int x1), (2, .int x2)]) hx hb dX3_dimplesOf_32 hl (k := 3) rfl (by rw [ey4]; rfl) (by decide) rfl (fun ls hl => ?_)
        refine lv_goto (tgt := 7) hx hb dX3_dimplesOf_35 (by decide) ?_
        exact ih7 _ _ _ hf _ _ _ hP hD hS (lv_sub hl [1, 2, 3, 0] rfl)
      · have hf := wk_itT hf c3
        obtain ⟨y5, ey5⟩ : ∃ y : Int32, y = x2 + (1 : Int32) := ⟨_, rfl⟩
        have hf := wk_nmE hf ey5
        refine lv_iinc (v := y5) (lv' := [(2, .int y5), (0, .ref a_this), (1, .int x1), (3, .int x3)]) hx hb dX3_dimplesOf_29 hl (k := 2) rfl (by rw [ey5]; rfl) (by decide) rfl (fun ls hl => ?_)
        obtain ⟨y6, ey6⟩ : ∃ y : Int32, y = x3 + (1 : Int32) := ⟨_, rfl⟩
        have hf := wk_nmE hf ey6
        refine lv_iinc (v := y6) (lv' := [(3, .int y6), (2, .int y5), (0, .ref a_this), (1, .int x1)]) hx hb dX3_dimplesOf_32 hl (k := 3) rfl (by rw [ey6]; rfl) (by decide) rfl (fun ls hl => ?_)
        refine lv_goto (tgt := 7) hx hb dX3_dimplesOf_35 (by decide) ?_
        exact ih7 _ _ _ hf _ _ _ hP hD hS (lv_sub hl [2, 3, 1, 0] rfl))
  unfold f_X3_dimplesOf at hf
  refine lv_iconst (v := (0 : Int32)) hx hb dX3_dimplesOf_0 (by decide) ?_
  refine lv_istore_n (lv' := [(2, .int (0 : Int32)), (0, .ref a_this), (1, .int x1)]) hx hb dX3_dimplesOf_1 rfl hl (by decide) rfl (fun ls hl => ?_)
  refine lv_iload_n hx hb dX3_dimplesOf_2 rfl (lv_at hl 2 rfl) ?_
  refine lv_bipush (v := (12 : Int32)) hx hb dX3_dimplesOf_3 (by decide) ?_
  refine lv_imul hx hb dX3_dimplesOf_5 ?_
  refine lv_topi (fun y7 ey7 => ?_)
  have hf := wk_nmE hf ey7
  refine lv_istore_n (lv' := [(3, .int y7), (2, .int (0 : Int32)), (0, .ref a_this), (1, .int x1)]) hx hb dX3_dimplesOf_6 rfl hl (by decide) rfl (fun ls hl => ?_)
  exact L7 N _ _ _ hf _ _ _ hP hD hS (lv_sub hl [2, 3, 1, 0] rfl)
abbrev w_X3_state (cB cI cJ : ClassId) (a_this : Nat) (a_counties : Nat) (a_states : Nat) (a_states_cells : Nat) (v_size : Int32) (v_states : Nat → Int32) : va_W := [(a_this, .inr (3, [.ref a_counties, .ref a_states, .int v_size])), (a_states, .inr (6, [.ref a_states_cells])), (a_states_cells, .inl (cI, 480, .inl v_states))]
theorem hd_X3_state : yX3_state.cls = RX3 ∧ yX3_state.cls ≠ "java/lang/invoke/MethodHandle" ∧ yX3_state.cls ≠ "java/lang/invoke/VarHandle" ∧ (parseMethodDescriptor yX3_state.desc).map (fun d => d.parameters.length) = some 3 := by decide +kernel
abbrev rm_X3_state : Room := { frames := 1, cells := 0, slots := 0, locals := 21 }
theorem in_X3_state_X3 : ∀ w ∈ wsX30, w ∈ wsX3_state := fun w h => List.mem_cons_of_mem _ (List.mem_append_left _ (List.mem_append_right _ h))
set_option maxHeartbeats 4000000 in
set_option maxRecDepth 100000 in
theorem c_X3_state (l : Launch) (D : va_G) (cB cI cJ : ClassId) (N : Nat) (a_this : Nat) (a_counties : Nat) (a_states : Nat) (a_states_cells : Nat) (v_size : Int32) (v_states : Nat → Int32) (x1 : Int32) (x2 : Int32) (x3 : Int32) {r : Int32} (hf : f_X3_state N v_states x1 x2 x3 = some r) : MTi l yX3_state wsX3_state rm_X3_state D (wk_T cB cI cJ) [.ref a_this, .int x1, .int x2, .int x3] (w_X3_state cB cI cJ a_this a_counties a_states a_states_cells v_size v_states) (w_X3_state cB cI cJ a_this a_counties a_states a_states_cells v_size v_states) r := by
  refine MTi.of (cc := cX3_state) (nL := 4) (rt := .int) (own := RX3) pn_X3 rfl rfl (Nat.le_of_ble_eq_true rfl) rfl ?_
  intro p e s m args below meth c A ls Q C hP hD hS hl hret
  obtain ⟨hx, hb, hml, hts, hown, hK, hN, hA, hlk⟩ := id C
  have hl : lv_has ls 4 [(0, .ref a_this), (1, .int x1), (2, .int x2), (3, .int x3)] := hl
  unfold f_X3_state at hf
  refine lv_aload_n hx hb dX3_state_0 rfl (lv_at hl 0 rfl) ?_
  refine va_get (D := D) (ci := 3) (v := .ref a_states) (C := RX3) (T := TX3) (N := 3) hx hb hts in_X3_state_X3 hown hK hP 0 rfl rfl 1 (by decide) (hts (.fieldLink RX3 20 "HangingCards$Pile" "states" "LHangingCards$Row;") (List.mem_of_getElem? (i := 1) rfl)) (fun _ h9 => h9) rfl dX3_state_1 ?_
  refine lv_iload_n hx hb dX3_state_4 rfl (lv_at hl 1 rfl) ?_
  refine lv_bipush (v := (12 : Int32)) hx hb dX3_state_5 (by decide) ?_
  refine lv_imul hx hb dX3_state_7 ?_
  refine lv_iload_n hx hb dX3_state_8 rfl (lv_at hl 2 rfl) ?_
  refine lv_iconst (v := (4 : Int32)) hx hb dX3_state_9 (by decide) ?_
  refine lv_imul hx hb dX3_state_10 ?_
  refine lv_iadd hx hb dX3_state_11 ?_
  refine lv_iload_n hx hb dX3_state_12 rfl (lv_at hl 3 rfl) ?_
  refine lv_iadd hx hb dX3_state_13 ?_
  obtain ⟨r1, hc1, hf⟩ := wk_b1E hf
  refine wk_callVi2 C hP hD hS (c_X6_get l D cB cI cJ N a_states a_states_cells 480 v_states (((x1 * (12 : Int32)) + (x2 * (4 : Int32))) + x3) hc1) (cwV 1 hts gX3_state_X6_get rfl rfl rfl hd_X6_get ⟨Nat.le_of_ble_eq_true rfl, Nat.le_of_ble_eq_true rfl⟩) hl.1 ⟨Nat.zero_le _, Nat.zero_le _⟩ [1, 2] [0] 3 (by decide +kernel) rfl (Wn := w_X3_state cB cI cJ a_this a_counties a_states a_states_cells v_size v_states) rfl rfl rfl rfl rfl rfl (ci := 6) rfl rfl (q0 := 1) rfl rfl rfl (Nat.le_of_ble_eq_true rfl) dX3_state_14 (fun H locs hP hD hS => ?_)
  exact hret _ _ _ _ _ _ dX3_state_17 (wk_rt hf (fun z => z)) rfl hP hD hS
abbrev w_X3_has (cB cI cJ : ClassId) (a_this : Nat) (a_counties : Nat) (a_states : Nat) (v_size : Int32) : va_W := [(a_this, .inr (3, [.ref a_counties, .ref a_states, .int v_size]))]
theorem hd_X3_has : yX3_has.cls = RX3 ∧ yX3_has.cls ≠ "java/lang/invoke/MethodHandle" ∧ yX3_has.cls ≠ "java/lang/invoke/VarHandle" ∧ (parseMethodDescriptor yX3_has.desc).map (fun d => d.parameters.length) = some 1 := by decide +kernel
abbrev rm_X3_has : Room := { frames := 0, cells := 0, slots := 0, locals := 0 }
theorem in_X3_has_X3 : ∀ w ∈ wsX30, w ∈ wsX3_has := fun w h => List.mem_cons_of_mem _ (List.mem_append_right _ h)
set_option maxHeartbeats 4000000 in
set_option maxRecDepth 100000 in
theorem c_X3_has (l : Launch) (D : va_G) (cB cI cJ : ClassId) (N : Nat) (a_this : Nat) (a_counties : Nat) (a_states : Nat) (v_size : Int32) (x1 : Int32) {r : Bool} (hf : f_X3_has N v_size x1 = some r) : MTi l yX3_has wsX3_has rm_X3_has D (wk_T cB cI cJ) [.ref a_this, .int x1] (w_X3_has cB cI cJ a_this a_counties a_states v_size) (w_X3_has cB cI cJ a_this a_counties a_states v_size) (wk_bI r) := by
  refine MTi.of (cc := cX3_has) (nL := 2) (rt := .boolean) (own := RX3) pn_X3 rfl rfl (Nat.le_of_ble_eq_true rfl) (wk_nz r) ?_
  intro p e s m args below meth c A ls Q C hP hD hS hl hret
  obtain ⟨hx, hb, hml, hts, hown, hK, hN, hA, hlk⟩ := id C
  have hl : lv_has ls 2 [(0, .ref a_this), (1, .int x1)] := hl
  unfold f_X3_has at hf
  refine lv_iload_n hx hb dX3_has_0 rfl (lv_at hl 1 rfl) ?_
  refine lv_if_lt (tgt := 16) hx hb dX3_has_1 (by decide) (fun c1 => ?_) (fun c1 => ?_)
  · have hf := wk_itT hf c1
    refine lv_iconst (v := (0 : Int32)) hx hb dX3_has_16 (by decide) ?_
    exact hret _ _ _ _ _ _ dX3_has_17 (wk_rt hf (fun z => wk_bI z)) rfl hP hD hS
  · have hf := wk_itF hf c1
    refine lv_iload_n hx hb dX3_has_4 rfl (lv_at hl 1 rfl) ?_
    refine lv_aload_n hx hb dX3_has_5 rfl (lv_at hl 0 rfl) ?_
    refine va_get (D := D) (ci := 3) (v := .int v_size) (C := RX3) (T := TX3) (N := 3) hx hb hts in_X3_has_X3 hown hK hP 0 rfl rfl 2 (by decide) (hts (.fieldLink RX3 23 "HangingCards$Pile" "size" "I") (List.mem_of_getElem? (i := 1) rfl)) (fun _ h9 => h9) rfl dX3_has_6 ?_
    refine lv_icmp_ge (tgt := 16) hx hb dX3_has_9 (by decide) (fun c2 => ?_) (fun c2 => ?_)
    · have hf := wk_itT hf c2
      refine lv_iconst (v := (0 : Int32)) hx hb dX3_has_16 (by decide) ?_
      exact hret _ _ _ _ _ _ dX3_has_17 (wk_rt hf (fun z => wk_bI z)) rfl hP hD hS
    · have hf := wk_itF hf c2
      refine lv_iconst (v := (1 : Int32)) hx hb dX3_has_12 (by decide) ?_
      refine lv_goto (tgt := 17) hx hb dX3_has_13 (by decide) ?_
      exact hret _ _ _ _ _ _ dX3_has_17 (wk_rt hf (fun z => wk_bI z)) rfl hP hD hS
abbrev w_X3_add (cB cI cJ : ClassId) (a_this : Nat) (a_counties : Nat) (a_states : Nat) (a_counties_cells : Nat) (a_states_cells : Nat) (v_size : Int32) (v_counties : Nat → Int32) (v_states : Nat → Int32) : va_W := [(a_this, .inr (3, [.ref a_counties, .ref a_states, .int v_size])), (a_counties, .inr (6, [.ref a_counties_cells])), (a_counties_cells, .inl (cI, 40, .inl v_counties)), (a_states, .inr (6, [.ref a_states_cells])), (a_states_cells, .inl (cI, 480, .inl v_states))]
theorem hd_X3_add : yX3_add.cls = RX3 ∧ yX3_add.cls ≠ "java/lang/invoke/MethodHandle" ∧ yX3_add.cls ≠ "java/lang/invoke/VarHandle" ∧ (parseMethodDescriptor yX3_add.desc).map (fun d => d.parameters.length) = some 2 := by decide +kernel
abbrev rm_X3_add : Room := { frames := 1, cells := 0, slots := 0, locals := 22 }
theorem in_X3_add_X3 : ∀ w ∈ wsX30, w ∈ wsX3_add := fun w h => List.mem_cons_of_mem _ (List.mem_append_left _ (List.mem_append_right _ h))
set_option maxHeartbeats 4000000 in
set_option maxRecDepth 100000 in
theorem c_X3_add (l : Launch) (D : va_G) (cB cI cJ : ClassId) (N : Nat) (a_this : Nat) (a_counties : Nat) (a_states : Nat) (a_counties_cells : Nat) (a_states_cells : Nat) (v_size : Int32) (v_counties : Nat → Int32) (v_states : Nat → Int32) (x1 : Int32) (x2 : Int64) {r : Int32} {o_size : Int32} {o_counties : Nat → Int32} {o_states : Nat → Int32} (hf : f_X3_add N v_size v_counties v_states x1 x2 = some (r, o_size, o_counties, o_states)) : MTi l yX3_add wsX3_add rm_X3_add D (wk_T cB cI cJ) [.ref a_this, .int x1, .long x2] (w_X3_add cB cI cJ a_this a_counties a_states a_counties_cells a_states_cells v_size v_counties v_states) (w_X3_add cB cI cJ a_this a_counties a_states a_counties_cells a_states_cells o_size o_counties o_states) r := by
  refine MTi.of (cc := cX3_add) (nL := 7) (rt := .int) (own := RX3) pn_X3 rfl rfl (Nat.le_of_ble_eq_true rfl) rfl ?_
  intro p e s m args below meth c A ls Q C hP hD hS hl hret
  obtain ⟨hx, hb, hml, hts, hown, hK, hN, hA, hlk⟩ := id C
  have hl : lv_has ls 7 [(0, .ref a_this), (1, .int x1), (2, .long x2)] := hl
  have L19 := wk_loopI (F := (fun k19 : Int32 → (Nat → Int32) → (Nat → Int32) → Int32 → Int64 → Int32 → Option (Int32 × Int32 × (Nat → Int32) × (Nat → Int32)) => B_X3_add_19 N k19)) (bot := fun _ _ _ _ _ _ => none) (fun k19 : Int32 → (Nat → Int32) → (Nat → Int32) → Int32 → Int64 → Int32 → Option (Int32 × Int32 × (Nat → Int32) × (Nat → Int32)) => ∀ (v_size : Int32) (v_counties : Nat → Int32) (v_states : Nat → Int32) (x1 : Int32) (x4 : Int64) (x6 : Int32), k19 v_size v_counties v_states x1 x4 x6 = some (r, o_size, o_counties, o_states) → ∀ (H : Heap) (locs : List Loc) (ls : Array Slot), va_P D vwCl (w_X3_add cB cI cJ a_this a_counties a_states a_counties_cells a_states_cells v_size v_counties v_states) H → va_D A (w_X3_add cB cI cJ a_this a_counties a_states a_counties_cells a_states_cells v_size v_counties v_states) → va_S A s.heap H locs → lv_has ls 7 [(0, .ref a_this), (1, .int x1), (4, .long x4), (6, .int x6)] → W p l e rm_X3_add s m args below meth c H locs 0 0 Q (F0 m 19 ls [])) (by intro v_size v_counties v_states x1 x4 x6 hf; exact wk_no hf) (by
    intro k19 ih19
    intro v_size v_counties v_states x1 x4 x6 hf H locs ls hP hD hS hl
    have hf : B_X3_add_19 N k19 v_size v_counties v_states x1 x4 x6 = some (r, o_size, o_counties, o_states) := hf
    unfold B_X3_add_19 at hf
    refine lv_iload hx hb dX3_add_19 (lv_at hl 3 rfl) ?_
    refine lv_if_lt (tgt := 62) hx hb dX3_add_21 (by decide) (fun c1 => ?_) (fun c1 => ?_)
    · have hf := wk_itT hf c1
      refine lv_aload_n hx hb dX3_add_62 rfl (lv_at hl 0 rfl) ?_
      refine va_get (D := D) (ci := 3) (v := .ref a_counties) (C := RX3) (T := TX3) (N := 3) hx hb hts in_X3_add_X3 hown hK hP 0 rfl rfl 0 (by decide) (hts (.fieldLink RX3 14 "HangingCards$Pile" "counties" "LHangingCards$Row;") (List.mem_of_getElem? (i := 4) rfl)) (fun _ h9 => h9) rfl dX3_add_63 ?_
      refine lv_aload_n hx hb dX3_add_66 rfl (lv_at hl 0 rfl) ?_
      refine va_get (D := D) (ci := 3) (v := .int v_size) (C := RX3) (T := TX3) (N := 3) hx hb hts in_X3_add_X3 hown hK hP 0 rfl rfl 2 (by decide) (hts (.fieldLink RX3 23 "HangingCards$Pile" "size" "I") (List.mem_of_getElem? (i := 1) rfl)) (fun _ h9 => h9) rfl dX3_add_67 ?_
      refine lv_iload_n hx hb dX3_add_70 rfl (lv_at hl 1 rfl) ?_
      obtain ⟨o2_0, hc2, hf⟩ := wk_b1E hf
      refine wk_callVv2 C hP hD hS (c_X6_set l D cB cI cJ N a_counties a_counties_cells 40 v_counties v_size x1 hc2) (cwV 2 hts gX3_add_X6_set rfl rfl rfl hd_X6_set ⟨Nat.le_of_ble_eq_true rfl, Nat.le_of_ble_eq_true rfl⟩) hl.1 ⟨Nat.zero_le _, Nat.zero_le _⟩ [1, 2] [0, 3, 4] 5 (by decide +kernel) rfl (Wn := w_X3_add cB cI cJ a_this a_counties a_states a_counties_cells a_states_cells v_size o2_0 v_states) rfl rfl rfl rfl rfl rfl (ci := 6) rfl rfl (q0 := 1) rfl rfl rfl (Nat.le_of_ble_eq_true rfl) dX3_add_71 (fun H locs hP hD hS => ?_)
      refine lv_aload_n hx hb dX3_add_74 rfl (lv_at hl 0 rfl) ?_
      refine lv_dup hx hb dX3_add_75 rfl ?_
      refine va_get (D := D) (ci := 3) (v := .int v_size) (C := RX3) (T := TX3) (N := 3) hx hb hts in_X3_add_X3 hown hK hP 0 rfl rfl 2 (by decide) (hts (.fieldLink RX3 23 "HangingCards$Pile" "size" "I") (List.mem_of_getElem? (i := 1) rfl)) (fun _ h9 => h9) rfl dX3_add_76 ?_
      refine lv_iconst (v := (1 : Int32)) hx hb dX3_add_79 (by decide) ?_
      refine lv_iadd hx hb dX3_add_80 ?_
      refine va_put (D := D) (ci := 3) (v := .int (v_size + (1 : Int32))) (ty := .int) (C := RX3) (T := TX3) (N := 3) hx hb hts in_X3_add_X3 tyX3 tyX3_ok nmX3 hown hK hP hD hS 0 rfl rfl 2 (by decide) (hts (.fieldLink RX3 23 "HangingCards$Pile" "size" "I") (List.mem_of_getElem? (i := 1) rfl)) (fun _ h9 => h9) rfl (by decide +kernel) rfl rfl (Nat.le_of_ble_eq_true rfl) dX3_add_81 (fun H locs hP hD hS => ?_)
      have hP : va_P D vwCl (w_X3_add cB cI cJ a_this a_counties a_states a_counties_cells a_states_cells (v_size + (1 : Int32)) o2_0 v_states) H := hP
      have hD : va_D A (w_X3_add cB cI cJ a_this a_counties a_states a_counties_cells a_states_cells (v_size + (1 : Int32)) o2_0 v_states) := hD
      refine lv_aload_n hx hb dX3_add_84 rfl (lv_at hl 0 rfl) ?_
      refine va_get (D := D) (ci := 3) (v := .int (v_size + (1 : Int32))) (C := RX3) (T := TX3) (N := 3) hx hb hts in_X3_add_X3 hown hK hP 0 rfl rfl 2 (by decide) (hts (.fieldLink RX3 23 "HangingCards$Pile" "size" "I") (List.mem_of_getElem? (i := 1) rfl)) (fun _ h9 => h9) rfl dX3_add_85 ?_
      refine lv_iconst (v := (1 : Int32)) hx hb dX3_add_88 (by decide) ?_
      refine lv_isub hx hb dX3_add_89 ?_
      exact hret _ _ _ _ _ _ dX3_add_90 (wk_rt hf (fun z => z.1)) (wk_rt hf (fun z => w_X3_add cB cI cJ a_this a_counties a_states a_counties_cells a_states_cells (z.2.1) (z.2.2.1) (z.2.2.2))) hP hD hS
    · have hf := wk_itF hf c1
      refine lv_aload_n hx hb dX3_add_24 rfl (lv_at hl 0 rfl) ?_
      refine va_get (D := D) (ci := 3) (v := .ref a_states) (C := RX3) (T := TX3) (N := 3) hx hb hts in_X3_add_X3 hown hK hP 0 rfl rfl 1 (by decide) (hts (.fieldLink RX3 20 "HangingCards$Pile" "states" "LHangingCards$Row;") (List.mem_of_getElem? (i := 2) rfl)) (fun _ h9 => h9) rfl dX3_add_25 ?_
      refine lv_aload_n hx hb dX3_add_28 rfl (lv_at hl 0 rfl) ?_
      refine va_get (D := D) (ci := 3) (v := .int v_size) (C := RX3) (T := TX3) (N := 3) hx hb hts in_X3_add_X3 hown hK hP 0 rfl rfl 2 (by decide) (hts (.fieldLink RX3 23 "HangingCards$Pile" "size" "I") (List.mem_of_getElem? (i := 1) rfl)) (fun _ h9 => h9) rfl dX3_add_29 ?_
      refine lv_bipush (v := (12 : Int32)) hx hb dX3_add_32 (by decide) ?_
      refine lv_imul hx hb dX3_add_34 ?_
      refine lv_iload hx hb dX3_add_35 (lv_at hl 3 rfl) ?_
      refine lv_iadd hx hb dX3_add_37 ?_
      refine lv_lload hx hb dX3_add_38 (lv_at hl 2 rfl) ?_
      refine lv_ldc2 (v := (6 : Int64)) hx hb hown (hts (.constantLong RX3 31 (6)) (List.mem_of_getElem? (i := 3) rfl)) dX3_add_40 ?_
      obtain ⟨hz3, hf⟩ := wk_dvlE hf
      refine lv_lrem hx hb dX3_add_43 hz3 ?_
      refine lv_l2i (v := ((x4 - x4 / (6 : Int64) * (6 : Int64)).toInt32)) hx hb dX3_add_44 rfl ?_
      obtain ⟨o4_0, hc4, hf⟩ := wk_b1E hf
      refine wk_callVv2 C hP hD hS (c_X6_set l D cB cI cJ N a_states a_states_cells 480 v_states ((v_size * (12 : Int32)) + x6) ((x4 - x4 / (6 : Int64) * (6 : Int64)).toInt32) hc4) (cwV 2 hts gX3_add_X6_set rfl rfl rfl hd_X6_set ⟨Nat.le_of_ble_eq_true rfl, Nat.le_of_ble_eq_true rfl⟩) hl.1 ⟨Nat.zero_le _, Nat.zero_le _⟩ [3, 4] [0, 1, 2] 5 (by decide +kernel) rfl (Wn := w_X3_add cB cI cJ a_this a_counties a_states a_counties_cells a_states_cells v_size v_counties o4_0) rfl rfl rfl rfl rfl rfl (ci := 6) rfl rfl (q0 := 3) rfl rfl rfl (Nat.le_of_ble_eq_true rfl) dX3_add_45 (fun H locs hP hD hS => ?_)
      refine lv_lload hx hb dX3_add_48 (lv_at hl 2 rfl) ?_
      refine lv_ldc2 (v := (6 : Int64)) hx hb hown (hts (.constantLong RX3 31 (6)) (List.mem_of_getElem? (i := 3) rfl)) dX3_add_50 ?_
      obtain ⟨hz5, hf⟩ := wk_dvlE hf
      refine lv_ldiv hx hb dX3_add_53 hz5 ?_
      refine lv_topl (fun y6 ey6 => ?_)
      have hf := wk_nmE hf ey6
      refine lv_lstore (lv' := [(4, .long y6), (0, .ref a_this), (1, .int x1), (6, .int x6)]) hx hb dX3_add_54 hl (by decide) rfl (fun ls hl => ?_)
      obtain ⟨y7, ey7⟩ : ∃ y : Int32, y = x6 + (-1 : Int32) := ⟨_, rfl⟩
      have hf := wk_nmE hf ey7
      refine lv_iinc (v := y7) (lv' := [(6, .int y7), (4, .long y6), (0, .ref a_this), (1, .int x1)]) hx hb dX3_add_56 hl (k := 3) rfl (by rw [ey7]; rfl) (by decide) rfl (fun ls hl => ?_)
      refine lv_goto (tgt := 19) hx hb dX3_add_59 (by decide) ?_
      exact ih19 _ _ _ _ _ _ hf _ _ _ hP hD hS (lv_sub hl [2, 3, 1, 0] rfl))
  unfold f_X3_add at hf
  refine lv_aload_n hx hb dX3_add_0 rfl (lv_at hl 0 rfl) ?_
  refine va_get (D := D) (ci := 3) (v := .int v_size) (C := RX3) (T := TX3) (N := 3) hx hb hts in_X3_add_X3 hown hK hP 0 rfl rfl 2 (by decide) (hts (.fieldLink RX3 23 "HangingCards$Pile" "size" "I") (List.mem_of_getElem? (i := 1) rfl)) (fun _ h9 => h9) rfl dX3_add_1 ?_
  refine lv_bipush (v := (40 : Int32)) hx hb dX3_add_4 (by decide) ?_
  refine lv_icmp_lt (tgt := 12) hx hb dX3_add_6 (by decide) (fun c8 => ?_) (fun c8 => ?_)
  · have hf := wk_itT hf c8
    refine lv_lload_n hx hb dX3_add_12 rfl (lv_at hl 2 rfl) ?_
    refine lv_lstore (lv' := [(4, .long x2), (0, .ref a_this), (1, .int x1), (2, .long x2)]) hx hb dX3_add_13 hl (by decide) rfl (fun ls hl => ?_)
    refine lv_bipush (v := (11 : Int32)) hx hb dX3_add_15 (by decide) ?_
    refine lv_istore (lv' := [(6, .int (11 : Int32)), (4, .long x2), (0, .ref a_this), (1, .int x1), (2, .long x2)]) hx hb dX3_add_17 hl (by decide) rfl (fun ls hl => ?_)
    exact L19 N _ _ _ _ _ _ hf _ _ _ hP hD hS (lv_sub hl [2, 3, 1, 0] rfl)
  · have hf := wk_itF hf c8
    refine lv_bipush (v := (-3 : Int32)) hx hb dX3_add_9 (by decide) ?_
    exact hret _ _ _ _ _ _ dX3_add_11 (wk_rt hf (fun z => z.1)) (wk_rt hf (fun z => w_X3_add cB cI cJ a_this a_counties a_states a_counties_cells a_states_cells (z.2.1) (z.2.2.1) (z.2.2.2))) hP hD hS
abbrev w_X3_open (cB cI cJ : ClassId) (a_this : Nat) (a_counties : Nat) (a_states : Nat) (a_states_cells : Nat) (v_size : Int32) (v_states : Nat → Int32) : va_W := [(a_this, .inr (3, [.ref a_counties, .ref a_states, .int v_size])), (a_states, .inr (6, [.ref a_states_cells])), (a_states_cells, .inl (cI, 480, .inl v_states))]
theorem hd_X3_open : yX3_open.cls = RX3 ∧ yX3_open.cls ≠ "java/lang/invoke/MethodHandle" ∧ yX3_open.cls ≠ "java/lang/invoke/VarHandle" ∧ (parseMethodDescriptor yX3_open.desc).map (fun d => d.parameters.length) = some 2 := by decide +kernel
abbrev rm_X3_open : Room := { frames := 1, cells := 0, slots := 0, locals := 22 }
theorem in_X3_open_X3 : ∀ w ∈ wsX30, w ∈ wsX3_open := fun w h => List.mem_cons_of_mem _ (List.mem_append_left _ (List.mem_append_right _ h))
set_option maxHeartbeats 4000000 in
set_option maxRecDepth 100000 in
theorem c_X3_open (l : Launch) (D : va_G) (cB cI cJ : ClassId) (N : Nat) (a_this : Nat) (a_counties : Nat) (a_states : Nat) (a_states_cells : Nat) (v_size : Int32) (v_states : Nat → Int32) (x1 : Int32) (x2 : Int32) {r : Int32} {o_states : Nat → Int32} (hf : f_X3_open N v_states x1 x2 = some (r, o_states)) : MTi l yX3_open wsX3_open rm_X3_open D (wk_T cB cI cJ) [.ref a_this, .int x1, .int x2] (w_X3_open cB cI cJ a_this a_counties a_states a_states_cells v_size v_states) (w_X3_open cB cI cJ a_this a_counties a_states a_states_cells v_size o_states) r := by
  refine MTi.of (cc := cX3_open) (nL := 6) (rt := .int) (own := RX3) pn_X3 rfl rfl (Nat.le_of_ble_eq_true rfl) rfl ?_
  intro p e s m args below meth c A ls Q C hP hD hS hl hret
  obtain ⟨hx, hb, hml, hts, hown, hK, hN, hA, hlk⟩ := id C
  have hl : lv_has ls 6 [(0, .ref a_this), (1, .int x1), (2, .int x2)] := hl
  have L8 := wk_loopI (F := (fun k8 : (Nat → Int32) → Int32 → Int32 → Int32 → Int32 → Option (Int32 × (Nat → Int32)) => B_X3_open_8 N k8)) (bot := fun _ _ _ _ _ => none) (fun k8 : (Nat → Int32) → Int32 → Int32 → Int32 → Int32 → Option (Int32 × (Nat → Int32)) => ∀ (v_states : Nat → Int32) (x1 : Int32) (x2 : Int32) (x3 : Int32) (x4 : Int32), k8 v_states x1 x2 x3 x4 = some (r, o_states) → ∀ (H : Heap) (locs : List Loc) (ls : Array Slot), va_P D vwCl (w_X3_open cB cI cJ a_this a_counties a_states a_states_cells v_size v_states) H → va_D A (w_X3_open cB cI cJ a_this a_counties a_states a_states_cells v_size v_states) → va_S A s.heap H locs → lv_has ls 6 [(0, .ref a_this), (1, .int x1), (2, .int x2), (3, .int x3), (4, .int x4)] → W p l e rm_X3_open s m args below meth c H locs 0 0 Q (F0 m 8 ls [])) (by intro v_states x1 x2 x3 x4 hf; exact wk_no hf) (by
    intro k8 ih8
    intro v_states x1 x2 x3 x4 hf H locs ls hP hD hS hl
    have hf : B_X3_open_8 N k8 v_states x1 x2 x3 x4 = some (r, o_states) := hf
    unfold B_X3_open_8 at hf
    refine lv_iload hx hb dX3_open_8 (lv_at hl 4 rfl) ?_
    refine lv_iload_n hx hb dX3_open_10 rfl (lv_at hl 1 rfl) ?_
    refine lv_iconst (v := (1 : Int32)) hx hb dX3_open_11 (by decide) ?_
    refine lv_iadd hx hb dX3_open_12 ?_
    refine lv_bipush (v := (12 : Int32)) hx hb dX3_open_13 (by decide) ?_
    refine lv_imul hx hb dX3_open_15 ?_
    refine lv_icmp_ge (tgt := 70) hx hb dX3_open_16 (by decide) (fun c1 => ?_) (fun c1 => ?_)
    · have hf := wk_itT hf c1
      refine lv_iload_n hx hb dX3_open_70 rfl (lv_at hl 3 rfl) ?_
      exact hret _ _ _ _ _ _ dX3_open_71 (wk_rt hf (fun z => z.1)) (wk_rt hf (fun z => w_X3_open cB cI cJ a_this a_counties a_states a_states_cells v_size (z.2))) hP hD hS
    · have hf := wk_itF hf c1
      refine lv_aload_n hx hb dX3_open_19 rfl (lv_at hl 0 rfl) ?_
      refine va_get (D := D) (ci := 3) (v := .ref a_states) (C := RX3) (T := TX3) (N := 3) hx hb hts in_X3_open_X3 hown hK hP 0 rfl rfl 1 (by decide) (hts (.fieldLink RX3 20 "HangingCards$Pile" "states" "LHangingCards$Row;") (List.mem_of_getElem? (i := 1) rfl)) (fun _ h9 => h9) rfl dX3_open_20 ?_
      refine lv_iload hx hb dX3_open_23 (lv_at hl 4 rfl) ?_
      obtain ⟨r2, hc2, hf⟩ := wk_b1E hf
      refine wk_callVi2 C hP hD hS (c_X6_get l D cB cI cJ N a_states a_states_cells 480 v_states x4 hc2) (cwV 1 hts gX3_open_X6_get rfl rfl rfl hd_X6_get ⟨Nat.le_of_ble_eq_true rfl, Nat.le_of_ble_eq_true rfl⟩) hl.1 ⟨Nat.zero_le _, Nat.zero_le _⟩ [1, 2] [0] 3 (by decide +kernel) rfl (Wn := w_X3_open cB cI cJ a_this a_counties a_states a_states_cells v_size v_states) rfl rfl rfl rfl rfl rfl (ci := 6) rfl rfl (q0 := 1) rfl rfl rfl (Nat.le_of_ble_eq_true rfl) dX3_open_25 (fun H locs hP hD hS => ?_)
      refine lv_istore (lv' := [(5, .int r2), (0, .ref a_this), (1, .int x1), (2, .int x2), (3, .int x3), (4, .int x4)]) hx hb dX3_open_28 hl (by decide) rfl (fun ls hl => ?_)
      refine lv_iload hx hb dX3_open_30 (lv_at hl 0 rfl) ?_
      refine lv_iconst (v := (1 : Int32)) hx hb dX3_open_32 (by decide) ?_
      refine lv_iconst (v := (5 : Int32)) hx hb dX3_open_33 (by decide) ?_
      refine lv_iload_n hx hb dX3_open_34 rfl (lv_at hl 3 rfl) ?_
      refine lv_isub hx hb dX3_open_35 ?_
      refine va_mmax hx hb (hml.trans hl.1.symm) hown (hts (.methodLink RX3 37 Lib.Math.max.name) (List.mem_of_getElem? (i := 2) rfl)) (hts (.static Lib.Math.max.name) (List.mem_of_getElem? (i := 3) rfl)) (hts (.initialized "java/lang/Math") (List.mem_of_getElem? (i := 4) rfl)) (hts (.code Lib.Math.max.name Lib.Math.max.code 2 (some .int)) (List.mem_of_getElem? (i := 5) rfl)) (Nat.le_of_ble_eq_true rfl) (Nat.le_of_ble_eq_true rfl) (Nat.zero_le _) (Nat.zero_le _) dX3_open_36 ?_
      refine lv_icmp_lt (tgt := 64) hx hb dX3_open_39 (by decide) (fun c3 => ?_) (fun c3 => ?_)
      · have hf := wk_itT hf c3
        obtain ⟨y4, ey4⟩ : ∃ y : Int32, y = x4 + (1 : Int32) := ⟨_, rfl⟩
        have hf := wk_nmE hf ey4
        refine lv_iinc (v := y4) (lv' := [(4, .int y4), (5, .int r2), (0, .ref a_this), (1, .int x1), (2, .int x2), (3, .int x3)]) hx hb dX3_open_64 hl (k := 5) rfl (by rw [ey4]; rfl) (by decide) rfl (fun ls hl => ?_)
        refine lv_goto (tgt := 8) hx hb dX3_open_67 (by decide) ?_
        exact ih8 _ _ _ _ _ hf _ _ _ hP hD hS (lv_sub hl [2, 3, 4, 5, 0] rfl)
      · have hf := wk_itF hf c3
        refine lv_iload hx hb dX3_open_42 (lv_at hl 0 rfl) ?_
        refine lv_iconst (v := (5 : Int32)) hx hb dX3_open_44 (by decide) ?_
        refine lv_icmp_ge (tgt := 64) hx hb dX3_open_45 (by decide) (fun c5 => ?_) (fun c5 => ?_)
        · have hf := wk_itT hf c5
          obtain ⟨y6, ey6⟩ : ∃ y : Int32, y = x4 + (1 : Int32) := ⟨_, rfl⟩
          have hf := wk_nmE hf ey6
          refine lv_iinc (v := y6) (lv' := [(4, .int y6), (5, .int r2), (0, .ref a_this), (1, .int x1), (2, .int x2), (3, .int x3)]) hx hb dX3_open_64 hl (k := 5) rfl (by rw [ey6]; rfl) (by decide) rfl (fun ls hl => ?_)
          refine lv_goto (tgt := 8) hx hb dX3_open_67 (by decide) ?_
          exact ih8 _ _ _ _ _ hf _ _ _ hP hD hS (lv_sub hl [2, 3, 4, 5, 0] rfl)
        · have hf := wk_itF hf c5
          refine lv_aload_n hx hb dX3_open_48 rfl (lv_at hl 1 rfl) ?_
          refine va_get (D := D) (ci := 3) (v := .ref a_states) (C := RX3) (T := TX3) (N := 3) hx hb hts in_X3_open_X3 hown hK hP 0 rfl rfl 1 (by decide) (hts (.fieldLink RX3 20 "HangingCards$Pile" "states" "LHangingCards$Row;") (List.mem_of_getElem? (i := 1) rfl)) (fun _ h9 => h9) rfl dX3_open_49 ?_
          refine lv_iload hx hb dX3_open_52 (lv_at hl 5 rfl) ?_
          refine lv_iload hx hb dX3_open_54 (lv_at hl 0 rfl) ?_
          refine lv_iconst (v := (1 : Int32)) hx hb dX3_open_56 (by decide) ?_
          refine lv_iadd hx hb dX3_open_57 ?_
          obtain ⟨o7_0, hc7, hf⟩ := wk_b1E hf
          refine wk_callVv2 C hP hD hS (c_X6_set l D cB cI cJ N a_states a_states_cells 480 v_states x4 (r2 + (1 : Int32)) hc7) (cwV 2 hts gX3_open_X6_set rfl rfl rfl hd_X6_set ⟨Nat.le_of_ble_eq_true rfl, Nat.le_of_ble_eq_true rfl⟩) hl.1 ⟨Nat.zero_le _, Nat.zero_le _⟩ [1, 2] [0] 3 (by decide +kernel) rfl (Wn := w_X3_open cB cI cJ a_this a_counties a_states a_states_cells v_size o7_0) rfl rfl rfl rfl rfl rfl (ci := 6) rfl rfl (q0 := 1) rfl rfl rfl (Nat.le_of_ble_eq_true rfl) dX3_open_58 (fun H locs hP hD hS => ?_)
          obtain ⟨y8, ey8⟩ : ∃ y : Int32, y = x3 + (1 : Int32) := ⟨_, rfl⟩
          have hf := wk_nmE hf ey8
          refine lv_iinc (v := y8) (lv' := [(3, .int y8), (5, .int r2), (0, .ref a_this), (1, .int x1), (2, .int x2), (4, .int x4)]) hx hb dX3_open_61 hl (k := 4) rfl (by rw [ey8]; rfl) (by decide) rfl (fun ls hl => ?_)
          obtain ⟨y9, ey9⟩ : ∃ y : Int32, y = x4 + (1 : Int32) := ⟨_, rfl⟩
          have hf := wk_nmE hf ey9
          refine lv_iinc (v := y9) (lv' := [(4, .int y9), (3, .int y8), (5, .int r2), (0, .ref a_this), (1, .int x1), (2, .int x2)]) hx hb dX3_open_64 hl (k := 5) rfl (by rw [ey9]; rfl) (by decide) rfl (fun ls hl => ?_)
          refine lv_goto (tgt := 8) hx hb dX3_open_67 (by decide) ?_
          exact ih8 _ _ _ _ _ hf _ _ _ hP hD hS (lv_sub hl [3, 4, 5, 1, 0] rfl))
  unfold f_X3_open at hf
  refine lv_iconst (v := (0 : Int32)) hx hb dX3_open_0 (by decide) ?_
  refine lv_istore_n (lv' := [(3, .int (0 : Int32)), (0, .ref a_this), (1, .int x1), (2, .int x2)]) hx hb dX3_open_1 rfl hl (by decide) rfl (fun ls hl => ?_)
  refine lv_iload_n hx hb dX3_open_2 rfl (lv_at hl 2 rfl) ?_
  refine lv_bipush (v := (12 : Int32)) hx hb dX3_open_3 (by decide) ?_
  refine lv_imul hx hb dX3_open_5 ?_
  refine lv_topi (fun y10 ey10 => ?_)
  have hf := wk_nmE hf ey10
  refine lv_istore (lv' := [(4, .int y10), (3, .int (0 : Int32)), (0, .ref a_this), (1, .int x1), (2, .int x2)]) hx hb dX3_open_6 hl (by decide) rfl (fun ls hl => ?_)
  exact L8 N _ _ _ _ _ hf _ _ _ hP hD hS (lv_sub hl [2, 3, 4, 1, 0] rfl)
abbrev w_X3_notWhole (cB cI cJ : ClassId) (a_this : Nat) (a_counties : Nat) (a_states : Nat) (a_states_cells : Nat) (v_size : Int32) (v_states : Nat → Int32) : va_W := [(a_this, .inr (3, [.ref a_counties, .ref a_states, .int v_size])), (a_states, .inr (6, [.ref a_states_cells])), (a_states_cells, .inl (cI, 480, .inl v_states))]
theorem hd_X3_notWhole : yX3_notWhole.cls = RX3 ∧ yX3_notWhole.cls ≠ "java/lang/invoke/MethodHandle" ∧ yX3_notWhole.cls ≠ "java/lang/invoke/VarHandle" ∧ (parseMethodDescriptor yX3_notWhole.desc).map (fun d => d.parameters.length) = some 0 := by decide +kernel
abbrev rm_X3_notWhole : Room := { frames := 1, cells := 0, slots := 0, locals := 21 }
theorem in_X3_notWhole_X3 : ∀ w ∈ wsX30, w ∈ wsX3_notWhole := fun w h => List.mem_cons_of_mem _ (List.mem_append_left _ (List.mem_append_right _ h))
set_option maxHeartbeats 4000000 in
set_option maxRecDepth 100000 in
theorem c_X3_notWhole (l : Launch) (D : va_G) (cB cI cJ : ClassId) (N : Nat) (a_this : Nat) (a_counties : Nat) (a_states : Nat) (a_states_cells : Nat) (v_size : Int32) (v_states : Nat → Int32) {r : Int32} (hf : f_X3_notWhole N v_size v_states = some r) : MTi l yX3_notWhole wsX3_notWhole rm_X3_notWhole D (wk_T cB cI cJ) [.ref a_this] (w_X3_notWhole cB cI cJ a_this a_counties a_states a_states_cells v_size v_states) (w_X3_notWhole cB cI cJ a_this a_counties a_states a_states_cells v_size v_states) r := by
  refine MTi.of (cc := cX3_notWhole) (nL := 3) (rt := .int) (own := RX3) pn_X3 rfl rfl (Nat.le_of_ble_eq_true rfl) rfl ?_
  intro p e s m args below meth c A ls Q C hP hD hS hl hret
  obtain ⟨hx, hb, hml, hts, hown, hK, hN, hA, hlk⟩ := id C
  have hl : lv_has ls 3 [(0, .ref a_this)] := hl
  have L4 := wk_loopI (F := (fun k4 : Int32 → Int32 → Option Int32 => B_X3_notWhole_4 N v_size v_states k4)) (bot := fun _ _ => none) (fun k4 : Int32 → Int32 → Option Int32 => ∀ (x1 : Int32) (x2 : Int32), k4 x1 x2 = some r → ∀ (H : Heap) (locs : List Loc) (ls : Array Slot), va_P D vwCl (w_X3_notWhole cB cI cJ a_this a_counties a_states a_states_cells v_size v_states) H → va_D A (w_X3_notWhole cB cI cJ a_this a_counties a_states a_states_cells v_size v_states) → va_S A s.heap H locs → lv_has ls 3 [(0, .ref a_this), (1, .int x1), (2, .int x2)] → W p l e rm_X3_notWhole s m args below meth c H locs 0 0 Q (F0 m 4 ls [])) (by intro x1 x2 hf; exact wk_no hf) (by
    intro k4 ih4
    intro x1 x2 hf H locs ls hP hD hS hl
    have hf : B_X3_notWhole_4 N v_size v_states k4 x1 x2 = some r := hf
    unfold B_X3_notWhole_4 at hf
    refine lv_iload_n hx hb dX3_notWhole_4 rfl (lv_at hl 2 rfl) ?_
    refine lv_aload_n hx hb dX3_notWhole_5 rfl (lv_at hl 0 rfl) ?_
    refine va_get (D := D) (ci := 3) (v := .int v_size) (C := RX3) (T := TX3) (N := 3) hx hb hts in_X3_notWhole_X3 hown hK hP 0 rfl rfl 2 (by decide) (hts (.fieldLink RX3 23 "HangingCards$Pile" "size" "I") (List.mem_of_getElem? (i := 1) rfl)) (fun _ h9 => h9) rfl dX3_notWhole_6 ?_
    refine lv_bipush (v := (12 : Int32)) hx hb dX3_notWhole_9 (by decide) ?_
    refine lv_imul hx hb dX3_notWhole_11 ?_
    refine lv_icmp_ge (tgt := 35) hx hb dX3_notWhole_12 (by decide) (fun c1 => ?_) (fun c1 => ?_)
    · have hf := wk_itT hf c1
      refine lv_iload_n hx hb dX3_notWhole_35 rfl (lv_at hl 1 rfl) ?_
      exact hret _ _ _ _ _ _ dX3_notWhole_36 (wk_rt hf (fun z => z)) rfl hP hD hS
    · have hf := wk_itF hf c1
      refine lv_aload_n hx hb dX3_notWhole_15 rfl (lv_at hl 0 rfl) ?_
      refine va_get (D := D) (ci := 3) (v := .ref a_states) (C := RX3) (T := TX3) (N := 3) hx hb hts in_X3_notWhole_X3 hown hK hP 0 rfl rfl 1 (by decide) (hts (.fieldLink RX3 20 "HangingCards$Pile" "states" "LHangingCards$Row;") (List.mem_of_getElem? (i := 2) rfl)) (fun _ h9 => h9) rfl dX3_notWhole_16 ?_
      refine lv_iload_n hx hb dX3_notWhole_19 rfl (lv_at hl 2 rfl) ?_
      obtain ⟨r2, hc2, hf⟩ := wk_b1E hf
      refine wk_callVi2 C hP hD hS (c_X6_get l D cB cI cJ N a_states a_states_cells 480 v_states x2 hc2) (cwV 1 hts gX3_notWhole_X6_get rfl rfl rfl hd_X6_get ⟨Nat.le_of_ble_eq_true rfl, Nat.le_of_ble_eq_true rfl⟩) hl.1 ⟨Nat.zero_le _, Nat.zero_le _⟩ [1, 2] [0] 3 (by decide +kernel) rfl (Wn := w_X3_notWhole cB cI cJ a_this a_counties a_states a_states_cells v_size v_states) rfl rfl rfl rfl rfl rfl (ci := 6) rfl rfl (q0 := 1) rfl rfl rfl (Nat.le_of_ble_eq_true rfl) dX3_notWhole_20 (fun H locs hP hD hS => ?_)
      refine lv_if_le (tgt := 29) hx hb dX3_notWhole_23 (by decide) (fun c3 => ?_) (fun c3 => ?_)
      · have hf := wk_itT hf c3
        obtain ⟨y4, ey4⟩ : ∃ y : Int32, y = x2 + (1 : Int32) := ⟨_, rfl⟩
        have hf := wk_nmE hf ey4
        refine lv_iinc (v := y4) (lv' := [(2, .int y4), (0, .ref a_this), (1, .int x1)]) hx hb dX3_notWhole_29 hl (k := 2) rfl (by rw [ey4]; rfl) (by decide) rfl (fun ls hl => ?_)
        refine lv_goto (tgt := 4) hx hb dX3_notWhole_32 (by decide) ?_
        exact ih4 _ _ hf _ _ _ hP hD hS (lv_sub hl [1, 2, 0] rfl)
      · have hf := wk_itF hf c3
        obtain ⟨y5, ey5⟩ : ∃ y : Int32, y = x1 + (1 : Int32) := ⟨_, rfl⟩
        have hf := wk_nmE hf ey5
        refine lv_iinc (v := y5) (lv' := [(1, .int y5), (0, .ref a_this), (2, .int x2)]) hx hb dX3_notWhole_26 hl (k := 1) rfl (by rw [ey5]; rfl) (by decide) rfl (fun ls hl => ?_)
        obtain ⟨y6, ey6⟩ : ∃ y : Int32, y = x2 + (1 : Int32) := ⟨_, rfl⟩
        have hf := wk_nmE hf ey6
        refine lv_iinc (v := y6) (lv' := [(2, .int y6), (1, .int y5), (0, .ref a_this)]) hx hb dX3_notWhole_29 hl (k := 2) rfl (by rw [ey6]; rfl) (by decide) rfl (fun ls hl => ?_)
        refine lv_goto (tgt := 4) hx hb dX3_notWhole_32 (by decide) ?_
        exact ih4 _ _ hf _ _ _ hP hD hS (lv_sub hl [2, 1, 0] rfl))
  unfold f_X3_notWhole at hf
  refine lv_iconst (v := (0 : Int32)) hx hb dX3_notWhole_0 (by decide) ?_
  refine lv_istore_n (lv' := [(1, .int (0 : Int32)), (0, .ref a_this)]) hx hb dX3_notWhole_1 rfl hl (by decide) rfl (fun ls hl => ?_)
  refine lv_iconst (v := (0 : Int32)) hx hb dX3_notWhole_2 (by decide) ?_
  refine lv_istore_n (lv' := [(2, .int (0 : Int32)), (1, .int (0 : Int32)), (0, .ref a_this)]) hx hb dX3_notWhole_3 rfl hl (by decide) rfl (fun ls hl => ?_)
  exact L4 N _ _ hf _ _ _ hP hD hS (lv_sub hl [2, 1, 0] rfl)
abbrev w_X3_bitsFrom (cB cI cJ : ClassId) (a_this : Nat) (a_counties : Nat) (a_states : Nat) (a_states_cells : Nat) (v_size : Int32) (v_states : Nat → Int32) : va_W := [(a_this, .inr (3, [.ref a_counties, .ref a_states, .int v_size])), (a_states, .inr (6, [.ref a_states_cells])), (a_states_cells, .inl (cI, 480, .inl v_states))]
theorem hd_X3_bitsFrom : yX3_bitsFrom.cls = RX3 ∧ yX3_bitsFrom.cls ≠ "java/lang/invoke/MethodHandle" ∧ yX3_bitsFrom.cls ≠ "java/lang/invoke/VarHandle" ∧ (parseMethodDescriptor yX3_bitsFrom.desc).map (fun d => d.parameters.length) = some 3 := by decide +kernel
abbrev rm_X3_bitsFrom : Room := { frames := 2, cells := 0, slots := 0, locals := 44 }
set_option maxHeartbeats 4000000 in
set_option maxRecDepth 100000 in
theorem c_X3_bitsFrom (l : Launch) (D : va_G) (cB cI cJ : ClassId) (N : Nat) (a_this : Nat) (a_counties : Nat) (a_states : Nat) (a_states_cells : Nat) (v_size : Int32) (v_states : Nat → Int32) (x1 : Int32) (x2 : Int32) (x3 : Int32) {r : Int32} (hf : f_X3_bitsFrom N v_states x1 x2 x3 = some r) : MTi l yX3_bitsFrom wsX3_bitsFrom rm_X3_bitsFrom D (wk_T cB cI cJ) [.ref a_this, .int x1, .int x2, .int x3] (w_X3_bitsFrom cB cI cJ a_this a_counties a_states a_states_cells v_size v_states) (w_X3_bitsFrom cB cI cJ a_this a_counties a_states a_states_cells v_size v_states) r := by
  refine MTi.of (cc := cX3_bitsFrom) (nL := 6) (rt := .int) (own := RX3) pn_X3 rfl rfl (Nat.le_of_ble_eq_true rfl) rfl ?_
  intro p e s m args below meth c A ls Q C hP hD hS hl hret
  obtain ⟨hx, hb, hml, hts, hown, hK, hN, hA, hlk⟩ := id C
  have hl : lv_has ls 6 [(0, .ref a_this), (1, .int x1), (2, .int x2), (3, .int x3)] := hl
  have L6 := wk_loopI (F := (fun k6 : Int32 → Int32 → Int32 → Int32 → Int32 → Option Int32 => B_X3_bitsFrom_6 N v_states k6)) (bot := fun _ _ _ _ _ => none) (fun k6 : Int32 → Int32 → Int32 → Int32 → Int32 → Option Int32 => ∀ (x1 : Int32) (x2 : Int32) (x3 : Int32) (x4 : Int32) (x5 : Int32), k6 x1 x2 x3 x4 x5 = some r → ∀ (H : Heap) (locs : List Loc) (ls : Array Slot), va_P D vwCl (w_X3_bitsFrom cB cI cJ a_this a_counties a_states a_states_cells v_size v_states) H → va_D A (w_X3_bitsFrom cB cI cJ a_this a_counties a_states a_states_cells v_size v_states) → va_S A s.heap H locs → lv_has ls 6 [(0, .ref a_this), (1, .int x1), (2, .int x2), (3, .int x3), (4, .int x4), (5, .int x5)] → W p l e rm_X3_bitsFrom s m args below meth c H locs 0 0 Q (F0 m 6 ls [])) (by intro x1 x2 x3 x4 x5 hf; exact wk_no hf) (by
    intro k6 ih6
    intro x1 x2 x3 x4 x5 hf H locs ls hP hD hS hl
    have hf : B_X3_bitsFrom_6 N v_states k6 x1 x2 x3 x4 x5 = some r := hf
    unfold B_X3_bitsFrom_6 at hf
    refine lv_iload hx hb dX3_bitsFrom_6 (lv_at hl 5 rfl) ?_
    refine lv_iconst (v := (4 : Int32)) hx hb dX3_bitsFrom_8 (by decide) ?_
    refine lv_icmp_ge (tgt := 39) hx hb dX3_bitsFrom_9 (by decide) (fun c1 => ?_) (fun c1 => ?_)
    · have hf := wk_itT hf c1
      refine lv_iload hx hb dX3_bitsFrom_39 (lv_at hl 4 rfl) ?_
      exact hret _ _ _ _ _ _ dX3_bitsFrom_41 (wk_rt hf (fun z => z)) rfl hP hD hS
    · have hf := wk_itF hf c1
      refine lv_aload_n hx hb dX3_bitsFrom_12 rfl (lv_at hl 0 rfl) ?_
      refine lv_iload_n hx hb dX3_bitsFrom_13 rfl (lv_at hl 1 rfl) ?_
      refine lv_iload_n hx hb dX3_bitsFrom_14 rfl (lv_at hl 2 rfl) ?_
      refine lv_iload hx hb dX3_bitsFrom_15 (lv_at hl 5 rfl) ?_
      obtain ⟨r2, hc2, hf⟩ := wk_b1E hf
      refine wk_callVi2 C hP hD hS (c_X3_state l D cB cI cJ N a_this a_counties a_states a_states_cells v_size v_states x1 x2 x5 hc2) (cwV 3 hts gX3_bitsFrom_X3_state rfl rfl rfl hd_X3_state ⟨Nat.le_of_ble_eq_true rfl, Nat.le_of_ble_eq_true rfl⟩) hl.1 ⟨Nat.zero_le _, Nat.zero_le _⟩ [0, 1, 2] [] 3 (by decide +kernel) rfl (Wn := w_X3_bitsFrom cB cI cJ a_this a_counties a_states a_states_cells v_size v_states) rfl rfl rfl rfl rfl rfl (ci := 3) rfl rfl (q0 := 0) rfl rfl rfl (Nat.le_of_ble_eq_true rfl) dX3_bitsFrom_17 (fun H locs hP hD hS => ?_)
      refine lv_iload_n hx hb dX3_bitsFrom_20 rfl (lv_at hl 3 rfl) ?_
      refine lv_icmp_lt (tgt := 33) hx hb dX3_bitsFrom_21 (by decide) (fun c3 => ?_) (fun c3 => ?_)
      · have hf := wk_itT hf c3
        obtain ⟨y4, ey4⟩ : ∃ y : Int32, y = x5 + (1 : Int32) := ⟨_, rfl⟩
        have hf := wk_nmE hf ey4
        refine lv_iinc (v := y4) (lv' := [(5, .int y4), (0, .ref a_this), (1, .int x1), (2, .int x2), (3, .int x3), (4, .int x4)]) hx hb dX3_bitsFrom_33 hl (k := 5) rfl (by rw [ey4]; rfl) (by decide) rfl (fun ls hl => ?_)
        refine lv_goto (tgt := 6) hx hb dX3_bitsFrom_36 (by decide) ?_
        exact ih6 _ _ _ _ _ hf _ _ _ hP hD hS (lv_sub hl [1, 2, 3, 4, 5, 0] rfl)
      · have hf := wk_itF hf c3
        refine lv_iload hx hb dX3_bitsFrom_24 (lv_at hl 4 rfl) ?_
        refine lv_iconst (v := (1 : Int32)) hx hb dX3_bitsFrom_26 (by decide) ?_
        refine lv_iload hx hb dX3_bitsFrom_27 (lv_at hl 5 rfl) ?_
        refine lv_ishl hx hb dX3_bitsFrom_29 ?_
        refine lv_ior hx hb dX3_bitsFrom_30 ?_
        refine lv_topi (fun y5 ey5 => ?_)
        have hf := wk_nmE hf ey5
        refine lv_istore (lv' := [(4, .int y5), (0, .ref a_this), (1, .int x1), (2, .int x2), (3, .int x3), (5, .int x5)]) hx hb dX3_bitsFrom_31 hl (by decide) rfl (fun ls hl => ?_)
        obtain ⟨y6, ey6⟩ : ∃ y : Int32, y = x5 + (1 : Int32) := ⟨_, rfl⟩
        have hf := wk_nmE hf ey6
        refine lv_iinc (v := y6) (lv' := [(5, .int y6), (4, .int y5), (0, .ref a_this), (1, .int x1), (2, .int x2), (3, .int x3)]) hx hb dX3_bitsFrom_33 hl (k := 5) rfl (by rw [ey6]; rfl) (by decide) rfl (fun ls hl => ?_)
        refine lv_goto (tgt := 6) hx hb dX3_bitsFrom_36 (by decide) ?_
        exact ih6 _ _ _ _ _ hf _ _ _ hP hD hS (lv_sub hl [2, 3, 4, 5, 1, 0] rfl))
  unfold f_X3_bitsFrom at hf
  refine lv_iconst (v := (0 : Int32)) hx hb dX3_bitsFrom_0 (by decide) ?_
  refine lv_istore (lv' := [(4, .int (0 : Int32)), (0, .ref a_this), (1, .int x1), (2, .int x2), (3, .int x3)]) hx hb dX3_bitsFrom_1 hl (by decide) rfl (fun ls hl => ?_)
  refine lv_iconst (v := (0 : Int32)) hx hb dX3_bitsFrom_3 (by decide) ?_
  refine lv_istore (lv' := [(5, .int (0 : Int32)), (4, .int (0 : Int32)), (0, .ref a_this), (1, .int x1), (2, .int x2), (3, .int x3)]) hx hb dX3_bitsFrom_4 hl (by decide) rfl (fun ls hl => ?_)
  exact L6 N _ _ _ _ _ hf _ _ _ hP hD hS (lv_sub hl [2, 3, 4, 5, 1, 0] rfl)
abbrev w_X3_goneAlone (cB cI cJ : ClassId) (a_this : Nat) (a_counties : Nat) (a_states : Nat) (a_states_cells : Nat) (v_size : Int32) (v_states : Nat → Int32) : va_W := [(a_this, .inr (3, [.ref a_counties, .ref a_states, .int v_size])), (a_states, .inr (6, [.ref a_states_cells])), (a_states_cells, .inl (cI, 480, .inl v_states))]
theorem hd_X3_goneAlone : yX3_goneAlone.cls = RX3 ∧ yX3_goneAlone.cls ≠ "java/lang/invoke/MethodHandle" ∧ yX3_goneAlone.cls ≠ "java/lang/invoke/VarHandle" ∧ (parseMethodDescriptor yX3_goneAlone.desc).map (fun d => d.parameters.length) = some 2 := by decide +kernel
abbrev rm_X3_goneAlone : Room := { frames := 3, cells := 0, slots := 0, locals := 69 }
set_option maxHeartbeats 4000000 in
set_option maxRecDepth 100000 in
theorem c_X3_goneAlone (l : Launch) (D : va_G) (cB cI cJ : ClassId) (N : Nat) (a_this : Nat) (a_counties : Nat) (a_states : Nat) (a_states_cells : Nat) (v_size : Int32) (v_states : Nat → Int32) (x1 : Int32) (x2 : Int32) {r : Int32} (hf : f_X3_goneAlone N v_states x1 x2 = some r) : MTi l yX3_goneAlone wsX3_goneAlone rm_X3_goneAlone D (wk_T cB cI cJ) [.ref a_this, .int x1, .int x2] (w_X3_goneAlone cB cI cJ a_this a_counties a_states a_states_cells v_size v_states) (w_X3_goneAlone cB cI cJ a_this a_counties a_states a_states_cells v_size v_states) r := by
  refine MTi.of (cc := cX3_goneAlone) (nL := 5) (rt := .int) (own := RX3) pn_X3 rfl rfl (Nat.le_of_ble_eq_true rfl) rfl ?_
  intro p e s m args below meth c A ls Q C hP hD hS hl hret
  obtain ⟨hx, hb, hml, hts, hown, hK, hN, hA, hlk⟩ := id C
  have hl : lv_has ls 5 [(0, .ref a_this), (1, .int x1), (2, .int x2)] := hl
  have J32 : ∀ (x3 : Int32) (s0 : Int32), B_X3_goneAlone_32 N v_states x3 s0 = some r → ∀ (H : Heap) (locs : List Loc) (ls : Array Slot), va_P D vwCl (w_X3_goneAlone cB cI cJ a_this a_counties a_states a_states_cells v_size v_states) H → va_D A (w_X3_goneAlone cB cI cJ a_this a_counties a_states a_states_cells v_size v_states) → va_S A s.heap H locs → lv_has ls 5 [(3, .int x3)] → W p l e rm_X3_goneAlone s m args below meth c H locs 0 0 Q (F0 m 32 ls [.int s0]) := by
    intro x3 s0 hf H locs ls hP hD hS hl
    unfold B_X3_goneAlone_32 at hf
    refine lv_istore (lv' := [(4, .int s0), (3, .int x3)]) hx hb dX3_goneAlone_32 hl (by decide) rfl (fun ls hl => ?_)
    refine lv_iload hx hb dX3_goneAlone_34 (lv_at hl 0 rfl) ?_
    refine lv_if_eq (tgt := 43) hx hb dX3_goneAlone_36 (by decide) (fun c1 => ?_) (fun c1 => ?_)
    · have hf := wk_itT hf c1
      refine lv_iconst (v := (0 : Int32)) hx hb dX3_goneAlone_43 (by decide) ?_
      exact hret _ _ _ _ _ _ dX3_goneAlone_44 (wk_rt hf (fun z => z)) rfl hP hD hS
    · have hf := wk_itF hf c1
      refine lv_iload_n hx hb dX3_goneAlone_39 rfl (lv_at hl 1 rfl) ?_
      refine lv_goto (tgt := 44) hx hb dX3_goneAlone_40 (by decide) ?_
      exact hret _ _ _ _ _ _ dX3_goneAlone_44 (wk_rt hf (fun z => z)) rfl hP hD hS
  unfold f_X3_goneAlone at hf
  refine lv_aload_n hx hb dX3_goneAlone_0 rfl (lv_at hl 0 rfl) ?_
  refine lv_iload_n hx hb dX3_goneAlone_1 rfl (lv_at hl 1 rfl) ?_
  refine lv_iload_n hx hb dX3_goneAlone_2 rfl (lv_at hl 2 rfl) ?_
  refine lv_iconst (v := (5 : Int32)) hx hb dX3_goneAlone_3 (by decide) ?_
  obtain ⟨r2, hc2, hf⟩ := wk_b1E hf
  refine wk_callVi2 C hP hD hS (c_X3_bitsFrom l D cB cI cJ N a_this a_counties a_states a_states_cells v_size v_states x1 x2 (5 : Int32) hc2) (cwV 3 hts gX3_goneAlone_X3_bitsFrom rfl rfl rfl hd_X3_bitsFrom ⟨Nat.le_of_ble_eq_true rfl, Nat.le_of_ble_eq_true rfl⟩) hl.1 ⟨Nat.zero_le _, Nat.zero_le _⟩ [0, 1, 2] [] 3 (by decide +kernel) rfl (Wn := w_X3_goneAlone cB cI cJ a_this a_counties a_states a_states_cells v_size v_states) rfl rfl rfl rfl rfl rfl (ci := 3) rfl rfl (q0 := 0) rfl rfl rfl (Nat.le_of_ble_eq_true rfl) dX3_goneAlone_4 (fun H locs hP hD hS => ?_)
  refine lv_istore_n (lv' := [(3, .int r2), (0, .ref a_this), (1, .int x1), (2, .int x2)]) hx hb dX3_goneAlone_7 rfl hl (by decide) rfl (fun ls hl => ?_)
  refine lv_iload_n hx hb dX3_goneAlone_8 rfl (lv_at hl 0 rfl) ?_
  obtain ⟨r3, hc3, hf⟩ := wk_b1E hf
  refine wk_callSi2 C hP hD hS (c_J6_bitCount_0f7a4 l D cB cI cJ N r2 hc3) (va_cwS 1 hts gX3_goneAlone_J6_bitCount_0f7a4 rfl rfl rfl hd_J6_bitCount_0f7a4.2 ⟨Nat.le_of_ble_eq_true rfl, Nat.le_of_ble_eq_true rfl⟩) hl.1 ⟨Nat.zero_le _, Nat.zero_le _⟩ [] [0, 1, 2] 3 (by decide +kernel) rfl (Wn := w_X3_goneAlone cB cI cJ a_this a_counties a_states a_states_cells v_size v_states) rfl rfl rfl rfl rfl rfl rfl rfl (Nat.le_of_ble_eq_true rfl) dX3_goneAlone_9 (fun H locs hP hD hS => ?_)
  refine lv_iconst (v := (1 : Int32)) hx hb dX3_goneAlone_12 (by decide) ?_
  refine lv_icmp_ne (tgt := 31) hx hb dX3_goneAlone_13 (by decide) (fun c4 => ?_) (fun c4 => ?_)
  · have hf := wk_itF hf c4
    refine lv_iconst (v := (0 : Int32)) hx hb dX3_goneAlone_31 (by decide) ?_
    exact J32 _ _ hf _ _ _ hP hD hS (lv_sub hl [0] rfl)
  · have hf := wk_itT hf c4
    refine lv_aload_n hx hb dX3_goneAlone_16 rfl (lv_at hl 1 rfl) ?_
    refine lv_iload_n hx hb dX3_goneAlone_17 rfl (lv_at hl 2 rfl) ?_
    refine lv_iload_n hx hb dX3_goneAlone_18 rfl (lv_at hl 3 rfl) ?_
    refine lv_iconst (v := (1 : Int32)) hx hb dX3_goneAlone_19 (by decide) ?_
    obtain ⟨r5, hc5, hf⟩ := wk_b1E hf
    refine wk_callVi2 C hP hD hS (c_X3_bitsFrom l D cB cI cJ N a_this a_counties a_states a_states_cells v_size v_states x1 x2 (1 : Int32) hc5) (cwV 3 hts gX3_goneAlone_X3_bitsFrom rfl rfl rfl hd_X3_bitsFrom ⟨Nat.le_of_ble_eq_true rfl, Nat.le_of_ble_eq_true rfl⟩) hl.1 ⟨Nat.zero_le _, Nat.zero_le _⟩ [0, 1, 2] [] 3 (by decide +kernel) rfl (Wn := w_X3_goneAlone cB cI cJ a_this a_counties a_states a_states_cells v_size v_states) rfl rfl rfl rfl rfl rfl (ci := 3) rfl rfl (q0 := 0) rfl rfl rfl (Nat.le_of_ble_eq_true rfl) dX3_goneAlone_20 (fun H locs hP hD hS => ?_)
    refine lv_iload_n hx hb dX3_goneAlone_23 rfl (lv_at hl 0 rfl) ?_
    refine lv_icmp_ne (tgt := 31) hx hb dX3_goneAlone_24 (by decide) (fun c6 => ?_) (fun c6 => ?_)
    · have hf := wk_itF hf c6
      refine lv_iconst (v := (0 : Int32)) hx hb dX3_goneAlone_31 (by decide) ?_
      exact J32 _ _ hf _ _ _ hP hD hS (lv_sub hl [0] rfl)
    · have hf := wk_itT hf c6
      refine lv_iconst (v := (1 : Int32)) hx hb dX3_goneAlone_27 (by decide) ?_
      refine lv_goto (tgt := 32) hx hb dX3_goneAlone_28 (by decide) ?_
      exact J32 _ _ hf _ _ _ hP hD hS (lv_sub hl [0] rfl)
abbrev w_X3_meantElsewhere (cB cI cJ : ClassId) (a_this : Nat) (a_counties : Nat) (a_states : Nat) (a_states_cells : Nat) (v_size : Int32) (v_states : Nat → Int32) : va_W := [(a_this, .inr (3, [.ref a_counties, .ref a_states, .int v_size])), (a_states, .inr (6, [.ref a_states_cells])), (a_states_cells, .inl (cI, 480, .inl v_states))]
theorem hd_X3_meantElsewhere : yX3_meantElsewhere.cls = RX3 ∧ yX3_meantElsewhere.cls ≠ "java/lang/invoke/MethodHandle" ∧ yX3_meantElsewhere.cls ≠ "java/lang/invoke/VarHandle" ∧ (parseMethodDescriptor yX3_meantElsewhere.desc).map (fun d => d.parameters.length) = some 2 := by decide +kernel
abbrev rm_X3_meantElsewhere : Room := { frames := 4, cells := 0, slots := 0, locals := 93 }
set_option maxHeartbeats 4000000 in
set_option maxRecDepth 100000 in
theorem c_X3_meantElsewhere (l : Launch) (D : va_G) (cB cI cJ : ClassId) (N : Nat) (a_this : Nat) (a_counties : Nat) (a_states : Nat) (a_states_cells : Nat) (v_size : Int32) (v_states : Nat → Int32) (x1 : Int32) (x2 : Int32) {r : Int32} (hf : f_X3_meantElsewhere N v_states x1 x2 = some r) : MTi l yX3_meantElsewhere wsX3_meantElsewhere rm_X3_meantElsewhere D (wk_T cB cI cJ) [.ref a_this, .int x1, .int x2] (w_X3_meantElsewhere cB cI cJ a_this a_counties a_states a_states_cells v_size v_states) (w_X3_meantElsewhere cB cI cJ a_this a_counties a_states a_states_cells v_size v_states) r := by
  refine MTi.of (cc := cX3_meantElsewhere) (nL := 5) (rt := .int) (own := RX3) pn_X3 rfl rfl (Nat.le_of_ble_eq_true rfl) rfl ?_
  intro p e s m args below meth c A ls Q C hP hD hS hl hret
  obtain ⟨hx, hb, hml, hts, hown, hK, hN, hA, hlk⟩ := id C
  have hl : lv_has ls 5 [(0, .ref a_this), (1, .int x1), (2, .int x2)] := hl
  have L6 := wk_loopI (F := (fun k6 : Int32 → Int32 → Int32 → Int32 → Option Int32 => B_X3_meantElsewhere_6 N v_states k6)) (bot := fun _ _ _ _ => none) (fun k6 : Int32 → Int32 → Int32 → Int32 → Option Int32 => ∀ (x1 : Int32) (x2 : Int32) (x3 : Int32) (x4 : Int32), k6 x1 x2 x3 x4 = some r → ∀ (H : Heap) (locs : List Loc) (ls : Array Slot), va_P D vwCl (w_X3_meantElsewhere cB cI cJ a_this a_counties a_states a_states_cells v_size v_states) H → va_D A (w_X3_meantElsewhere cB cI cJ a_this a_counties a_states a_states_cells v_size v_states) → va_S A s.heap H locs → lv_has ls 5 [(0, .ref a_this), (1, .int x1), (2, .int x2), (3, .int x3), (4, .int x4)] → W p l e rm_X3_meantElsewhere s m args below meth c H locs 0 0 Q (F0 m 6 ls [])) (by intro x1 x2 x3 x4 hf; exact wk_no hf) (by
    intro k6 ih6
    intro x1 x2 x3 x4 hf H locs ls hP hD hS hl
    have hf : B_X3_meantElsewhere_6 N v_states k6 x1 x2 x3 x4 = some r := hf
    unfold B_X3_meantElsewhere_6 at hf
    refine lv_iload hx hb dX3_meantElsewhere_6 (lv_at hl 4 rfl) ?_
    refine lv_iconst (v := (3 : Int32)) hx hb dX3_meantElsewhere_8 (by decide) ?_
    refine lv_icmp_ge (tgt := 34) hx hb dX3_meantElsewhere_9 (by decide) (fun c1 => ?_) (fun c1 => ?_)
    · have hf := wk_itT hf c1
      refine lv_iload_n hx hb dX3_meantElsewhere_34 rfl (lv_at hl 3 rfl) ?_
      exact hret _ _ _ _ _ _ dX3_meantElsewhere_35 (wk_rt hf (fun z => z)) rfl hP hD hS
    · have hf := wk_itF hf c1
      refine lv_iload hx hb dX3_meantElsewhere_12 (lv_at hl 4 rfl) ?_
      refine lv_iload_n hx hb dX3_meantElsewhere_14 rfl (lv_at hl 2 rfl) ?_
      refine lv_icmp_eq (tgt := 28) hx hb dX3_meantElsewhere_15 (by decide) (fun c2 => ?_) (fun c2 => ?_)
      · have hf := wk_itT hf c2
        obtain ⟨y3, ey3⟩ : ∃ y : Int32, y = x4 + (1 : Int32) := ⟨_, rfl⟩
        have hf := wk_nmE hf ey3
        refine lv_iinc (v := y3) (lv' := [(4, .int y3), (0, .ref a_this), (1, .int x1), (2, .int x2), (3, .int x3)]) hx hb dX3_meantElsewhere_28 hl (k := 4) rfl (by rw [ey3]; rfl) (by decide) rfl (fun ls hl => ?_)
        refine lv_goto (tgt := 6) hx hb dX3_meantElsewhere_31 (by decide) ?_
        exact ih6 _ _ _ _ hf _ _ _ hP hD hS (lv_sub hl [1, 2, 3, 4, 0] rfl)
      · have hf := wk_itF hf c2
        refine lv_iload_n hx hb dX3_meantElsewhere_18 rfl (lv_at hl 3 rfl) ?_
        refine lv_aload_n hx hb dX3_meantElsewhere_19 rfl (lv_at hl 0 rfl) ?_
        refine lv_iload_n hx hb dX3_meantElsewhere_20 rfl (lv_at hl 1 rfl) ?_
        refine lv_iload hx hb dX3_meantElsewhere_21 (lv_at hl 4 rfl) ?_
        obtain ⟨r4, hc4, hf⟩ := wk_b1E hf
        refine wk_callVi2 C hP hD hS (c_X3_goneAlone l D cB cI cJ N a_this a_counties a_states a_states_cells v_size v_states x1 x4 hc4) (cwV 2 hts gX3_meantElsewhere_X3_goneAlone rfl rfl rfl hd_X3_goneAlone ⟨Nat.le_of_ble_eq_true rfl, Nat.le_of_ble_eq_true rfl⟩) hl.1 ⟨Nat.zero_le _, Nat.zero_le _⟩ [0, 1, 2] [] 3 (by decide +kernel) rfl (Wn := w_X3_meantElsewhere cB cI cJ a_this a_counties a_states a_states_cells v_size v_states) rfl rfl rfl rfl rfl rfl (ci := 3) rfl rfl (q0 := 0) rfl rfl rfl (Nat.le_of_ble_eq_true rfl) dX3_meantElsewhere_23 (fun H locs hP hD hS => ?_)
        refine lv_iand hx hb dX3_meantElsewhere_26 ?_
        refine lv_topi (fun y5 ey5 => ?_)
        have hf := wk_nmE hf ey5
        refine lv_istore_n (lv' := [(3, .int y5), (0, .ref a_this), (1, .int x1), (2, .int x2), (4, .int x4)]) hx hb dX3_meantElsewhere_27 rfl hl (by decide) rfl (fun ls hl => ?_)
        obtain ⟨y6, ey6⟩ : ∃ y : Int32, y = x4 + (1 : Int32) := ⟨_, rfl⟩
        have hf := wk_nmE hf ey6
        refine lv_iinc (v := y6) (lv' := [(4, .int y6), (3, .int y5), (0, .ref a_this), (1, .int x1), (2, .int x2)]) hx hb dX3_meantElsewhere_28 hl (k := 4) rfl (by rw [ey6]; rfl) (by decide) rfl (fun ls hl => ?_)
        refine lv_goto (tgt := 6) hx hb dX3_meantElsewhere_31 (by decide) ?_
        exact ih6 _ _ _ _ hf _ _ _ hP hD hS (lv_sub hl [2, 3, 4, 1, 0] rfl))
  unfold f_X3_meantElsewhere at hf
  refine lv_bipush (v := (15 : Int32)) hx hb dX3_meantElsewhere_0 (by decide) ?_
  refine lv_istore_n (lv' := [(3, .int (15 : Int32)), (0, .ref a_this), (1, .int x1), (2, .int x2)]) hx hb dX3_meantElsewhere_2 rfl hl (by decide) rfl (fun ls hl => ?_)
  refine lv_iconst (v := (0 : Int32)) hx hb dX3_meantElsewhere_3 (by decide) ?_
  refine lv_istore (lv' := [(4, .int (0 : Int32)), (3, .int (15 : Int32)), (0, .ref a_this), (1, .int x1), (2, .int x2)]) hx hb dX3_meantElsewhere_4 hl (by decide) rfl (fun ls hl => ?_)
  exact L6 N _ _ _ _ hf _ _ _ hP hD hS (lv_sub hl [2, 3, 4, 1, 0] rfl)
abbrev w_X3_meantBits (cB cI cJ : ClassId) (a_this : Nat) (a_counties : Nat) (a_states : Nat) (a_states_cells : Nat) (v_size : Int32) (v_states : Nat → Int32) : va_W := [(a_this, .inr (3, [.ref a_counties, .ref a_states, .int v_size])), (a_states, .inr (6, [.ref a_states_cells])), (a_states_cells, .inl (cI, 480, .inl v_states))]
theorem hd_X3_meantBits : yX3_meantBits.cls = RX3 ∧ yX3_meantBits.cls ≠ "java/lang/invoke/MethodHandle" ∧ yX3_meantBits.cls ≠ "java/lang/invoke/VarHandle" ∧ (parseMethodDescriptor yX3_meantBits.desc).map (fun d => d.parameters.length) = some 2 := by decide +kernel
abbrev rm_X3_meantBits : Room := { frames := 5, cells := 0, slots := 0, locals := 117 }
set_option maxHeartbeats 4000000 in
set_option maxRecDepth 100000 in
theorem c_X3_meantBits (l : Launch) (D : va_G) (cB cI cJ : ClassId) (N : Nat) (a_this : Nat) (a_counties : Nat) (a_states : Nat) (a_states_cells : Nat) (v_size : Int32) (v_states : Nat → Int32) (x1 : Int32) (x2 : Int32) {r : Int32} (hf : f_X3_meantBits N v_states x1 x2 = some r) : MTi l yX3_meantBits wsX3_meantBits rm_X3_meantBits D (wk_T cB cI cJ) [.ref a_this, .int x1, .int x2] (w_X3_meantBits cB cI cJ a_this a_counties a_states a_states_cells v_size v_states) (w_X3_meantBits cB cI cJ a_this a_counties a_states a_states_cells v_size v_states) r := by
  refine MTi.of (cc := cX3_meantBits) (nL := 5) (rt := .int) (own := RX3) pn_X3 rfl rfl (Nat.le_of_ble_eq_true rfl) rfl ?_
  intro p e s m args below meth c A ls Q C hP hD hS hl hret
  obtain ⟨hx, hb, hml, hts, hown, hK, hN, hA, hlk⟩ := id C
  have hl : lv_has ls 5 [(0, .ref a_this), (1, .int x1), (2, .int x2)] := hl
  unfold f_X3_meantBits at hf
  refine lv_aload_n hx hb dX3_meantBits_0 rfl (lv_at hl 0 rfl) ?_
  refine lv_iload_n hx hb dX3_meantBits_1 rfl (lv_at hl 1 rfl) ?_
  refine lv_iload_n hx hb dX3_meantBits_2 rfl (lv_at hl 2 rfl) ?_
  refine lv_iconst (v := (5 : Int32)) hx hb dX3_meantBits_3 (by decide) ?_
  obtain ⟨r1, hc1, hf⟩ := wk_b1E hf
  refine wk_callVi2 C hP hD hS (c_X3_bitsFrom l D cB cI cJ N a_this a_counties a_states a_states_cells v_size v_states x1 x2 (5 : Int32) hc1) (cwV 3 hts gX3_meantBits_X3_bitsFrom rfl rfl rfl hd_X3_bitsFrom ⟨Nat.le_of_ble_eq_true rfl, Nat.le_of_ble_eq_true rfl⟩) hl.1 ⟨Nat.zero_le _, Nat.zero_le _⟩ [0, 1, 2] [] 3 (by decide +kernel) rfl (Wn := w_X3_meantBits cB cI cJ a_this a_counties a_states a_states_cells v_size v_states) rfl rfl rfl rfl rfl rfl (ci := 3) rfl rfl (q0 := 0) rfl rfl rfl (Nat.le_of_ble_eq_true rfl) dX3_meantBits_4 (fun H locs hP hD hS => ?_)
  refine lv_istore_n (lv' := [(3, .int r1), (0, .ref a_this), (1, .int x1), (2, .int x2)]) hx hb dX3_meantBits_7 rfl hl (by decide) rfl (fun ls hl => ?_)
  refine lv_iload_n hx hb dX3_meantBits_8 rfl (lv_at hl 0 rfl) ?_
  refine lv_if_eq (tgt := 14) hx hb dX3_meantBits_9 (by decide) (fun c2 => ?_) (fun c2 => ?_)
  · have hf := wk_itT hf c2
    refine lv_aload_n hx hb dX3_meantBits_14 rfl (lv_at hl 1 rfl) ?_
    refine lv_iload_n hx hb dX3_meantBits_15 rfl (lv_at hl 2 rfl) ?_
    refine lv_iload_n hx hb dX3_meantBits_16 rfl (lv_at hl 3 rfl) ?_
    refine lv_iconst (v := (1 : Int32)) hx hb dX3_meantBits_17 (by decide) ?_
    obtain ⟨r3, hc3, hf⟩ := wk_b1E hf
    refine wk_callVi2 C hP hD hS (c_X3_bitsFrom l D cB cI cJ N a_this a_counties a_states a_states_cells v_size v_states x1 x2 (1 : Int32) hc3) (cwV 3 hts gX3_meantBits_X3_bitsFrom rfl rfl rfl hd_X3_bitsFrom ⟨Nat.le_of_ble_eq_true rfl, Nat.le_of_ble_eq_true rfl⟩) hl.1 ⟨Nat.zero_le _, Nat.zero_le _⟩ [0, 1, 2] [] 3 (by decide +kernel) rfl (Wn := w_X3_meantBits cB cI cJ a_this a_counties a_states a_states_cells v_size v_states) rfl rfl rfl rfl rfl rfl (ci := 3) rfl rfl (q0 := 0) rfl rfl rfl (Nat.le_of_ble_eq_true rfl) dX3_meantBits_18 (fun H locs hP hD hS => ?_)
    refine lv_istore (lv' := [(4, .int r3), (3, .int r1), (0, .ref a_this), (1, .int x1), (2, .int x2)]) hx hb dX3_meantBits_21 hl (by decide) rfl (fun ls hl => ?_)
    refine lv_iload hx hb dX3_meantBits_23 (lv_at hl 0 rfl) ?_
    refine lv_if_eq (tgt := 33) hx hb dX3_meantBits_25 (by decide) (fun c4 => ?_) (fun c4 => ?_)
    · have hf := wk_itT hf c4
      refine lv_aload_n hx hb dX3_meantBits_33 rfl (lv_at hl 2 rfl) ?_
      refine lv_iload_n hx hb dX3_meantBits_34 rfl (lv_at hl 3 rfl) ?_
      refine lv_iload_n hx hb dX3_meantBits_35 rfl (lv_at hl 4 rfl) ?_
      obtain ⟨r5, hc5, hf⟩ := wk_b1E hf
      refine wk_callVi2 C hP hD hS (c_X3_meantElsewhere l D cB cI cJ N a_this a_counties a_states a_states_cells v_size v_states x1 x2 hc5) (cwV 2 hts gX3_meantBits_X3_meantElsewhere rfl rfl rfl hd_X3_meantElsewhere ⟨Nat.le_of_ble_eq_true rfl, Nat.le_of_ble_eq_true rfl⟩) hl.1 ⟨Nat.zero_le _, Nat.zero_le _⟩ [0, 1, 2] [] 3 (by decide +kernel) rfl (Wn := w_X3_meantBits cB cI cJ a_this a_counties a_states a_states_cells v_size v_states) rfl rfl rfl rfl rfl rfl (ci := 3) rfl rfl (q0 := 0) rfl rfl rfl (Nat.le_of_ble_eq_true rfl) dX3_meantBits_36 (fun H locs hP hD hS => ?_)
      exact hret _ _ _ _ _ _ dX3_meantBits_39 (wk_rt hf (fun z => z)) rfl hP hD hS
    · have hf := wk_itF hf c4
      refine lv_iload hx hb dX3_meantBits_28 (lv_at hl 0 rfl) ?_
      refine lv_goto (tgt := 39) hx hb dX3_meantBits_30 (by decide) ?_
      exact hret _ _ _ _ _ _ dX3_meantBits_39 (wk_rt hf (fun z => z)) rfl hP hD hS
  · have hf := wk_itF hf c2
    refine lv_iload_n hx hb dX3_meantBits_12 rfl (lv_at hl 0 rfl) ?_
    exact hret _ _ _ _ _ _ dX3_meantBits_13 (wk_rt hf (fun z => z)) rfl hP hD hS
abbrev w_X3_copy (cB cI cJ : ClassId) (a_p1 : Nat) (a_p1_counties : Nat) (a_p1_states : Nat) (a_p1_counties_cells : Nat) (a_p1_states_cells : Nat) (a_this : Nat) (a_counties : Nat) (a_states : Nat) (a_counties_cells : Nat) (a_states_cells : Nat) (v_p1_size : Int32) (v_p1_counties : Nat → Int32) (v_p1_states : Nat → Int32) (v_size : Int32) (v_counties : Nat → Int32) (v_states : Nat → Int32) : va_W := [(a_p1, .inr (3, [.ref a_p1_counties, .ref a_p1_states, .int v_p1_size])), (a_p1_counties, .inr (6, [.ref a_p1_counties_cells])), (a_p1_counties_cells, .inl (cI, 40, .inl v_p1_counties)), (a_p1_states, .inr (6, [.ref a_p1_states_cells])), (a_p1_states_cells, .inl (cI, 480, .inl v_p1_states)), (a_this, .inr (3, [.ref a_counties, .ref a_states, .int v_size])), (a_counties, .inr (6, [.ref a_counties_cells])), (a_counties_cells, .inl (cI, 40, .inl v_counties)), (a_states, .inr (6, [.ref a_states_cells])), (a_states_cells, .inl (cI, 480, .inl v_states))]
theorem hd_X3_copy : yX3_copy.cls = RX3 ∧ yX3_copy.cls ≠ "java/lang/invoke/MethodHandle" ∧ yX3_copy.cls ≠ "java/lang/invoke/VarHandle" ∧ (parseMethodDescriptor yX3_copy.desc).map (fun d => d.parameters.length) = some 1 := by decide +kernel
abbrev rm_X3_copy : Room := { frames := 2, cells := 0, slots := 0, locals := 43 }
theorem in_X3_copy_X3 : ∀ w ∈ wsX30, w ∈ wsX3_copy := fun w h => List.mem_cons_of_mem _ (List.mem_append_left _ (List.mem_append_right _ h))
set_option maxHeartbeats 4000000 in
set_option maxRecDepth 100000 in
theorem c_X3_copy (l : Launch) (D : va_G) (cB cI cJ : ClassId) (N : Nat) (a_p1 : Nat) (a_p1_counties : Nat) (a_p1_states : Nat) (a_p1_counties_cells : Nat) (a_p1_states_cells : Nat) (a_this : Nat) (a_counties : Nat) (a_states : Nat) (a_counties_cells : Nat) (a_states_cells : Nat) (v_p1_size : Int32) (v_p1_counties : Nat → Int32) (v_p1_states : Nat → Int32) (v_size : Int32) (v_counties : Nat → Int32) (v_states : Nat → Int32) {o_size : Int32} {o_counties : Nat → Int32} {o_states : Nat → Int32} (hf : f_X3_copy N v_p1_size v_p1_counties v_p1_states v_size v_counties v_states = some (o_size, o_counties, o_states)) : MTv l yX3_copy wsX3_copy rm_X3_copy D (wk_T cB cI cJ) [.ref a_this, .ref a_p1] (w_X3_copy cB cI cJ a_p1 a_p1_counties a_p1_states a_p1_counties_cells a_p1_states_cells a_this a_counties a_states a_counties_cells a_states_cells v_p1_size v_p1_counties v_p1_states v_size v_counties v_states) (w_X3_copy cB cI cJ a_p1 a_p1_counties a_p1_states a_p1_counties_cells a_p1_states_cells a_this a_counties a_states a_counties_cells a_states_cells v_p1_size v_p1_counties v_p1_states o_size o_counties o_states) := by
  refine MTv.of (cc := cX3_copy) (nL := 2) (own := RX3) pn_X3 rfl rfl (Nat.le_of_ble_eq_true rfl) ?_
  intro p e s m args below meth c A ls Q C hP hD hS hl hret
  obtain ⟨hx, hb, hml, hts, hown, hK, hN, hA, hlk⟩ := id C
  have hl : lv_has ls 2 [(0, .ref a_this), (1, .ref a_p1)] := hl
  unfold f_X3_copy at hf
  refine lv_aload_n hx hb dX3_copy_0 rfl (lv_at hl 1 rfl) ?_
  refine lv_ifnonnull (tgt := 5) hx hb dX3_copy_1 (by decide) ?_
  refine lv_aload_n hx hb dX3_copy_5 rfl (lv_at hl 0 rfl) ?_
  refine va_get (D := D) (ci := 3) (v := .ref a_counties) (C := RX3) (T := TX3) (N := 3) hx hb hts in_X3_copy_X3 hown hK hP 5 rfl rfl 0 (by decide) (hts (.fieldLink RX3 14 "HangingCards$Pile" "counties" "LHangingCards$Row;") (List.mem_of_getElem? (i := 1) rfl)) (fun _ h9 => h9) rfl dX3_copy_6 ?_
  refine lv_aload_n hx hb dX3_copy_9 rfl (lv_at hl 1 rfl) ?_
  refine va_get (D := D) (ci := 3) (v := .ref a_p1_counties) (C := RX3) (T := TX3) (N := 3) hx hb hts in_X3_copy_X3 hown hK hP 0 rfl rfl 0 (by decide) (hts (.fieldLink RX3 14 "HangingCards$Pile" "counties" "LHangingCards$Row;") (List.mem_of_getElem? (i := 1) rfl)) (fun _ h9 => h9) rfl dX3_copy_10 ?_
  obtain ⟨o1_0, hc1, hf⟩ := wk_b1E hf
  refine wk_callVv2 C hP hD hS (c_X6_copy l D cB cI cJ N a_p1_counties a_p1_counties_cells a_counties a_counties_cells 40 40 v_p1_counties v_counties hc1) (cwV 1 hts gX3_copy_X6_copy rfl rfl rfl hd_X6_copy ⟨Nat.le_of_ble_eq_true rfl, Nat.le_of_ble_eq_true rfl⟩) hl.1 ⟨Nat.zero_le _, Nat.zero_le _⟩ [1, 2, 6, 7] [0, 3, 4, 5, 8, 9] 10 (by decide +kernel) rfl (Wn := w_X3_copy cB cI cJ a_p1 a_p1_counties a_p1_states a_p1_counties_cells a_p1_states_cells a_this a_counties a_states a_counties_cells a_states_cells v_p1_size v_p1_counties v_p1_states v_size o1_0 v_states) rfl rfl rfl rfl rfl rfl (ci := 6) rfl rfl (q0 := 6) rfl rfl rfl (Nat.le_of_ble_eq_true rfl) dX3_copy_13 (fun H locs hP hD hS => ?_)
  refine lv_aload_n hx hb dX3_copy_16 rfl (lv_at hl 0 rfl) ?_
  refine va_get (D := D) (ci := 3) (v := .ref a_states) (C := RX3) (T := TX3) (N := 3) hx hb hts in_X3_copy_X3 hown hK hP 5 rfl rfl 1 (by decide) (hts (.fieldLink RX3 20 "HangingCards$Pile" "states" "LHangingCards$Row;") (List.mem_of_getElem? (i := 2) rfl)) (fun _ h9 => h9) rfl dX3_copy_17 ?_
  refine lv_aload_n hx hb dX3_copy_20 rfl (lv_at hl 1 rfl) ?_
  refine va_get (D := D) (ci := 3) (v := .ref a_p1_states) (C := RX3) (T := TX3) (N := 3) hx hb hts in_X3_copy_X3 hown hK hP 0 rfl rfl 1 (by decide) (hts (.fieldLink RX3 20 "HangingCards$Pile" "states" "LHangingCards$Row;") (List.mem_of_getElem? (i := 2) rfl)) (fun _ h9 => h9) rfl dX3_copy_21 ?_
  obtain ⟨o2_0, hc2, hf⟩ := wk_b1E hf
  refine wk_callVv2 C hP hD hS (c_X6_copy l D cB cI cJ N a_p1_states a_p1_states_cells a_states a_states_cells 480 480 v_p1_states v_states hc2) (cwV 1 hts gX3_copy_X6_copy rfl rfl rfl hd_X6_copy ⟨Nat.le_of_ble_eq_true rfl, Nat.le_of_ble_eq_true rfl⟩) hl.1 ⟨Nat.zero_le _, Nat.zero_le _⟩ [3, 4, 8, 9] [0, 1, 2, 5, 6, 7] 10 (by decide +kernel) rfl (Wn := w_X3_copy cB cI cJ a_p1 a_p1_counties a_p1_states a_p1_counties_cells a_p1_states_cells a_this a_counties a_states a_counties_cells a_states_cells v_p1_size v_p1_counties v_p1_states v_size o1_0 o2_0) rfl rfl rfl rfl rfl rfl (ci := 6) rfl rfl (q0 := 8) rfl rfl rfl (Nat.le_of_ble_eq_true rfl) dX3_copy_24 (fun H locs hP hD hS => ?_)
  refine lv_aload_n hx hb dX3_copy_27 rfl (lv_at hl 0 rfl) ?_
  refine lv_aload_n hx hb dX3_copy_28 rfl (lv_at hl 1 rfl) ?_
  refine va_get (D := D) (ci := 3) (v := .int v_p1_size) (C := RX3) (T := TX3) (N := 3) hx hb hts in_X3_copy_X3 hown hK hP 0 rfl rfl 2 (by decide) (hts (.fieldLink RX3 23 "HangingCards$Pile" "size" "I") (List.mem_of_getElem? (i := 3) rfl)) (fun _ h9 => h9) rfl dX3_copy_29 ?_
  refine va_put (D := D) (ci := 3) (v := .int v_p1_size) (ty := .int) (C := RX3) (T := TX3) (N := 3) hx hb hts in_X3_copy_X3 tyX3 tyX3_ok nmX3 hown hK hP hD hS 5 rfl rfl 2 (by decide) (hts (.fieldLink RX3 23 "HangingCards$Pile" "size" "I") (List.mem_of_getElem? (i := 3) rfl)) (fun _ h9 => h9) rfl (by decide +kernel) rfl rfl (Nat.le_of_ble_eq_true rfl) dX3_copy_32 (fun H locs hP hD hS => ?_)
  have hP : va_P D vwCl (w_X3_copy cB cI cJ a_p1 a_p1_counties a_p1_states a_p1_counties_cells a_p1_states_cells a_this a_counties a_states a_counties_cells a_states_cells v_p1_size v_p1_counties v_p1_states v_p1_size o1_0 o2_0) H := hP
  have hD : va_D A (w_X3_copy cB cI cJ a_p1 a_p1_counties a_p1_states a_p1_counties_cells a_p1_states_cells a_this a_counties a_states a_counties_cells a_states_cells v_p1_size v_p1_counties v_p1_states v_p1_size o1_0 o2_0) := hD
  exact hret _ _ _ _ _ dX3_copy_35 (wk_rt hf (fun z => w_X3_copy cB cI cJ a_p1 a_p1_counties a_p1_states a_p1_counties_cells a_p1_states_cells a_this a_counties a_states a_counties_cells a_states_cells v_p1_size v_p1_counties v_p1_states (z.1) (z.2.1) (z.2.2))) hP hD hS
