abbrev w_X7_learn (cB cI cJ : ClassId) (a_p1 : Nat) (a_p1_kinds : Nat) (a_p1_counties : Nat) (a_p1_ranks : Nat) (a_p1_values : Nat) (a_p1_hours : Nat) (a_p1_counties_cells : Nat) (a_p1_hours_cells : Nat) (a_p1_kinds_cells : Nat) (a_p1_ranks_cells : Nat) (a_p1_values_cells : Nat) (a_this : Nat) (a_heaps : Nat) (a_speeds : Nat) (a_closed : Nat) (a_hoursOpen : Nat) (a_todo : Nat) (a_hoursAhead : Nat) (a_placed : Nat) (a_closed_cells : Nat) (v_p1_size : Int32) (v_p1_counties : Nat → Int32) (v_p1_hours : Nat → Int32) (v_p1_kinds : Nat → Int32) (v_p1_ranks : Nat → Int32) (v_p1_values : Nat → Int32) (v_closed : Nat → Int32) : va_W := [(a_p1, .inr (1, [.ref a_p1_kinds, .ref a_p1_counties, .ref a_p1_ranks, .ref a_p1_values, .ref a_p1_hours, .int v_p1_size])), (a_p1_counties, .inr (6, [.ref a_p1_counties_cells])), (a_p1_counties_cells, .inl (cI, 40, .inl v_p1_counties)), (a_p1_hours, .inr (6, [.ref a_p1_hours_cells])), (a_p1_hours_cells, .inl (cI, 40, .inl v_p1_hours)), (a_p1_kinds, .inr (6, [.ref a_p1_kinds_cells])), (a_p1_kinds_cells, .inl (cI, 40, .inl v_p1_kinds)), (a_p1_ranks, .inr (6, [.ref a_p1_ranks_cells])), (a_p1_ranks_cells, .inl (cI, 40, .inl v_p1_ranks)), (a_p1_values, .inr (6, [.ref a_p1_values_cells])), (a_p1_values_cells, .inl (cI, 40, .inl v_p1_values)), (a_this, .inr (7, [.ref a_heaps, .ref a_speeds, .ref a_closed, .ref a_hoursOpen, .ref a_todo, .ref a_hoursAhead, .ref a_placed])), (a_closed, .inr (6, [.ref a_closed_cells])), (a_closed_cells, .inl (cI, 1000, .inl v_closed))]
theorem hd_X7_learn : yX7_learn.cls = RX7 ∧ yX7_learn.cls ≠ "java/lang/invoke/MethodHandle" ∧ yX7_learn.cls ≠ "java/lang/invoke/VarHandle" ∧ (parseMethodDescriptor yX7_learn.desc).map (fun d => d.parameters.length) = some 1 := by decide +kernel
abbrev rm_X7_learn : Room := { frames := 5, cells := 0, slots := 0, locals := 116 }
theorem in_X7_learn_X7 : ∀ w ∈ wsX70, w ∈ wsX7_learn := fun w h => List.mem_cons_of_mem _ (List.mem_append_left _ (List.mem_append_left _ (List.mem_append_right _ h)))
set_option maxHeartbeats 4000000 in
set_option maxRecDepth 100000 in
theorem c_X7_learn (l : Launch) (D : va_G) (cB cI cJ : ClassId) (N : Nat) (a_p1 : Nat) (a_p1_kinds : Nat) (a_p1_counties : Nat) (a_p1_ranks : Nat) (a_p1_values : Nat) (a_p1_hours : Nat) (a_p1_counties_cells : Nat) (a_p1_hours_cells : Nat) (a_p1_kinds_cells : Nat) (a_p1_ranks_cells : Nat) (a_p1_values_cells : Nat) (a_this : Nat) (a_heaps : Nat) (a_speeds : Nat) (a_closed : Nat) (a_hoursOpen : Nat) (a_todo : Nat) (a_hoursAhead : Nat) (a_placed : Nat) (a_closed_cells : Nat) (v_p1_size : Int32) (v_p1_counties : Nat → Int32) (v_p1_hours : Nat → Int32) (v_p1_kinds : Nat → Int32) (v_p1_ranks : Nat → Int32) (v_p1_values : Nat → Int32) (v_closed : Nat → Int32) {o_closed : Nat → Int32} (hf : f_X7_learn N v_p1_size v_p1_counties v_p1_hours v_p1_kinds v_p1_ranks v_p1_values v_closed = some o_closed) : MTv l yX7_learn wsX7_learn rm_X7_learn D (wk_T cB cI cJ) [.ref a_this, .ref a_p1] (w_X7_learn cB cI cJ a_p1 a_p1_kinds a_p1_counties a_p1_ranks a_p1_values a_p1_hours a_p1_counties_cells a_p1_hours_cells a_p1_kinds_cells a_p1_ranks_cells a_p1_values_cells a_this a_heaps a_speeds a_closed a_hoursOpen a_todo a_hoursAhead a_placed a_closed_cells v_p1_size v_p1_counties v_p1_hours v_p1_kinds v_p1_ranks v_p1_values v_closed) (w_X7_learn cB cI cJ a_p1 a_p1_kinds a_p1_counties a_p1_ranks a_p1_values a_p1_hours a_p1_counties_cells a_p1_hours_cells a_p1_kinds_cells a_p1_ranks_cells a_p1_values_cells a_this a_heaps a_speeds a_closed a_hoursOpen a_todo a_hoursAhead a_placed a_closed_cells v_p1_size v_p1_counties v_p1_hours v_p1_kinds v_p1_ranks v_p1_values o_closed) := by
  refine MTv.of (cc := cX7_learn) (nL := 7) (own := RX7) pn_X7 rfl rfl (Nat.le_of_ble_eq_true rfl) ?_
  intro p e s m args below meth c A ls Q C hP hD hS hl hret
  obtain ⟨hx, hb, hml, hts, hown, hK, hN, hA, hlk⟩ := id C
  have hl : lv_has ls 7 [(0, .ref a_this), (1, .ref a_p1)] := hl
  have L9 := wk_loopI (F := (fun k9 : (Nat → Int32) → Int32 → Int32 → Option (Nat → Int32) => B_X7_learn_9 N v_p1_size v_p1_counties v_p1_hours v_p1_kinds v_p1_ranks v_p1_values k9)) (bot := fun _ _ _ => none) (fun k9 : (Nat → Int32) → Int32 → Int32 → Option (Nat → Int32) => ∀ (v_closed : Nat → Int32) (x2 : Int32) (x3 : Int32), k9 v_closed x2 x3 = some o_closed → ∀ (H : Heap) (locs : List Loc) (ls : Array Slot), va_P D vwCl (w_X7_learn cB cI cJ a_p1 a_p1_kinds a_p1_counties a_p1_ranks a_p1_values a_p1_hours a_p1_counties_cells a_p1_hours_cells a_p1_kinds_cells a_p1_ranks_cells a_p1_values_cells a_this a_heaps a_speeds a_closed a_hoursOpen a_todo a_hoursAhead a_placed a_closed_cells v_p1_size v_p1_counties v_p1_hours v_p1_kinds v_p1_ranks v_p1_values v_closed) H → va_D A (w_X7_learn cB cI cJ a_p1 a_p1_kinds a_p1_counties a_p1_ranks a_p1_values a_p1_hours a_p1_counties_cells a_p1_hours_cells a_p1_kinds_cells a_p1_ranks_cells a_p1_values_cells a_this a_heaps a_speeds a_closed a_hoursOpen a_todo a_hoursAhead a_placed a_closed_cells v_p1_size v_p1_counties v_p1_hours v_p1_kinds v_p1_ranks v_p1_values v_closed) → va_S A s.heap H locs → lv_has ls 7 [(0, .ref a_this), (1, .ref a_p1), (2, .int x2), (3, .int x3)] → W p l e rm_X7_learn s m args below meth c H locs 0 0 Q (F0 m 9 ls [])) (by intro v_closed x2 x3 hf; exact wk_no hf) (by
    intro k9 ih9
    have L39 := wk_loopI (F := (fun k39 : (Nat → Int32) → Int32 → Int32 → Int32 → Int32 → Option (Nat → Int32) => B_X7_learn_39 N v_p1_size v_p1_counties v_p1_hours v_p1_kinds v_p1_ranks v_p1_values k9 k39)) (bot := fun _ _ _ _ _ => none) (fun k39 : (Nat → Int32) → Int32 → Int32 → Int32 → Int32 → Option (Nat → Int32) => ∀ (v_closed : Nat → Int32) (x3 : Int32) (x4 : Int32) (x5 : Int32) (x6 : Int32), k39 v_closed x3 x4 x5 x6 = some o_closed → ∀ (H : Heap) (locs : List Loc) (ls : Array Slot), va_P D vwCl (w_X7_learn cB cI cJ a_p1 a_p1_kinds a_p1_counties a_p1_ranks a_p1_values a_p1_hours a_p1_counties_cells a_p1_hours_cells a_p1_kinds_cells a_p1_ranks_cells a_p1_values_cells a_this a_heaps a_speeds a_closed a_hoursOpen a_todo a_hoursAhead a_placed a_closed_cells v_p1_size v_p1_counties v_p1_hours v_p1_kinds v_p1_ranks v_p1_values v_closed) H → va_D A (w_X7_learn cB cI cJ a_p1 a_p1_kinds a_p1_counties a_p1_ranks a_p1_values a_p1_hours a_p1_counties_cells a_p1_hours_cells a_p1_kinds_cells a_p1_ranks_cells a_p1_values_cells a_this a_heaps a_speeds a_closed a_hoursOpen a_todo a_hoursAhead a_placed a_closed_cells v_p1_size v_p1_counties v_p1_hours v_p1_kinds v_p1_ranks v_p1_values v_closed) → va_S A s.heap H locs → lv_has ls 7 [(0, .ref a_this), (1, .ref a_p1), (3, .int x3), (4, .int x4), (5, .int x5), (6, .int x6)] → W p l e rm_X7_learn s m args below meth c H locs 0 0 Q (F0 m 39 ls [])) (by intro v_closed x3 x4 x5 x6 hf; exact wk_no hf) (by
      intro k39 ih39
      intro v_closed x3 x4 x5 x6 hf H locs ls hP hD hS hl
      have hf : B_X7_learn_39 N v_p1_size v_p1_counties v_p1_hours v_p1_kinds v_p1_ranks v_p1_values k9 k39 v_closed x3 x4 x5 x6 = some o_closed := hf
      unfold B_X7_learn_39 at hf
      refine lv_iload hx hb dX7_learn_39 (lv_at hl 5 rfl) ?_
      refine lv_iload hx hb dX7_learn_41 (lv_at hl 3 rfl) ?_
      refine lv_icmp_ge (tgt := 63) hx hb dX7_learn_43 (by decide) (fun c1 => ?_) (fun c1 => ?_)
      · have hf := wk_itT hf c1
        refine lv_iload hx hb dX7_learn_63 (lv_at hl 3 rfl) ?_
        refine lv_istore_n (lv' := [(2, .int x4), (0, .ref a_this), (1, .ref a_p1), (3, .int x3), (4, .int x4), (5, .int x5), (6, .int x6)]) hx hb dX7_learn_65 rfl hl (by decide) rfl (fun ls hl => ?_)
        obtain ⟨y2, ey2⟩ : ∃ y : Int32, y = x3 + (1 : Int32) := ⟨_, rfl⟩
        have hf := wk_nmE hf ey2
        refine lv_iinc (v := y2) (lv' := [(3, .int y2), (2, .int x4), (0, .ref a_this), (1, .ref a_p1), (4, .int x4), (5, .int x5), (6, .int x6)]) hx hb dX7_learn_66 hl (k := 3) rfl (by rw [ey2]; rfl) (by decide) rfl (fun ls hl => ?_)
        refine lv_goto (tgt := 9) hx hb dX7_learn_69 (by decide) ?_
        exact ih9 _ _ _ hf _ _ _ hP hD hS (lv_sub hl [2, 3, 1, 0] rfl)
      · have hf := wk_itF hf c1
        refine lv_aload_n hx hb dX7_learn_46 rfl (lv_at hl 0 rfl) ?_
        refine va_get (D := D) (ci := 7) (v := .ref a_closed) (C := RX7) (T := TX7) (N := 7) hx hb hts in_X7_learn_X7 hown hK hP 11 rfl rfl 2 (by decide) (hts (.fieldLink RX7 23 "HangingCards$Shifts" "closed" "LHangingCards$Row;") (List.mem_of_getElem? (i := 1) rfl)) (fun _ h9 => h9) rfl dX7_learn_47 ?_
        refine lv_iload hx hb dX7_learn_50 (lv_at hl 5 rfl) ?_
        refine lv_iload hx hb dX7_learn_52 (lv_at hl 4 rfl) ?_
        obtain ⟨o3_0, hc3, hf⟩ := wk_b1E hf
        refine wk_callVv2 C hP hD hS (c_X6_set l D cB cI cJ N a_closed a_closed_cells 1000 v_closed x6 x5 hc3) (cwV 2 hts gX7_learn_X6_set rfl rfl rfl hd_X6_set ⟨Nat.le_of_ble_eq_true rfl, Nat.le_of_ble_eq_true rfl⟩) hl.1 ⟨Nat.zero_le _, Nat.zero_le _⟩ [12, 13] [0, 1, 2, 3, 4, 5, 6, 7, 8, 9, 10, 11] 14 (by decide +kernel) rfl (Wn := w_X7_learn cB cI cJ a_p1 a_p1_kinds a_p1_counties a_p1_ranks a_p1_values a_p1_hours a_p1_counties_cells a_p1_hours_cells a_p1_kinds_cells a_p1_ranks_cells a_p1_values_cells a_this a_heaps a_speeds a_closed a_hoursOpen a_todo a_hoursAhead a_placed a_closed_cells v_p1_size v_p1_counties v_p1_hours v_p1_kinds v_p1_ranks v_p1_values o3_0) rfl rfl rfl rfl rfl rfl (ci := 6) rfl rfl (q0 := 12) rfl rfl rfl (Nat.le_of_ble_eq_true rfl) dX7_learn_54 (fun H locs hP hD hS => ?_)
        obtain ⟨y4, ey4⟩ : ∃ y : Int32, y = x6 + (1 : Int32) := ⟨_, rfl⟩
        have hf := wk_nmE hf ey4
        refine lv_iinc (v := y4) (lv' := [(6, .int y4), (0, .ref a_this), (1, .ref a_p1), (3, .int x3), (4, .int x4), (5, .int x5)]) hx hb dX7_learn_57 hl (k := 5) rfl (by rw [ey4]; rfl) (by decide) rfl (fun ls hl => ?_)
        refine lv_goto (tgt := 39) hx hb dX7_learn_60 (by decide) ?_
        exact ih39 _ _ _ _ _ hf _ _ _ hP hD hS (lv_sub hl [1, 2, 3, 4, 5, 0] rfl))
    intro v_closed x2 x3 hf H locs ls hP hD hS hl
    have hf : B_X7_learn_9 N v_p1_size v_p1_counties v_p1_hours v_p1_kinds v_p1_ranks v_p1_values k9 v_closed x2 x3 = some o_closed := hf
    unfold B_X7_learn_9 at hf
    refine lv_iload_n hx hb dX7_learn_9 rfl (lv_at hl 3 rfl) ?_
    refine lv_bipush (v := (40 : Int32)) hx hb dX7_learn_10 (by decide) ?_
    refine lv_icmp_gt (tgt := 72) hx hb dX7_learn_12 (by decide) (fun c5 => ?_) (fun c5 => ?_)
    · have hf := wk_itT hf c5
      exact hret _ _ _ _ _ dX7_learn_72 (wk_rt hf (fun z => w_X7_learn cB cI cJ a_p1 a_p1_kinds a_p1_counties a_p1_ranks a_p1_values a_p1_hours a_p1_counties_cells a_p1_hours_cells a_p1_kinds_cells a_p1_ranks_cells a_p1_values_cells a_this a_heaps a_speeds a_closed a_hoursOpen a_todo a_hoursAhead a_placed a_closed_cells v_p1_size v_p1_counties v_p1_hours v_p1_kinds v_p1_ranks v_p1_values z)) hP hD hS
    · have hf := wk_itF hf c5
      refine lv_iload_n hx hb dX7_learn_15 rfl (lv_at hl 2 rfl) ?_
      refine lv_sipush (v := (1000 : Int32)) hx hb dX7_learn_16 (by decide) ?_
      refine lv_icmp_ge (tgt := 72) hx hb dX7_learn_19 (by decide) (fun c6 => ?_) (fun c6 => ?_)
      · have hf := wk_itT hf c6
        exact hret _ _ _ _ _ dX7_learn_72 (wk_rt hf (fun z => w_X7_learn cB cI cJ a_p1 a_p1_kinds a_p1_counties a_p1_ranks a_p1_values a_p1_hours a_p1_counties_cells a_p1_hours_cells a_p1_kinds_cells a_p1_ranks_cells a_p1_values_cells a_this a_heaps a_speeds a_closed a_hoursOpen a_todo a_hoursAhead a_placed a_closed_cells v_p1_size v_p1_counties v_p1_hours v_p1_kinds v_p1_ranks v_p1_values z)) hP hD hS
      · have hf := wk_itF hf c6
        refine lv_aload_n hx hb dX7_learn_22 rfl (lv_at hl 1 rfl) ?_
        refine lv_iload_n hx hb dX7_learn_23 rfl (lv_at hl 2 rfl) ?_
        obtain ⟨r7, hc7, hf⟩ := wk_b1E hf
        refine wk_callVi2 C hP hD hS (c_X1_nextOrder l D cB cI cJ N a_p1 a_p1_kinds a_p1_counties a_p1_ranks a_p1_values a_p1_hours a_p1_hours_cells a_p1_kinds_cells v_p1_size v_p1_hours v_p1_kinds x2 hc7) (cwV 1 hts gX7_learn_X1_nextOrder rfl rfl rfl hd_X1_nextOrder ⟨Nat.le_of_ble_eq_true rfl, Nat.le_of_ble_eq_true rfl⟩) hl.1 ⟨Nat.zero_le _, Nat.zero_le _⟩ [0, 3, 4, 5, 6] [1, 2, 7, 8, 9, 10, 11, 12, 13] 14 (by decide +kernel) rfl (Wn := w_X7_learn cB cI cJ a_p1 a_p1_kinds a_p1_counties a_p1_ranks a_p1_values a_p1_hours a_p1_counties_cells a_p1_hours_cells a_p1_kinds_cells a_p1_ranks_cells a_p1_values_cells a_this a_heaps a_speeds a_closed a_hoursOpen a_todo a_hoursAhead a_placed a_closed_cells v_p1_size v_p1_counties v_p1_hours v_p1_kinds v_p1_ranks v_p1_values v_closed) rfl rfl rfl rfl rfl rfl (ci := 1) rfl rfl (q0 := 0) rfl rfl rfl (Nat.le_of_ble_eq_true rfl) dX7_learn_24 (fun H locs hP hD hS => ?_)
        refine lv_istore (lv' := [(4, .int r7), (0, .ref a_this), (1, .ref a_p1), (2, .int x2), (3, .int x3)]) hx hb dX7_learn_27 hl (by decide) rfl (fun ls hl => ?_)
        refine lv_aload_n hx hb dX7_learn_29 rfl (lv_at hl 2 rfl) ?_
        refine lv_iload_n hx hb dX7_learn_30 rfl (lv_at hl 3 rfl) ?_
        obtain ⟨r8, hc8, hf⟩ := wk_b1E hf
        refine wk_callVi2 C hP hD hS (c_X1_closedIn l D cB cI cJ N a_p1 a_p1_kinds a_p1_counties a_p1_ranks a_p1_values a_p1_hours a_p1_counties_cells a_p1_hours_cells a_p1_kinds_cells a_p1_ranks_cells a_p1_values_cells v_p1_size v_p1_counties v_p1_hours v_p1_kinds v_p1_ranks v_p1_values x2 hc8) (cwV 1 hts gX7_learn_X1_closedIn rfl rfl rfl hd_X1_closedIn ⟨Nat.le_of_ble_eq_true rfl, Nat.le_of_ble_eq_true rfl⟩) hl.1 ⟨Nat.zero_le _, Nat.zero_le _⟩ [0, 1, 2, 3, 4, 5, 6, 7, 8, 9, 10] [11, 12, 13] 14 (by decide +kernel) rfl (Wn := w_X7_learn cB cI cJ a_p1 a_p1_kinds a_p1_counties a_p1_ranks a_p1_values a_p1_hours a_p1_counties_cells a_p1_hours_cells a_p1_kinds_cells a_p1_ranks_cells a_p1_values_cells a_this a_heaps a_speeds a_closed a_hoursOpen a_todo a_hoursAhead a_placed a_closed_cells v_p1_size v_p1_counties v_p1_hours v_p1_kinds v_p1_ranks v_p1_values v_closed) rfl rfl rfl rfl rfl rfl (ci := 1) rfl rfl (q0 := 0) rfl rfl rfl (Nat.le_of_ble_eq_true rfl) dX7_learn_31 (fun H locs hP hD hS => ?_)
        refine lv_istore (lv' := [(5, .int r8), (4, .int r7), (0, .ref a_this), (1, .ref a_p1), (2, .int x2), (3, .int x3)]) hx hb dX7_learn_34 hl (by decide) rfl (fun ls hl => ?_)
        refine lv_iload_n hx hb dX7_learn_36 rfl (lv_at hl 4 rfl) ?_
        refine lv_istore (lv' := [(6, .int x2), (5, .int r8), (4, .int r7), (0, .ref a_this), (1, .ref a_p1), (2, .int x2), (3, .int x3)]) hx hb dX7_learn_37 hl (by decide) rfl (fun ls hl => ?_)
        exact L39 N _ _ _ _ _ hf _ _ _ hP hD hS (lv_sub hl [3, 4, 6, 2, 1, 0] rfl))
  unfold f_X7_learn at hf
  refine lv_aload_n hx hb dX7_learn_0 rfl (lv_at hl 1 rfl) ?_
  refine lv_ifnonnull (tgt := 5) hx hb dX7_learn_1 (by decide) ?_
  refine lv_iconst (v := (0 : Int32)) hx hb dX7_learn_5 (by decide) ?_
  refine lv_istore_n (lv' := [(2, .int (0 : Int32)), (0, .ref a_this), (1, .ref a_p1)]) hx hb dX7_learn_6 rfl hl (by decide) rfl (fun ls hl => ?_)
  refine lv_iconst (v := (0 : Int32)) hx hb dX7_learn_7 (by decide) ?_
  refine lv_istore_n (lv' := [(3, .int (0 : Int32)), (2, .int (0 : Int32)), (0, .ref a_this), (1, .ref a_p1)]) hx hb dX7_learn_8 rfl hl (by decide) rfl (fun ls hl => ?_)
  exact L9 N _ _ _ hf _ _ _ hP hD hS (lv_sub hl [2, 3, 1, 0] rfl)
abbrev w_X7_changeHeaps (cB cI cJ : ClassId) (a_this : Nat) (a_heaps : Nat) (a_speeds : Nat) (a_closed : Nat) (a_hoursOpen : Nat) (a_todo : Nat) (a_hoursAhead : Nat) (a_placed : Nat) (a_heaps_cells : Nat) (v_heaps : Nat → Int32) : va_W := [(a_this, .inr (7, [.ref a_heaps, .ref a_speeds, .ref a_closed, .ref a_hoursOpen, .ref a_todo, .ref a_hoursAhead, .ref a_placed])), (a_heaps, .inr (6, [.ref a_heaps_cells])), (a_heaps_cells, .inl (cI, 5, .inl v_heaps))]
theorem hd_X7_changeHeaps : yX7_changeHeaps.cls = RX7 ∧ yX7_changeHeaps.cls ≠ "java/lang/invoke/MethodHandle" ∧ yX7_changeHeaps.cls ≠ "java/lang/invoke/VarHandle" ∧ (parseMethodDescriptor yX7_changeHeaps.desc).map (fun d => d.parameters.length) = some 2 := by decide +kernel
abbrev rm_X7_changeHeaps : Room := { frames := 1, cells := 0, slots := 0, locals := 22 }
theorem in_X7_changeHeaps_X7 : ∀ w ∈ wsX70, w ∈ wsX7_changeHeaps := fun w h => List.mem_cons_of_mem _ (List.mem_append_left _ (List.mem_append_right _ h))
set_option maxHeartbeats 4000000 in
set_option maxRecDepth 100000 in
theorem c_X7_changeHeaps (l : Launch) (D : va_G) (cB cI cJ : ClassId) (N : Nat) (a_this : Nat) (a_heaps : Nat) (a_speeds : Nat) (a_closed : Nat) (a_hoursOpen : Nat) (a_todo : Nat) (a_hoursAhead : Nat) (a_placed : Nat) (a_heaps_cells : Nat) (v_heaps : Nat → Int32) (x1 : Int32) (x2 : Int32) {r : Int32} {o_heaps : Nat → Int32} (hf : f_X7_changeHeaps N v_heaps x1 x2 = some (r, o_heaps)) : MTi l yX7_changeHeaps wsX7_changeHeaps rm_X7_changeHeaps D (wk_T cB cI cJ) [.ref a_this, .int x1, .int x2] (w_X7_changeHeaps cB cI cJ a_this a_heaps a_speeds a_closed a_hoursOpen a_todo a_hoursAhead a_placed a_heaps_cells v_heaps) (w_X7_changeHeaps cB cI cJ a_this a_heaps a_speeds a_closed a_hoursOpen a_todo a_hoursAhead a_placed a_heaps_cells o_heaps) r := by
  refine MTi.of (cc := cX7_changeHeaps) (nL := 4) (rt := .int) (own := RX7) pn_X7 rfl rfl (Nat.le_of_ble_eq_true rfl) rfl ?_
  intro p e s m args below meth c A ls Q C hP hD hS hl hret
  obtain ⟨hx, hb, hml, hts, hown, hK, hN, hA, hlk⟩ := id C
  have hl : lv_has ls 4 [(0, .ref a_this), (1, .int x1), (2, .int x2)] := hl
  unfold f_X7_changeHeaps at hf
  refine lv_aload_n hx hb dX7_changeHeaps_0 rfl (lv_at hl 0 rfl) ?_
  refine va_get (D := D) (ci := 7) (v := .ref a_heaps) (C := RX7) (T := TX7) (N := 7) hx hb hts in_X7_changeHeaps_X7 hown hK hP 0 rfl rfl 0 (by decide) (hts (.fieldLink RX7 14 "HangingCards$Shifts" "heaps" "LHangingCards$Row;") (List.mem_of_getElem? (i := 1) rfl)) (fun _ h9 => h9) rfl dX7_changeHeaps_1 ?_
  refine lv_iload_n hx hb dX7_changeHeaps_4 rfl (lv_at hl 1 rfl) ?_
  obtain ⟨r1, hc1, hf⟩ := wk_b1E hf
  refine wk_callVi2 C hP hD hS (c_X6_get l D cB cI cJ N a_heaps a_heaps_cells 5 v_heaps x1 hc1) (cwV 1 hts gX7_changeHeaps_X6_get rfl rfl rfl hd_X6_get ⟨Nat.le_of_ble_eq_true rfl, Nat.le_of_ble_eq_true rfl⟩) hl.1 ⟨Nat.zero_le _, Nat.zero_le _⟩ [1, 2] [0] 3 (by decide +kernel) rfl (Wn := w_X7_changeHeaps cB cI cJ a_this a_heaps a_speeds a_closed a_hoursOpen a_todo a_hoursAhead a_placed a_heaps_cells v_heaps) rfl rfl rfl rfl rfl rfl (ci := 6) rfl rfl (q0 := 1) rfl rfl rfl (Nat.le_of_ble_eq_true rfl) dX7_changeHeaps_5 (fun H locs hP hD hS => ?_)
  refine lv_istore_n (lv' := [(3, .int r1), (0, .ref a_this), (1, .int x1), (2, .int x2)]) hx hb dX7_changeHeaps_8 rfl hl (by decide) rfl (fun ls hl => ?_)
  refine lv_aload_n hx hb dX7_changeHeaps_9 rfl (lv_at hl 1 rfl) ?_
  refine va_get (D := D) (ci := 7) (v := .ref a_heaps) (C := RX7) (T := TX7) (N := 7) hx hb hts in_X7_changeHeaps_X7 hown hK hP 0 rfl rfl 0 (by decide) (hts (.fieldLink RX7 14 "HangingCards$Shifts" "heaps" "LHangingCards$Row;") (List.mem_of_getElem? (i := 1) rfl)) (fun _ h9 => h9) rfl dX7_changeHeaps_10 ?_
  refine lv_iload_n hx hb dX7_changeHeaps_13 rfl (lv_at hl 2 rfl) ?_
  refine lv_iload_n hx hb dX7_changeHeaps_14 rfl (lv_at hl 3 rfl) ?_
  obtain ⟨o2_0, hc2, hf⟩ := wk_b1E hf
  refine wk_callVv2 C hP hD hS (c_X6_set l D cB cI cJ N a_heaps a_heaps_cells 5 v_heaps x1 x2 hc2) (cwV 2 hts gX7_changeHeaps_X6_set rfl rfl rfl hd_X6_set ⟨Nat.le_of_ble_eq_true rfl, Nat.le_of_ble_eq_true rfl⟩) hl.1 ⟨Nat.zero_le _, Nat.zero_le _⟩ [1, 2] [0] 3 (by decide +kernel) rfl (Wn := w_X7_changeHeaps cB cI cJ a_this a_heaps a_speeds a_closed a_hoursOpen a_todo a_hoursAhead a_placed a_heaps_cells o2_0) rfl rfl rfl rfl rfl rfl (ci := 6) rfl rfl (q0 := 1) rfl rfl rfl (Nat.le_of_ble_eq_true rfl) dX7_changeHeaps_15 (fun H locs hP hD hS => ?_)
  refine lv_iload_n hx hb dX7_changeHeaps_18 rfl (lv_at hl 0 rfl) ?_
  exact hret _ _ _ _ _ _ dX7_changeHeaps_19 (wk_rt hf (fun z => z.1)) (wk_rt hf (fun z => w_X7_changeHeaps cB cI cJ a_this a_heaps a_speeds a_closed a_hoursOpen a_todo a_hoursAhead a_placed a_heaps_cells (z.2))) hP hD hS
abbrev w_X7_changeSpeed (cB cI cJ : ClassId) (a_this : Nat) (a_heaps : Nat) (a_speeds : Nat) (a_closed : Nat) (a_hoursOpen : Nat) (a_todo : Nat) (a_hoursAhead : Nat) (a_placed : Nat) (a_speeds_cells : Nat) (v_speeds : Nat → Int32) : va_W := [(a_this, .inr (7, [.ref a_heaps, .ref a_speeds, .ref a_closed, .ref a_hoursOpen, .ref a_todo, .ref a_hoursAhead, .ref a_placed])), (a_speeds, .inr (6, [.ref a_speeds_cells])), (a_speeds_cells, .inl (cI, 5, .inl v_speeds))]
theorem hd_X7_changeSpeed : yX7_changeSpeed.cls = RX7 ∧ yX7_changeSpeed.cls ≠ "java/lang/invoke/MethodHandle" ∧ yX7_changeSpeed.cls ≠ "java/lang/invoke/VarHandle" ∧ (parseMethodDescriptor yX7_changeSpeed.desc).map (fun d => d.parameters.length) = some 2 := by decide +kernel
abbrev rm_X7_changeSpeed : Room := { frames := 1, cells := 0, slots := 0, locals := 22 }
theorem in_X7_changeSpeed_X7 : ∀ w ∈ wsX70, w ∈ wsX7_changeSpeed := fun w h => List.mem_cons_of_mem _ (List.mem_append_left _ (List.mem_append_right _ h))
set_option maxHeartbeats 4000000 in
set_option maxRecDepth 100000 in
theorem c_X7_changeSpeed (l : Launch) (D : va_G) (cB cI cJ : ClassId) (N : Nat) (a_this : Nat) (a_heaps : Nat) (a_speeds : Nat) (a_closed : Nat) (a_hoursOpen : Nat) (a_todo : Nat) (a_hoursAhead : Nat) (a_placed : Nat) (a_speeds_cells : Nat) (v_speeds : Nat → Int32) (x1 : Int32) (x2 : Int32) {r : Int32} {o_speeds : Nat → Int32} (hf : f_X7_changeSpeed N v_speeds x1 x2 = some (r, o_speeds)) : MTi l yX7_changeSpeed wsX7_changeSpeed rm_X7_changeSpeed D (wk_T cB cI cJ) [.ref a_this, .int x1, .int x2] (w_X7_changeSpeed cB cI cJ a_this a_heaps a_speeds a_closed a_hoursOpen a_todo a_hoursAhead a_placed a_speeds_cells v_speeds) (w_X7_changeSpeed cB cI cJ a_this a_heaps a_speeds a_closed a_hoursOpen a_todo a_hoursAhead a_placed a_speeds_cells o_speeds) r := by
  refine MTi.of (cc := cX7_changeSpeed) (nL := 4) (rt := .int) (own := RX7) pn_X7 rfl rfl (Nat.le_of_ble_eq_true rfl) rfl ?_
  intro p e s m args below meth c A ls Q C hP hD hS hl hret
  obtain ⟨hx, hb, hml, hts, hown, hK, hN, hA, hlk⟩ := id C
  have hl : lv_has ls 4 [(0, .ref a_this), (1, .int x1), (2, .int x2)] := hl
  unfold f_X7_changeSpeed at hf
  refine lv_aload_n hx hb dX7_changeSpeed_0 rfl (lv_at hl 0 rfl) ?_
  refine va_get (D := D) (ci := 7) (v := .ref a_speeds) (C := RX7) (T := TX7) (N := 7) hx hb hts in_X7_changeSpeed_X7 hown hK hP 0 rfl rfl 1 (by decide) (hts (.fieldLink RX7 20 "HangingCards$Shifts" "speeds" "LHangingCards$Row;") (List.mem_of_getElem? (i := 1) rfl)) (fun _ h9 => h9) rfl dX7_changeSpeed_1 ?_
  refine lv_iload_n hx hb dX7_changeSpeed_4 rfl (lv_at hl 1 rfl) ?_
  obtain ⟨r1, hc1, hf⟩ := wk_b1E hf
  refine wk_callVi2 C hP hD hS (c_X6_get l D cB cI cJ N a_speeds a_speeds_cells 5 v_speeds x1 hc1) (cwV 1 hts gX7_changeSpeed_X6_get rfl rfl rfl hd_X6_get ⟨Nat.le_of_ble_eq_true rfl, Nat.le_of_ble_eq_true rfl⟩) hl.1 ⟨Nat.zero_le _, Nat.zero_le _⟩ [1, 2] [0] 3 (by decide +kernel) rfl (Wn := w_X7_changeSpeed cB cI cJ a_this a_heaps a_speeds a_closed a_hoursOpen a_todo a_hoursAhead a_placed a_speeds_cells v_speeds) rfl rfl rfl rfl rfl rfl (ci := 6) rfl rfl (q0 := 1) rfl rfl rfl (Nat.le_of_ble_eq_true rfl) dX7_changeSpeed_5 (fun H locs hP hD hS => ?_)
  refine lv_istore_n (lv' := [(3, .int r1), (0, .ref a_this), (1, .int x1), (2, .int x2)]) hx hb dX7_changeSpeed_8 rfl hl (by decide) rfl (fun ls hl => ?_)
  refine lv_aload_n hx hb dX7_changeSpeed_9 rfl (lv_at hl 1 rfl) ?_
  refine va_get (D := D) (ci := 7) (v := .ref a_speeds) (C := RX7) (T := TX7) (N := 7) hx hb hts in_X7_changeSpeed_X7 hown hK hP 0 rfl rfl 1 (by decide) (hts (.fieldLink RX7 20 "HangingCards$Shifts" "speeds" "LHangingCards$Row;") (List.mem_of_getElem? (i := 1) rfl)) (fun _ h9 => h9) rfl dX7_changeSpeed_10 ?_
  refine lv_iload_n hx hb dX7_changeSpeed_13 rfl (lv_at hl 2 rfl) ?_
  refine lv_iload_n hx hb dX7_changeSpeed_14 rfl (lv_at hl 3 rfl) ?_
  obtain ⟨o2_0, hc2, hf⟩ := wk_b1E hf
  refine wk_callVv2 C hP hD hS (c_X6_set l D cB cI cJ N a_speeds a_speeds_cells 5 v_speeds x1 x2 hc2) (cwV 2 hts gX7_changeSpeed_X6_set rfl rfl rfl hd_X6_set ⟨Nat.le_of_ble_eq_true rfl, Nat.le_of_ble_eq_true rfl⟩) hl.1 ⟨Nat.zero_le _, Nat.zero_le _⟩ [1, 2] [0] 3 (by decide +kernel) rfl (Wn := w_X7_changeSpeed cB cI cJ a_this a_heaps a_speeds a_closed a_hoursOpen a_todo a_hoursAhead a_placed a_speeds_cells o2_0) rfl rfl rfl rfl rfl rfl (ci := 6) rfl rfl (q0 := 1) rfl rfl rfl (Nat.le_of_ble_eq_true rfl) dX7_changeSpeed_15 (fun H locs hP hD hS => ?_)
  refine lv_iload_n hx hb dX7_changeSpeed_18 rfl (lv_at hl 0 rfl) ?_
  exact hret _ _ _ _ _ _ dX7_changeSpeed_19 (wk_rt hf (fun z => z.1)) (wk_rt hf (fun z => w_X7_changeSpeed cB cI cJ a_this a_heaps a_speeds a_closed a_hoursOpen a_todo a_hoursAhead a_placed a_speeds_cells (z.2))) hP hD hS
abbrev w_X7_roundedUp (cB cI cJ : ClassId) : va_W := []
theorem hd_X7_roundedUp : yX7_roundedUp.cls = RX7 ∧ yX7_roundedUp.cls ≠ "java/lang/invoke/MethodHandle" ∧ yX7_roundedUp.cls ≠ "java/lang/invoke/VarHandle" ∧ (parseMethodDescriptor yX7_roundedUp.desc).map (fun d => d.parameters.length) = some 2 := by decide +kernel
abbrev rm_X7_roundedUp : Room := { frames := 0, cells := 0, slots := 0, locals := 0 }
set_option maxHeartbeats 4000000 in
set_option maxRecDepth 100000 in
theorem c_X7_roundedUp (l : Launch) (D : va_G) (cB cI cJ : ClassId) (N : Nat) (x0 : Int32) (x1 : Int32) {r : Int32} (hf : f_X7_roundedUp N x0 x1 = some r) : MTi l yX7_roundedUp wsX7_roundedUp rm_X7_roundedUp D (wk_T cB cI cJ) [.int x0, .int x1] (w_X7_roundedUp cB cI cJ) (w_X7_roundedUp cB cI cJ) r := by
  refine MTi.of (cc := cX7_roundedUp) (nL := 2) (rt := .int) (own := RX7) pn_X7 rfl rfl (Nat.le_of_ble_eq_true rfl) rfl ?_
  intro p e s m args below meth c A ls Q C hP hD hS hl hret
  obtain ⟨hx, hb, hml, hts, hown, hK, hN, hA, hlk⟩ := id C
  have hl : lv_has ls 2 [(0, .int x0), (1, .int x1)] := hl
  unfold f_X7_roundedUp at hf
  refine lv_iload_n hx hb dX7_roundedUp_0 rfl (lv_at hl 1 rfl) ?_
  refine lv_iconst (v := (1 : Int32)) hx hb dX7_roundedUp_1 (by decide) ?_
  refine lv_icmp_ge (tgt := 10) hx hb dX7_roundedUp_2 (by decide) (fun c1 => ?_) (fun c1 => ?_)
  · have hf := wk_itT hf c1
    refine lv_iload_n hx hb dX7_roundedUp_10 rfl (lv_at hl 0 rfl) ?_
    refine lv_iload_n hx hb dX7_roundedUp_11 rfl (lv_at hl 1 rfl) ?_
    refine lv_iadd hx hb dX7_roundedUp_12 ?_
    refine lv_iconst (v := (1 : Int32)) hx hb dX7_roundedUp_13 (by decide) ?_
    refine lv_isub hx hb dX7_roundedUp_14 ?_
    refine lv_iload_n hx hb dX7_roundedUp_15 rfl (lv_at hl 1 rfl) ?_
    obtain ⟨hz2, hf⟩ := wk_dvE hf
    refine lv_idiv hx hb dX7_roundedUp_16 hz2 ?_
    exact hret _ _ _ _ _ _ dX7_roundedUp_17 (wk_rt hf (fun z => z)) rfl hP hD hS
  · have hf := wk_itF hf c1
    refine lv_ldc (v := (1000000 : Int32)) hx hb hown (hts (.constant RX7 61 (1000000)) (List.mem_of_getElem? (i := 1) rfl)) dX7_roundedUp_5 ?_
    refine lv_goto (tgt := 17) hx hb dX7_roundedUp_7 (by decide) ?_
    exact hret _ _ _ _ _ _ dX7_roundedUp_17 (wk_rt hf (fun z => z)) rfl hP hD hS
abbrev w_X7_workOf (cB cI cJ : ClassId) (a_this : Nat) (a_heaps : Nat) (a_speeds : Nat) (a_closed : Nat) (a_hoursOpen : Nat) (a_todo : Nat) (a_hoursAhead : Nat) (a_placed : Nat) (a_heaps_cells : Nat) (a_speeds_cells : Nat) (v_heaps : Nat → Int32) (v_speeds : Nat → Int32) : va_W := [(a_this, .inr (7, [.ref a_heaps, .ref a_speeds, .ref a_closed, .ref a_hoursOpen, .ref a_todo, .ref a_hoursAhead, .ref a_placed])), (a_heaps, .inr (6, [.ref a_heaps_cells])), (a_heaps_cells, .inl (cI, 5, .inl v_heaps)), (a_speeds, .inr (6, [.ref a_speeds_cells])), (a_speeds_cells, .inl (cI, 5, .inl v_speeds))]
theorem hd_X7_workOf : yX7_workOf.cls = RX7 ∧ yX7_workOf.cls ≠ "java/lang/invoke/MethodHandle" ∧ yX7_workOf.cls ≠ "java/lang/invoke/VarHandle" ∧ (parseMethodDescriptor yX7_workOf.desc).map (fun d => d.parameters.length) = some 1 := by decide +kernel
abbrev rm_X7_workOf : Room := { frames := 1, cells := 0, slots := 0, locals := 21 }
theorem in_X7_workOf_X7 : ∀ w ∈ wsX70, w ∈ wsX7_workOf := fun w h => List.mem_cons_of_mem _ (List.mem_append_left _ (List.mem_append_right _ h))
set_option maxHeartbeats 4000000 in
set_option maxRecDepth 100000 in
theorem c_X7_workOf (l : Launch) (D : va_G) (cB cI cJ : ClassId) (N : Nat) (a_this : Nat) (a_heaps : Nat) (a_speeds : Nat) (a_closed : Nat) (a_hoursOpen : Nat) (a_todo : Nat) (a_hoursAhead : Nat) (a_placed : Nat) (a_heaps_cells : Nat) (a_speeds_cells : Nat) (v_heaps : Nat → Int32) (v_speeds : Nat → Int32) (x1 : Int32) {r : Int32} (hf : f_X7_workOf N v_heaps v_speeds x1 = some r) : MTi l yX7_workOf wsX7_workOf rm_X7_workOf D (wk_T cB cI cJ) [.ref a_this, .int x1] (w_X7_workOf cB cI cJ a_this a_heaps a_speeds a_closed a_hoursOpen a_todo a_hoursAhead a_placed a_heaps_cells a_speeds_cells v_heaps v_speeds) (w_X7_workOf cB cI cJ a_this a_heaps a_speeds a_closed a_hoursOpen a_todo a_hoursAhead a_placed a_heaps_cells a_speeds_cells v_heaps v_speeds) r := by
  refine MTi.of (cc := cX7_workOf) (nL := 2) (rt := .int) (own := RX7) pn_X7 rfl rfl (Nat.le_of_ble_eq_true rfl) rfl ?_
  intro p e s m args below meth c A ls Q C hP hD hS hl hret
  obtain ⟨hx, hb, hml, hts, hown, hK, hN, hA, hlk⟩ := id C
  have hl : lv_has ls 2 [(0, .ref a_this), (1, .int x1)] := hl
  unfold f_X7_workOf at hf
  refine lv_aload_n hx hb dX7_workOf_0 rfl (lv_at hl 0 rfl) ?_
  refine va_get (D := D) (ci := 7) (v := .ref a_heaps) (C := RX7) (T := TX7) (N := 7) hx hb hts in_X7_workOf_X7 hown hK hP 0 rfl rfl 0 (by decide) (hts (.fieldLink RX7 14 "HangingCards$Shifts" "heaps" "LHangingCards$Row;") (List.mem_of_getElem? (i := 1) rfl)) (fun _ h9 => h9) rfl dX7_workOf_1 ?_
  refine lv_iload_n hx hb dX7_workOf_4 rfl (lv_at hl 1 rfl) ?_
  obtain ⟨r1, hc1, hf⟩ := wk_b1E hf
  refine wk_callVi2 C hP hD hS (c_X6_get l D cB cI cJ N a_heaps a_heaps_cells 5 v_heaps x1 hc1) (cwV 1 hts gX7_workOf_X6_get rfl rfl rfl hd_X6_get ⟨Nat.le_of_ble_eq_true rfl, Nat.le_of_ble_eq_true rfl⟩) hl.1 ⟨Nat.zero_le _, Nat.zero_le _⟩ [1, 2] [0, 3, 4] 5 (by decide +kernel) rfl (Wn := w_X7_workOf cB cI cJ a_this a_heaps a_speeds a_closed a_hoursOpen a_todo a_hoursAhead a_placed a_heaps_cells a_speeds_cells v_heaps v_speeds) rfl rfl rfl rfl rfl rfl (ci := 6) rfl rfl (q0 := 1) rfl rfl rfl (Nat.le_of_ble_eq_true rfl) dX7_workOf_5 (fun H locs hP hD hS => ?_)
  refine lv_aload_n hx hb dX7_workOf_8 rfl (lv_at hl 0 rfl) ?_
  refine va_get (D := D) (ci := 7) (v := .ref a_speeds) (C := RX7) (T := TX7) (N := 7) hx hb hts in_X7_workOf_X7 hown hK hP 0 rfl rfl 1 (by decide) (hts (.fieldLink RX7 20 "HangingCards$Shifts" "speeds" "LHangingCards$Row;") (List.mem_of_getElem? (i := 2) rfl)) (fun _ h9 => h9) rfl dX7_workOf_9 ?_
  refine lv_iload_n hx hb dX7_workOf_12 rfl (lv_at hl 1 rfl) ?_
  obtain ⟨r2, hc2, hf⟩ := wk_b1E hf
  refine wk_callVi2 C hP hD hS (c_X6_get l D cB cI cJ N a_speeds a_speeds_cells 5 v_speeds x1 hc2) (cwV 1 hts gX7_workOf_X6_get rfl rfl rfl hd_X6_get ⟨Nat.le_of_ble_eq_true rfl, Nat.le_of_ble_eq_true rfl⟩) hl.1 ⟨Nat.zero_le _, Nat.zero_le _⟩ [3, 4] [0, 1, 2] 5 (by decide +kernel) rfl (Wn := w_X7_workOf cB cI cJ a_this a_heaps a_speeds a_closed a_hoursOpen a_todo a_hoursAhead a_placed a_heaps_cells a_speeds_cells v_heaps v_speeds) rfl rfl rfl rfl rfl rfl (ci := 6) rfl rfl (q0 := 3) rfl rfl rfl (Nat.le_of_ble_eq_true rfl) dX7_workOf_13 (fun H locs hP hD hS => ?_)
  obtain ⟨r3, hc3, hf⟩ := wk_b1E hf
  refine wk_callSi2 C hP hD hS (c_X7_roundedUp l D cB cI cJ N r1 r2 hc3) (va_cwS 2 hts gX7_workOf_X7_roundedUp rfl rfl rfl hd_X7_roundedUp.2 ⟨Nat.le_of_ble_eq_true rfl, Nat.le_of_ble_eq_true rfl⟩) hl.1 ⟨Nat.zero_le _, Nat.zero_le _⟩ [] [0, 1, 2, 3, 4] 5 (by decide +kernel) rfl (Wn := w_X7_workOf cB cI cJ a_this a_heaps a_speeds a_closed a_hoursOpen a_todo a_hoursAhead a_placed a_heaps_cells a_speeds_cells v_heaps v_speeds) rfl rfl rfl rfl rfl rfl rfl rfl (Nat.le_of_ble_eq_true rfl) dX7_workOf_16 (fun H locs hP hD hS => ?_)
  exact hret _ _ _ _ _ _ dX7_workOf_19 (wk_rt hf (fun z => z)) rfl hP hD hS
abbrev w_X7_sortHours (cB cI cJ : ClassId) (a_this : Nat) (a_heaps : Nat) (a_speeds : Nat) (a_closed : Nat) (a_hoursOpen : Nat) (a_todo : Nat) (a_hoursAhead : Nat) (a_placed : Nat) (a_closed_cells : Nat) (a_hoursOpen_cells : Nat) (v_closed : Nat → Int32) (v_hoursOpen : Nat → Int32) : va_W := [(a_this, .inr (7, [.ref a_heaps, .ref a_speeds, .ref a_closed, .ref a_hoursOpen, .ref a_todo, .ref a_hoursAhead, .ref a_placed])), (a_closed, .inr (6, [.ref a_closed_cells])), (a_closed_cells, .inl (cI, 1000, .inl v_closed)), (a_hoursOpen, .inr (6, [.ref a_hoursOpen_cells])), (a_hoursOpen_cells, .inl (cI, 32, .inl v_hoursOpen))]
theorem hd_X7_sortHours : yX7_sortHours.cls = RX7 ∧ yX7_sortHours.cls ≠ "java/lang/invoke/MethodHandle" ∧ yX7_sortHours.cls ≠ "java/lang/invoke/VarHandle" ∧ (parseMethodDescriptor yX7_sortHours.desc).map (fun d => d.parameters.length) = some 2 := by decide +kernel
abbrev rm_X7_sortHours : Room := { frames := 2, cells := 0, slots := 0, locals := 44 }
theorem in_X7_sortHours_X7 : ∀ w ∈ wsX70, w ∈ wsX7_sortHours := fun w h => List.mem_cons_of_mem _ (List.mem_append_left _ (List.mem_append_right _ h))
set_option maxHeartbeats 4000000 in
set_option maxRecDepth 100000 in
theorem c_X7_sortHours (l : Launch) (D : va_G) (cB cI cJ : ClassId) (N : Nat) (a_this : Nat) (a_heaps : Nat) (a_speeds : Nat) (a_closed : Nat) (a_hoursOpen : Nat) (a_todo : Nat) (a_hoursAhead : Nat) (a_placed : Nat) (a_closed_cells : Nat) (a_hoursOpen_cells : Nat) (v_closed : Nat → Int32) (v_hoursOpen : Nat → Int32) (x1 : Int32) (x2 : Int32) {o_hoursOpen : Nat → Int32} (hf : f_X7_sortHours N v_closed v_hoursOpen x1 x2 = some o_hoursOpen) : MTv l yX7_sortHours wsX7_sortHours rm_X7_sortHours D (wk_T cB cI cJ) [.ref a_this, .int x1, .int x2] (w_X7_sortHours cB cI cJ a_this a_heaps a_speeds a_closed a_hoursOpen a_todo a_hoursAhead a_placed a_closed_cells a_hoursOpen_cells v_closed v_hoursOpen) (w_X7_sortHours cB cI cJ a_this a_heaps a_speeds a_closed a_hoursOpen a_todo a_hoursAhead a_placed a_closed_cells a_hoursOpen_cells v_closed o_hoursOpen) := by
  refine MTv.of (cc := cX7_sortHours) (nL := 4) (own := RX7) pn_X7 rfl rfl (Nat.le_of_ble_eq_true rfl) ?_
  intro p e s m args below meth c A ls Q C hP hD hS hl hret
  obtain ⟨hx, hb, hml, hts, hown, hK, hN, hA, hlk⟩ := id C
  have hl : lv_has ls 4 [(0, .ref a_this), (1, .int x1), (2, .int x2)] := hl
  have L10 := wk_loopI (F := (fun k10 : (Nat → Int32) → Int32 → Int32 → Option (Nat → Int32) => B_X7_sortHours_10 N v_closed k10)) (bot := fun _ _ _ => none) (fun k10 : (Nat → Int32) → Int32 → Int32 → Option (Nat → Int32) => ∀ (v_hoursOpen : Nat → Int32) (x2 : Int32) (x3 : Int32), k10 v_hoursOpen x2 x3 = some o_hoursOpen → ∀ (H : Heap) (locs : List Loc) (ls : Array Slot), va_P D vwCl (w_X7_sortHours cB cI cJ a_this a_heaps a_speeds a_closed a_hoursOpen a_todo a_hoursAhead a_placed a_closed_cells a_hoursOpen_cells v_closed v_hoursOpen) H → va_D A (w_X7_sortHours cB cI cJ a_this a_heaps a_speeds a_closed a_hoursOpen a_todo a_hoursAhead a_placed a_closed_cells a_hoursOpen_cells v_closed v_hoursOpen) → va_S A s.heap H locs → lv_has ls 4 [(0, .ref a_this), (2, .int x2), (3, .int x3)] → W p l e rm_X7_sortHours s m args below meth c H locs 0 0 Q (F0 m 10 ls [])) (by intro v_hoursOpen x2 x3 hf; exact wk_no hf) (by
    intro k10 ih10
    intro v_hoursOpen x2 x3 hf H locs ls hP hD hS hl
    have hf : B_X7_sortHours_10 N v_closed k10 v_hoursOpen x2 x3 = some o_hoursOpen := hf
    unfold B_X7_sortHours_10 at hf
    refine lv_iload_n hx hb dX7_sortHours_10 rfl (lv_at hl 2 rfl) ?_
    refine lv_iload_n hx hb dX7_sortHours_11 rfl (lv_at hl 1 rfl) ?_
    refine lv_icmp_ge (tgt := 40) hx hb dX7_sortHours_12 (by decide) (fun c1 => ?_) (fun c1 => ?_)
    · have hf := wk_itT hf c1
      exact hret _ _ _ _ _ dX7_sortHours_40 (wk_rt hf (fun z => w_X7_sortHours cB cI cJ a_this a_heaps a_speeds a_closed a_hoursOpen a_todo a_hoursAhead a_placed a_closed_cells a_hoursOpen_cells v_closed z)) hP hD hS
    · have hf := wk_itF hf c1
      refine lv_aload_n hx hb dX7_sortHours_15 rfl (lv_at hl 0 rfl) ?_
      refine va_get (D := D) (ci := 7) (v := .ref a_hoursOpen) (C := RX7) (T := TX7) (N := 7) hx hb hts in_X7_sortHours_X7 hown hK hP 0 rfl rfl 3 (by decide) (hts (.fieldLink RX7 26 "HangingCards$Shifts" "hoursOpen" "LHangingCards$Row;") (List.mem_of_getElem? (i := 1) rfl)) (fun _ h9 => h9) rfl dX7_sortHours_16 ?_
      refine lv_bipush (v := (31 : Int32)) hx hb dX7_sortHours_19 (by decide) ?_
      refine lv_aload_n hx hb dX7_sortHours_21 rfl (lv_at hl 0 rfl) ?_
      refine va_get (D := D) (ci := 7) (v := .ref a_closed) (C := RX7) (T := TX7) (N := 7) hx hb hts in_X7_sortHours_X7 hown hK hP 0 rfl rfl 2 (by decide) (hts (.fieldLink RX7 23 "HangingCards$Shifts" "closed" "LHangingCards$Row;") (List.mem_of_getElem? (i := 2) rfl)) (fun _ h9 => h9) rfl dX7_sortHours_22 ?_
      refine lv_iload_n hx hb dX7_sortHours_25 rfl (lv_at hl 2 rfl) ?_
      obtain ⟨r2, hc2, hf⟩ := wk_b1E hf
      refine wk_callVi2 C hP hD hS (c_X6_get l D cB cI cJ N a_closed a_closed_cells 1000 v_closed x3 hc2) (cwV 1 hts gX7_sortHours_X6_get rfl rfl rfl hd_X6_get ⟨Nat.le_of_ble_eq_true rfl, Nat.le_of_ble_eq_true rfl⟩) hl.1 ⟨Nat.zero_le _, Nat.zero_le _⟩ [1, 2] [0, 3, 4] 5 (by decide +kernel) rfl (Wn := w_X7_sortHours cB cI cJ a_this a_heaps a_speeds a_closed a_hoursOpen a_todo a_hoursAhead a_placed a_closed_cells a_hoursOpen_cells v_closed v_hoursOpen) rfl rfl rfl rfl rfl rfl (ci := 6) rfl rfl (q0 := 1) rfl rfl rfl (Nat.le_of_ble_eq_true rfl) dX7_sortHours_26 (fun H locs hP hD hS => ?_)
      refine lv_isub hx hb dX7_sortHours_29 ?_
      refine lv_iconst (v := (1 : Int32)) hx hb dX7_sortHours_30 (by decide) ?_
      obtain ⟨o3_0, hc3, hf⟩ := wk_b1E hf
      refine wk_callVv2 C hP hD hS (c_X6_add l D cB cI cJ N a_hoursOpen a_hoursOpen_cells 32 v_hoursOpen ((31 : Int32) - r2) (1 : Int32) hc3) (cwV 2 hts gX7_sortHours_X6_add rfl rfl rfl hd_X6_add ⟨Nat.le_of_ble_eq_true rfl, Nat.le_of_ble_eq_true rfl⟩) hl.1 ⟨Nat.zero_le _, Nat.zero_le _⟩ [3, 4] [0, 1, 2] 5 (by decide +kernel) rfl (Wn := w_X7_sortHours cB cI cJ a_this a_heaps a_speeds a_closed a_hoursOpen a_todo a_hoursAhead a_placed a_closed_cells a_hoursOpen_cells v_closed o3_0) rfl rfl rfl rfl rfl rfl (ci := 6) rfl rfl (q0 := 3) rfl rfl rfl (Nat.le_of_ble_eq_true rfl) dX7_sortHours_31 (fun H locs hP hD hS => ?_)
      obtain ⟨y4, ey4⟩ : ∃ y : Int32, y = x3 + (1 : Int32) := ⟨_, rfl⟩
      have hf := wk_nmE hf ey4
      refine lv_iinc (v := y4) (lv' := [(3, .int y4), (0, .ref a_this), (2, .int x2)]) hx hb dX7_sortHours_34 hl (k := 2) rfl (by rw [ey4]; rfl) (by decide) rfl (fun ls hl => ?_)
      refine lv_goto (tgt := 10) hx hb dX7_sortHours_37 (by decide) ?_
      exact ih10 _ _ _ hf _ _ _ hP hD hS (lv_sub hl [1, 2, 0] rfl))
  unfold f_X7_sortHours at hf
  refine lv_aload_n hx hb dX7_sortHours_0 rfl (lv_at hl 0 rfl) ?_
  refine va_get (D := D) (ci := 7) (v := .ref a_hoursOpen) (C := RX7) (T := TX7) (N := 7) hx hb hts in_X7_sortHours_X7 hown hK hP 0 rfl rfl 3 (by decide) (hts (.fieldLink RX7 26 "HangingCards$Shifts" "hoursOpen" "LHangingCards$Row;") (List.mem_of_getElem? (i := 1) rfl)) (fun _ h9 => h9) rfl dX7_sortHours_1 ?_
  refine lv_iconst (v := (0 : Int32)) hx hb dX7_sortHours_4 (by decide) ?_
  obtain ⟨o5_0, hc5, hf⟩ := wk_b1E hf
  refine wk_callVv2 C hP hD hS (c_X6_fill l D cB cI cJ N a_hoursOpen a_hoursOpen_cells 32 v_hoursOpen (0 : Int32) hc5) (cwV 1 hts gX7_sortHours_X6_fill rfl rfl rfl hd_X6_fill ⟨Nat.le_of_ble_eq_true rfl, Nat.le_of_ble_eq_true rfl⟩) hl.1 ⟨Nat.zero_le _, Nat.zero_le _⟩ [3, 4] [0, 1, 2] 5 (by decide +kernel) rfl (Wn := w_X7_sortHours cB cI cJ a_this a_heaps a_speeds a_closed a_hoursOpen a_todo a_hoursAhead a_placed a_closed_cells a_hoursOpen_cells v_closed o5_0) rfl rfl rfl rfl rfl rfl (ci := 6) rfl rfl (q0 := 3) rfl rfl rfl (Nat.le_of_ble_eq_true rfl) dX7_sortHours_5 (fun H locs hP hD hS => ?_)
  refine lv_iload_n hx hb dX7_sortHours_8 rfl (lv_at hl 1 rfl) ?_
  refine lv_istore_n (lv' := [(3, .int x1), (0, .ref a_this), (1, .int x1), (2, .int x2)]) hx hb dX7_sortHours_9 rfl hl (by decide) rfl (fun ls hl => ?_)
  exact L10 N _ _ _ hf _ _ _ hP hD hS (lv_sub hl [1, 3, 0] rfl)
abbrev w_X7_hoursFor (cB cI cJ : ClassId) (a_this : Nat) (a_heaps : Nat) (a_speeds : Nat) (a_closed : Nat) (a_hoursOpen : Nat) (a_todo : Nat) (a_hoursAhead : Nat) (a_placed : Nat) (a_hoursOpen_cells : Nat) (v_hoursOpen : Nat → Int32) : va_W := [(a_this, .inr (7, [.ref a_heaps, .ref a_speeds, .ref a_closed, .ref a_hoursOpen, .ref a_todo, .ref a_hoursAhead, .ref a_placed])), (a_hoursOpen, .inr (6, [.ref a_hoursOpen_cells])), (a_hoursOpen_cells, .inl (cI, 32, .inl v_hoursOpen))]
theorem hd_X7_hoursFor : yX7_hoursFor.cls = RX7 ∧ yX7_hoursFor.cls ≠ "java/lang/invoke/MethodHandle" ∧ yX7_hoursFor.cls ≠ "java/lang/invoke/VarHandle" ∧ (parseMethodDescriptor yX7_hoursFor.desc).map (fun d => d.parameters.length) = some 1 := by decide +kernel
abbrev rm_X7_hoursFor : Room := { frames := 1, cells := 0, slots := 0, locals := 21 }
theorem in_X7_hoursFor_X7 : ∀ w ∈ wsX70, w ∈ wsX7_hoursFor := fun w h => List.mem_cons_of_mem _ (List.mem_append_left _ (List.mem_append_right _ h))
set_option maxHeartbeats 4000000 in
set_option maxRecDepth 100000 in
theorem c_X7_hoursFor (l : Launch) (D : va_G) (cB cI cJ : ClassId) (N : Nat) (a_this : Nat) (a_heaps : Nat) (a_speeds : Nat) (a_closed : Nat) (a_hoursOpen : Nat) (a_todo : Nat) (a_hoursAhead : Nat) (a_placed : Nat) (a_hoursOpen_cells : Nat) (v_hoursOpen : Nat → Int32) (x1 : Int32) {r : Int32} (hf : f_X7_hoursFor N v_hoursOpen x1 = some r) : MTi l yX7_hoursFor wsX7_hoursFor rm_X7_hoursFor D (wk_T cB cI cJ) [.ref a_this, .int x1] (w_X7_hoursFor cB cI cJ a_this a_heaps a_speeds a_closed a_hoursOpen a_todo a_hoursAhead a_placed a_hoursOpen_cells v_hoursOpen) (w_X7_hoursFor cB cI cJ a_this a_heaps a_speeds a_closed a_hoursOpen a_todo a_hoursAhead a_placed a_hoursOpen_cells v_hoursOpen) r := by
  refine MTi.of (cc := cX7_hoursFor) (nL := 4) (rt := .int) (own := RX7) pn_X7 rfl rfl (Nat.le_of_ble_eq_true rfl) rfl ?_
  intro p e s m args below meth c A ls Q C hP hD hS hl hret
  obtain ⟨hx, hb, hml, hts, hown, hK, hN, hA, hlk⟩ := id C
  have hl : lv_has ls 4 [(0, .ref a_this), (1, .int x1)] := hl
  have L4 := wk_loopI (F := (fun k4 : Int32 → Int32 → Int32 → Option Int32 => B_X7_hoursFor_4 N v_hoursOpen k4)) (bot := fun _ _ _ => none) (fun k4 : Int32 → Int32 → Int32 → Option Int32 => ∀ (x1 : Int32) (x2 : Int32) (x3 : Int32), k4 x1 x2 x3 = some r → ∀ (H : Heap) (locs : List Loc) (ls : Array Slot), va_P D vwCl (w_X7_hoursFor cB cI cJ a_this a_heaps a_speeds a_closed a_hoursOpen a_todo a_hoursAhead a_placed a_hoursOpen_cells v_hoursOpen) H → va_D A (w_X7_hoursFor cB cI cJ a_this a_heaps a_speeds a_closed a_hoursOpen a_todo a_hoursAhead a_placed a_hoursOpen_cells v_hoursOpen) → va_S A s.heap H locs → lv_has ls 4 [(0, .ref a_this), (1, .int x1), (2, .int x2), (3, .int x3)] → W p l e rm_X7_hoursFor s m args below meth c H locs 0 0 Q (F0 m 4 ls [])) (by intro x1 x2 x3 hf; exact wk_no hf) (by
    intro k4 ih4
    intro x1 x2 x3 hf H locs ls hP hD hS hl
    have hf : B_X7_hoursFor_4 N v_hoursOpen k4 x1 x2 x3 = some r := hf
    unfold B_X7_hoursFor_4 at hf
    refine lv_iload_n hx hb dX7_hoursFor_4 rfl (lv_at hl 3 rfl) ?_
    refine lv_bipush (v := (32 : Int32)) hx hb dX7_hoursFor_5 (by decide) ?_
    refine lv_icmp_ge (tgt := 33) hx hb dX7_hoursFor_7 (by decide) (fun c1 => ?_) (fun c1 => ?_)
    · have hf := wk_itT hf c1
      refine lv_iload_n hx hb dX7_hoursFor_33 rfl (lv_at hl 2 rfl) ?_
      exact hret _ _ _ _ _ _ dX7_hoursFor_34 (wk_rt hf (fun z => z)) rfl hP hD hS
    · have hf := wk_itF hf c1
      refine lv_iload_n hx hb dX7_hoursFor_10 rfl (lv_at hl 3 rfl) ?_
      refine lv_iload_n hx hb dX7_hoursFor_11 rfl (lv_at hl 1 rfl) ?_
      refine lv_iand hx hb dX7_hoursFor_12 ?_
      refine lv_if_eq (tgt := 27) hx hb dX7_hoursFor_13 (by decide) (fun c2 => ?_) (fun c2 => ?_)
      · have hf := wk_itT hf c2
        obtain ⟨y3, ey3⟩ : ∃ y : Int32, y = x3 + (1 : Int32) := ⟨_, rfl⟩
        have hf := wk_nmE hf ey3
        refine lv_iinc (v := y3) (lv' := [(3, .int y3), (0, .ref a_this), (1, .int x1), (2, .int x2)]) hx hb dX7_hoursFor_27 hl (k := 3) rfl (by rw [ey3]; rfl) (by decide) rfl (fun ls hl => ?_)
        refine lv_goto (tgt := 4) hx hb dX7_hoursFor_30 (by decide) ?_
        exact ih4 _ _ _ hf _ _ _ hP hD hS (lv_sub hl [1, 2, 3, 0] rfl)
      · have hf := wk_itF hf c2
        refine lv_iload_n hx hb dX7_hoursFor_16 rfl (lv_at hl 2 rfl) ?_
        refine lv_aload_n hx hb dX7_hoursFor_17 rfl (lv_at hl 0 rfl) ?_
        refine va_get (D := D) (ci := 7) (v := .ref a_hoursOpen) (C := RX7) (T := TX7) (N := 7) hx hb hts in_X7_hoursFor_X7 hown hK hP 0 rfl rfl 3 (by decide) (hts (.fieldLink RX7 26 "HangingCards$Shifts" "hoursOpen" "LHangingCards$Row;") (List.mem_of_getElem? (i := 1) rfl)) (fun _ h9 => h9) rfl dX7_hoursFor_18 ?_
        refine lv_iload_n hx hb dX7_hoursFor_21 rfl (lv_at hl 3 rfl) ?_
        obtain ⟨r4, hc4, hf⟩ := wk_b1E hf
        refine wk_callVi2 C hP hD hS (c_X6_get l D cB cI cJ N a_hoursOpen a_hoursOpen_cells 32 v_hoursOpen x3 hc4) (cwV 1 hts gX7_hoursFor_X6_get rfl rfl rfl hd_X6_get ⟨Nat.le_of_ble_eq_true rfl, Nat.le_of_ble_eq_true rfl⟩) hl.1 ⟨Nat.zero_le _, Nat.zero_le _⟩ [1, 2] [0] 3 (by decide +kernel) rfl (Wn := w_X7_hoursFor cB cI cJ a_this a_heaps a_speeds a_closed a_hoursOpen a_todo a_hoursAhead a_placed a_hoursOpen_cells v_hoursOpen) rfl rfl rfl rfl rfl rfl (ci := 6) rfl rfl (q0 := 1) rfl rfl rfl (Nat.le_of_ble_eq_true rfl) dX7_hoursFor_22 (fun H locs hP hD hS => ?_)
        refine lv_iadd hx hb dX7_hoursFor_25 ?_
        refine lv_topi (fun y5 ey5 => ?_)
        have hf := wk_nmE hf ey5
        refine lv_istore_n (lv' := [(2, .int y5), (0, .ref a_this), (1, .int x1), (3, .int x3)]) hx hb dX7_hoursFor_26 rfl hl (by decide) rfl (fun ls hl => ?_)
        obtain ⟨y6, ey6⟩ : ∃ y : Int32, y = x3 + (1 : Int32) := ⟨_, rfl⟩
        have hf := wk_nmE hf ey6
        refine lv_iinc (v := y6) (lv' := [(3, .int y6), (2, .int y5), (0, .ref a_this), (1, .int x1)]) hx hb dX7_hoursFor_27 hl (k := 3) rfl (by rw [ey6]; rfl) (by decide) rfl (fun ls hl => ?_)
        refine lv_goto (tgt := 4) hx hb dX7_hoursFor_30 (by decide) ?_
        exact ih4 _ _ _ hf _ _ _ hP hD hS (lv_sub hl [2, 3, 1, 0] rfl))
  unfold f_X7_hoursFor at hf
  refine lv_iconst (v := (0 : Int32)) hx hb dX7_hoursFor_0 (by decide) ?_
  refine lv_istore_n (lv' := [(2, .int (0 : Int32)), (0, .ref a_this), (1, .int x1)]) hx hb dX7_hoursFor_1 rfl hl (by decide) rfl (fun ls hl => ?_)
  refine lv_iconst (v := (1 : Int32)) hx hb dX7_hoursFor_2 (by decide) ?_
  refine lv_istore_n (lv' := [(3, .int (1 : Int32)), (2, .int (0 : Int32)), (0, .ref a_this), (1, .int x1)]) hx hb dX7_hoursFor_3 rfl hl (by decide) rfl (fun ls hl => ?_)
  exact L4 N _ _ _ hf _ _ _ hP hD hS (lv_sub hl [2, 3, 1, 0] rfl)
abbrev w_X7_handsFor (cB cI cJ : ClassId) (a_this : Nat) (a_heaps : Nat) (a_speeds : Nat) (a_closed : Nat) (a_hoursOpen : Nat) (a_todo : Nat) (a_hoursAhead : Nat) (a_placed : Nat) (a_heaps_cells : Nat) (a_hoursOpen_cells : Nat) (a_speeds_cells : Nat) (v_heaps : Nat → Int32) (v_hoursOpen : Nat → Int32) (v_speeds : Nat → Int32) : va_W := [(a_this, .inr (7, [.ref a_heaps, .ref a_speeds, .ref a_closed, .ref a_hoursOpen, .ref a_todo, .ref a_hoursAhead, .ref a_placed])), (a_heaps, .inr (6, [.ref a_heaps_cells])), (a_heaps_cells, .inl (cI, 5, .inl v_heaps)), (a_hoursOpen, .inr (6, [.ref a_hoursOpen_cells])), (a_hoursOpen_cells, .inl (cI, 32, .inl v_hoursOpen)), (a_speeds, .inr (6, [.ref a_speeds_cells])), (a_speeds_cells, .inl (cI, 5, .inl v_speeds))]
theorem hd_X7_handsFor : yX7_handsFor.cls = RX7 ∧ yX7_handsFor.cls ≠ "java/lang/invoke/MethodHandle" ∧ yX7_handsFor.cls ≠ "java/lang/invoke/VarHandle" ∧ (parseMethodDescriptor yX7_handsFor.desc).map (fun d => d.parameters.length) = some 1 := by decide +kernel
abbrev rm_X7_handsFor : Room := { frames := 2, cells := 0, slots := 0, locals := 44 }
set_option maxHeartbeats 4000000 in
set_option maxRecDepth 100000 in
theorem c_X7_handsFor (l : Launch) (D : va_G) (cB cI cJ : ClassId) (N : Nat) (a_this : Nat) (a_heaps : Nat) (a_speeds : Nat) (a_closed : Nat) (a_hoursOpen : Nat) (a_todo : Nat) (a_hoursAhead : Nat) (a_placed : Nat) (a_heaps_cells : Nat) (a_hoursOpen_cells : Nat) (a_speeds_cells : Nat) (v_heaps : Nat → Int32) (v_hoursOpen : Nat → Int32) (v_speeds : Nat → Int32) (x1 : Int32) {r : Int32} (hf : f_X7_handsFor N v_heaps v_hoursOpen v_speeds x1 = some r) : MTi l yX7_handsFor wsX7_handsFor rm_X7_handsFor D (wk_T cB cI cJ) [.ref a_this, .int x1] (w_X7_handsFor cB cI cJ a_this a_heaps a_speeds a_closed a_hoursOpen a_todo a_hoursAhead a_placed a_heaps_cells a_hoursOpen_cells a_speeds_cells v_heaps v_hoursOpen v_speeds) (w_X7_handsFor cB cI cJ a_this a_heaps a_speeds a_closed a_hoursOpen a_todo a_hoursAhead a_placed a_heaps_cells a_hoursOpen_cells a_speeds_cells v_heaps v_hoursOpen v_speeds) r := by
  refine MTi.of (cc := cX7_handsFor) (nL := 4) (rt := .int) (own := RX7) pn_X7 rfl rfl (Nat.le_of_ble_eq_true rfl) rfl ?_
  intro p e s m args below meth c A ls Q C hP hD hS hl hret
  obtain ⟨hx, hb, hml, hts, hown, hK, hN, hA, hlk⟩ := id C
  have hl : lv_has ls 4 [(0, .ref a_this), (1, .int x1)] := hl
  have L4 := wk_loopI (F := (fun k4 : Int32 → Int32 → Int32 → Option Int32 => B_X7_handsFor_4 N v_heaps v_hoursOpen v_speeds k4)) (bot := fun _ _ _ => none) (fun k4 : Int32 → Int32 → Int32 → Option Int32 => ∀ (x1 : Int32) (x2 : Int32) (x3 : Int32), k4 x1 x2 x3 = some r → ∀ (H : Heap) (locs : List Loc) (ls : Array Slot), va_P D vwCl (w_X7_handsFor cB cI cJ a_this a_heaps a_speeds a_closed a_hoursOpen a_todo a_hoursAhead a_placed a_heaps_cells a_hoursOpen_cells a_speeds_cells v_heaps v_hoursOpen v_speeds) H → va_D A (w_X7_handsFor cB cI cJ a_this a_heaps a_speeds a_closed a_hoursOpen a_todo a_hoursAhead a_placed a_heaps_cells a_hoursOpen_cells a_speeds_cells v_heaps v_hoursOpen v_speeds) → va_S A s.heap H locs → lv_has ls 4 [(0, .ref a_this), (1, .int x1), (2, .int x2), (3, .int x3)] → W p l e rm_X7_handsFor s m args below meth c H locs 0 0 Q (F0 m 4 ls [])) (by intro x1 x2 x3 hf; exact wk_no hf) (by
    intro k4 ih4
    intro x1 x2 x3 hf H locs ls hP hD hS hl
    have hf : B_X7_handsFor_4 N v_heaps v_hoursOpen v_speeds k4 x1 x2 x3 = some r := hf
    unfold B_X7_handsFor_4 at hf
    refine lv_iload_n hx hb dX7_handsFor_4 rfl (lv_at hl 3 rfl) ?_
    refine lv_iconst (v := (5 : Int32)) hx hb dX7_handsFor_5 (by decide) ?_
    refine lv_icmp_ge (tgt := 31) hx hb dX7_handsFor_6 (by decide) (fun c1 => ?_) (fun c1 => ?_)
    · have hf := wk_itT hf c1
      refine lv_iload_n hx hb dX7_handsFor_31 rfl (lv_at hl 2 rfl) ?_
      refine lv_if_ne (tgt := 39) hx hb dX7_handsFor_32 (by decide) (fun c2 => ?_) (fun c2 => ?_)
      · have hf := wk_itF hf c2
        refine lv_iload_n hx hb dX7_handsFor_39 rfl (lv_at hl 2 rfl) ?_
        refine lv_aload_n hx hb dX7_handsFor_40 rfl (lv_at hl 0 rfl) ?_
        refine lv_iload_n hx hb dX7_handsFor_41 rfl (lv_at hl 1 rfl) ?_
        obtain ⟨r3, hc3, hf⟩ := wk_b1E hf
        refine wk_callVi2 C hP hD hS (c_X7_hoursFor l D cB cI cJ N a_this a_heaps a_speeds a_closed a_hoursOpen a_todo a_hoursAhead a_placed a_hoursOpen_cells v_hoursOpen x1 hc3) (cwV 1 hts gX7_handsFor_X7_hoursFor rfl rfl rfl hd_X7_hoursFor ⟨Nat.le_of_ble_eq_true rfl, Nat.le_of_ble_eq_true rfl⟩) hl.1 ⟨Nat.zero_le _, Nat.zero_le _⟩ [0, 3, 4] [1, 2, 5, 6] 7 (by decide +kernel) rfl (Wn := w_X7_handsFor cB cI cJ a_this a_heaps a_speeds a_closed a_hoursOpen a_todo a_hoursAhead a_placed a_heaps_cells a_hoursOpen_cells a_speeds_cells v_heaps v_hoursOpen v_speeds) rfl rfl rfl rfl rfl rfl (ci := 7) rfl rfl (q0 := 0) rfl rfl rfl (Nat.le_of_ble_eq_true rfl) dX7_handsFor_42 (fun H locs hP hD hS => ?_)
        obtain ⟨r4, hc4, hf⟩ := wk_b1E hf
        refine wk_callSi2 C hP hD hS (c_X7_roundedUp l D cB cI cJ N x2 r3 hc4) (va_cwS 2 hts gX7_handsFor_X7_roundedUp rfl rfl rfl hd_X7_roundedUp.2 ⟨Nat.le_of_ble_eq_true rfl, Nat.le_of_ble_eq_true rfl⟩) hl.1 ⟨Nat.zero_le _, Nat.zero_le _⟩ [] [0, 1, 2, 3, 4, 5, 6] 7 (by decide +kernel) rfl (Wn := w_X7_handsFor cB cI cJ a_this a_heaps a_speeds a_closed a_hoursOpen a_todo a_hoursAhead a_placed a_heaps_cells a_hoursOpen_cells a_speeds_cells v_heaps v_hoursOpen v_speeds) rfl rfl rfl rfl rfl rfl rfl rfl (Nat.le_of_ble_eq_true rfl) dX7_handsFor_45 (fun H locs hP hD hS => ?_)
        exact hret _ _ _ _ _ _ dX7_handsFor_48 (wk_rt hf (fun z => z)) rfl hP hD hS
      · have hf := wk_itT hf c2
        refine lv_iconst (v := (0 : Int32)) hx hb dX7_handsFor_35 (by decide) ?_
        refine lv_goto (tgt := 48) hx hb dX7_handsFor_36 (by decide) ?_
        exact hret _ _ _ _ _ _ dX7_handsFor_48 (wk_rt hf (fun z => z)) rfl hP hD hS
    · have hf := wk_itF hf c1
      refine lv_iload_n hx hb dX7_handsFor_9 rfl (lv_at hl 1 rfl) ?_
      refine lv_iload_n hx hb dX7_handsFor_10 rfl (lv_at hl 3 rfl) ?_
      obtain ⟨r5, hc5, hf⟩ := wk_b1E hf
      refine wk_callNi2 C hP hD hS (c_X10_hasBit l D cB cI cJ N x1 x3 hc5) ⟨va_cnB 2 hts gX7_handsFor_X10_hasBit_n76 rfl rfl rfl hN.2.2.2.2.2.2.1 (hts (.initialized RX10) (List.mem_of_getElem? (i := 2) rfl)) hd_X10_hasBit.2 ⟨Nat.le_of_ble_eq_true rfl, Nat.le_of_ble_eq_true rfl⟩, (hts (.static yX10_hasBit) (List.mem_of_getElem? (i := 1) rfl)), trivial⟩ hl.1 ⟨Nat.zero_le _, Nat.zero_le _⟩ [] [0, 1, 2, 3, 4, 5, 6] 7 (by decide +kernel) rfl (Wn := w_X7_handsFor cB cI cJ a_this a_heaps a_speeds a_closed a_hoursOpen a_todo a_hoursAhead a_placed a_heaps_cells a_hoursOpen_cells a_speeds_cells v_heaps v_hoursOpen v_speeds) rfl rfl rfl rfl rfl rfl rfl rfl (Nat.le_of_ble_eq_true rfl) dX7_handsFor_11 (fun H locs hP hD hS => ?_)
      refine lv_if_eq (tgt := 25) hx hb dX7_handsFor_14 (by decide) (fun c6 => ?_) (fun c6 => ?_)
      · have hf := wk_itT hf c6
        obtain ⟨y7, ey7⟩ : ∃ y : Int32, y = x3 + (1 : Int32) := ⟨_, rfl⟩
        have hf := wk_nmE hf ey7
        refine lv_iinc (v := y7) (lv' := [(3, .int y7), (0, .ref a_this), (1, .int x1), (2, .int x2)]) hx hb dX7_handsFor_25 hl (k := 3) rfl (by rw [ey7]; rfl) (by decide) rfl (fun ls hl => ?_)
        refine lv_goto (tgt := 4) hx hb dX7_handsFor_28 (by decide) ?_
        exact ih4 _ _ _ hf _ _ _ hP hD hS (lv_sub hl [1, 2, 3, 0] rfl)
      · have hf := wk_itF hf c6
        refine lv_iload_n hx hb dX7_handsFor_17 rfl (lv_at hl 2 rfl) ?_
        refine lv_aload_n hx hb dX7_handsFor_18 rfl (lv_at hl 0 rfl) ?_
        refine lv_iload_n hx hb dX7_handsFor_19 rfl (lv_at hl 3 rfl) ?_
        obtain ⟨r8, hc8, hf⟩ := wk_b1E hf
        refine wk_callVi2 C hP hD hS (c_X7_workOf l D cB cI cJ N a_this a_heaps a_speeds a_closed a_hoursOpen a_todo a_hoursAhead a_placed a_heaps_cells a_speeds_cells v_heaps v_speeds x3 hc8) (cwV 1 hts gX7_handsFor_X7_workOf rfl rfl rfl hd_X7_workOf ⟨Nat.le_of_ble_eq_true rfl, Nat.le_of_ble_eq_true rfl⟩) hl.1 ⟨Nat.zero_le _, Nat.zero_le _⟩ [0, 1, 2, 5, 6] [3, 4] 7 (by decide +kernel) rfl (Wn := w_X7_handsFor cB cI cJ a_this a_heaps a_speeds a_closed a_hoursOpen a_todo a_hoursAhead a_placed a_heaps_cells a_hoursOpen_cells a_speeds_cells v_heaps v_hoursOpen v_speeds) rfl rfl rfl rfl rfl rfl (ci := 7) rfl rfl (q0 := 0) rfl rfl rfl (Nat.le_of_ble_eq_true rfl) dX7_handsFor_20 (fun H locs hP hD hS => ?_)
        refine lv_iadd hx hb dX7_handsFor_23 ?_
        refine lv_topi (fun y9 ey9 => ?_)
        have hf := wk_nmE hf ey9
        refine lv_istore_n (lv' := [(2, .int y9), (0, .ref a_this), (1, .int x1), (3, .int x3)]) hx hb dX7_handsFor_24 rfl hl (by decide) rfl (fun ls hl => ?_)
        obtain ⟨y10, ey10⟩ : ∃ y : Int32, y = x3 + (1 : Int32) := ⟨_, rfl⟩
        have hf := wk_nmE hf ey10
        refine lv_iinc (v := y10) (lv' := [(3, .int y10), (2, .int y9), (0, .ref a_this), (1, .int x1)]) hx hb dX7_handsFor_25 hl (k := 3) rfl (by rw [ey10]; rfl) (by decide) rfl (fun ls hl => ?_)
        refine lv_goto (tgt := 4) hx hb dX7_handsFor_28 (by decide) ?_
        exact ih4 _ _ _ hf _ _ _ hP hD hS (lv_sub hl [2, 3, 1, 0] rfl))
  unfold f_X7_handsFor at hf
  refine lv_iconst (v := (0 : Int32)) hx hb dX7_handsFor_0 (by decide) ?_
  refine lv_istore_n (lv' := [(2, .int (0 : Int32)), (0, .ref a_this), (1, .int x1)]) hx hb dX7_handsFor_1 rfl hl (by decide) rfl (fun ls hl => ?_)
  refine lv_iconst (v := (0 : Int32)) hx hb dX7_handsFor_2 (by decide) ?_
  refine lv_istore_n (lv' := [(3, .int (0 : Int32)), (2, .int (0 : Int32)), (0, .ref a_this), (1, .int x1)]) hx hb dX7_handsFor_3 rfl hl (by decide) rfl (fun ls hl => ?_)
  exact L4 N _ _ _ hf _ _ _ hP hD hS (lv_sub hl [2, 3, 1, 0] rfl)
abbrev w_X7_handsNeeded (cB cI cJ : ClassId) (a_this : Nat) (a_heaps : Nat) (a_speeds : Nat) (a_closed : Nat) (a_hoursOpen : Nat) (a_todo : Nat) (a_hoursAhead : Nat) (a_placed : Nat) (a_closed_cells : Nat) (a_heaps_cells : Nat) (a_hoursOpen_cells : Nat) (a_speeds_cells : Nat) (v_closed : Nat → Int32) (v_heaps : Nat → Int32) (v_hoursOpen : Nat → Int32) (v_speeds : Nat → Int32) : va_W := [(a_this, .inr (7, [.ref a_heaps, .ref a_speeds, .ref a_closed, .ref a_hoursOpen, .ref a_todo, .ref a_hoursAhead, .ref a_placed])), (a_closed, .inr (6, [.ref a_closed_cells])), (a_closed_cells, .inl (cI, 1000, .inl v_closed)), (a_heaps, .inr (6, [.ref a_heaps_cells])), (a_heaps_cells, .inl (cI, 5, .inl v_heaps)), (a_hoursOpen, .inr (6, [.ref a_hoursOpen_cells])), (a_hoursOpen_cells, .inl (cI, 32, .inl v_hoursOpen)), (a_speeds, .inr (6, [.ref a_speeds_cells])), (a_speeds_cells, .inl (cI, 5, .inl v_speeds))]
theorem hd_X7_handsNeeded : yX7_handsNeeded.cls = RX7 ∧ yX7_handsNeeded.cls ≠ "java/lang/invoke/MethodHandle" ∧ yX7_handsNeeded.cls ≠ "java/lang/invoke/VarHandle" ∧ (parseMethodDescriptor yX7_handsNeeded.desc).map (fun d => d.parameters.length) = some 2 := by decide +kernel
abbrev rm_X7_handsNeeded : Room := { frames := 3, cells := 0, slots := 0, locals := 67 }
set_option maxHeartbeats 4000000 in
set_option maxRecDepth 100000 in
theorem c_X7_handsNeeded (l : Launch) (D : va_G) (cB cI cJ : ClassId) (N : Nat) (a_this : Nat) (a_heaps : Nat) (a_speeds : Nat) (a_closed : Nat) (a_hoursOpen : Nat) (a_todo : Nat) (a_hoursAhead : Nat) (a_placed : Nat) (a_closed_cells : Nat) (a_heaps_cells : Nat) (a_hoursOpen_cells : Nat) (a_speeds_cells : Nat) (v_closed : Nat → Int32) (v_heaps : Nat → Int32) (v_hoursOpen : Nat → Int32) (v_speeds : Nat → Int32) (x1 : Int32) (x2 : Int32) {r : Int32} {o_hoursOpen : Nat → Int32} (hf : f_X7_handsNeeded N v_closed v_heaps v_speeds v_hoursOpen x1 x2 = some (r, o_hoursOpen)) : MTi l yX7_handsNeeded wsX7_handsNeeded rm_X7_handsNeeded D (wk_T cB cI cJ) [.ref a_this, .int x1, .int x2] (w_X7_handsNeeded cB cI cJ a_this a_heaps a_speeds a_closed a_hoursOpen a_todo a_hoursAhead a_placed a_closed_cells a_heaps_cells a_hoursOpen_cells a_speeds_cells v_closed v_heaps v_hoursOpen v_speeds) (w_X7_handsNeeded cB cI cJ a_this a_heaps a_speeds a_closed a_hoursOpen a_todo a_hoursAhead a_placed a_closed_cells a_heaps_cells a_hoursOpen_cells a_speeds_cells v_closed v_heaps o_hoursOpen v_speeds) r := by
  refine MTi.of (cc := cX7_handsNeeded) (nL := 5) (rt := .int) (own := RX7) pn_X7 rfl rfl (Nat.le_of_ble_eq_true rfl) rfl ?_
  intro p e s m args below meth c A ls Q C hP hD hS hl hret
  obtain ⟨hx, hb, hml, hts, hown, hK, hN, hA, hlk⟩ := id C
  have hl : lv_has ls 5 [(0, .ref a_this), (1, .int x1), (2, .int x2)] := hl
  have L11 := wk_loopI (F := (fun k11 : (Nat → Int32) → Int32 → Int32 → Option (Int32 × (Nat → Int32)) => B_X7_handsNeeded_11 N v_closed v_heaps v_speeds k11)) (bot := fun _ _ _ => none) (fun k11 : (Nat → Int32) → Int32 → Int32 → Option (Int32 × (Nat → Int32)) => ∀ (v_hoursOpen : Nat → Int32) (x3 : Int32) (x4 : Int32), k11 v_hoursOpen x3 x4 = some (r, o_hoursOpen) → ∀ (H : Heap) (locs : List Loc) (ls : Array Slot), va_P D vwCl (w_X7_handsNeeded cB cI cJ a_this a_heaps a_speeds a_closed a_hoursOpen a_todo a_hoursAhead a_placed a_closed_cells a_heaps_cells a_hoursOpen_cells a_speeds_cells v_closed v_heaps v_hoursOpen v_speeds) H → va_D A (w_X7_handsNeeded cB cI cJ a_this a_heaps a_speeds a_closed a_hoursOpen a_todo a_hoursAhead a_placed a_closed_cells a_heaps_cells a_hoursOpen_cells a_speeds_cells v_closed v_heaps v_hoursOpen v_speeds) → va_S A s.heap H locs → lv_has ls 5 [(0, .ref a_this), (3, .int x3), (4, .int x4)] → W p l e rm_X7_handsNeeded s m args below meth c H locs 0 0 Q (F0 m 11 ls [])) (by intro v_hoursOpen x3 x4 hf; exact wk_no hf) (by
    intro k11 ih11
    intro v_hoursOpen x3 x4 hf H locs ls hP hD hS hl
    have hf : B_X7_handsNeeded_11 N v_closed v_heaps v_speeds k11 v_hoursOpen x3 x4 = some (r, o_hoursOpen) := hf
    unfold B_X7_handsNeeded_11 at hf
    refine lv_iload hx hb dX7_handsNeeded_11 (lv_at hl 2 rfl) ?_
    refine lv_bipush (v := (32 : Int32)) hx hb dX7_handsNeeded_13 (by decide) ?_
    refine lv_icmp_ge (tgt := 35) hx hb dX7_handsNeeded_15 (by decide) (fun c1 => ?_) (fun c1 => ?_)
    · have hf := wk_itT hf c1
      refine lv_iload_n hx hb dX7_handsNeeded_35 rfl (lv_at hl 1 rfl) ?_
      exact hret _ _ _ _ _ _ dX7_handsNeeded_36 (wk_rt hf (fun z => z.1)) (wk_rt hf (fun z => w_X7_handsNeeded cB cI cJ a_this a_heaps a_speeds a_closed a_hoursOpen a_todo a_hoursAhead a_placed a_closed_cells a_heaps_cells a_hoursOpen_cells a_speeds_cells v_closed v_heaps (z.2) v_speeds)) hP hD hS
    · have hf := wk_itF hf c1
      refine lv_iload_n hx hb dX7_handsNeeded_18 rfl (lv_at hl 1 rfl) ?_
      refine lv_aload_n hx hb dX7_handsNeeded_19 rfl (lv_at hl 0 rfl) ?_
      refine lv_iload hx hb dX7_handsNeeded_20 (lv_at hl 2 rfl) ?_
      obtain ⟨r2, hc2, hf⟩ := wk_b1E hf
      refine wk_callVi2 C hP hD hS (c_X7_handsFor l D cB cI cJ N a_this a_heaps a_speeds a_closed a_hoursOpen a_todo a_hoursAhead a_placed a_heaps_cells a_hoursOpen_cells a_speeds_cells v_heaps v_hoursOpen v_speeds x4 hc2) (cwV 1 hts gX7_handsNeeded_X7_handsFor rfl rfl rfl hd_X7_handsFor ⟨Nat.le_of_ble_eq_true rfl, Nat.le_of_ble_eq_true rfl⟩) hl.1 ⟨Nat.zero_le _, Nat.zero_le _⟩ [0, 3, 4, 5, 6, 7, 8] [1, 2] 9 (by decide +kernel) rfl (Wn := w_X7_handsNeeded cB cI cJ a_this a_heaps a_speeds a_closed a_hoursOpen a_todo a_hoursAhead a_placed a_closed_cells a_heaps_cells a_hoursOpen_cells a_speeds_cells v_closed v_heaps v_hoursOpen v_speeds) rfl rfl rfl rfl rfl rfl (ci := 7) rfl rfl (q0 := 0) rfl rfl rfl (Nat.le_of_ble_eq_true rfl) dX7_handsNeeded_22 (fun H locs hP hD hS => ?_)
      refine va_mmax hx hb (hml.trans hl.1.symm) hown (hts (.methodLink RX7 68 Lib.Math.max.name) (List.mem_of_getElem? (i := 1) rfl)) (hts (.static Lib.Math.max.name) (List.mem_of_getElem? (i := 2) rfl)) (hts (.initialized "java/lang/Math") (List.mem_of_getElem? (i := 3) rfl)) (hts (.code Lib.Math.max.name Lib.Math.max.code 2 (some .int)) (List.mem_of_getElem? (i := 4) rfl)) (Nat.le_of_ble_eq_true rfl) (Nat.le_of_ble_eq_true rfl) (Nat.zero_le _) (Nat.zero_le _) dX7_handsNeeded_25 ?_
      refine lv_topi (fun y3 ey3 => ?_)
      have hf := wk_nmE hf ey3
      refine lv_istore_n (lv' := [(3, .int y3), (0, .ref a_this), (4, .int x4)]) hx hb dX7_handsNeeded_28 rfl hl (by decide) rfl (fun ls hl => ?_)
      obtain ⟨y4, ey4⟩ : ∃ y : Int32, y = x4 + (1 : Int32) := ⟨_, rfl⟩
      have hf := wk_nmE hf ey4
      refine lv_iinc (v := y4) (lv' := [(4, .int y4), (3, .int y3), (0, .ref a_this)]) hx hb dX7_handsNeeded_29 hl (k := 2) rfl (by rw [ey4]; rfl) (by decide) rfl (fun ls hl => ?_)
      refine lv_goto (tgt := 11) hx hb dX7_handsNeeded_32 (by decide) ?_
      exact ih11 _ _ _ hf _ _ _ hP hD hS (lv_sub hl [2, 1, 0] rfl))
  unfold f_X7_handsNeeded at hf
  refine lv_aload_n hx hb dX7_handsNeeded_0 rfl (lv_at hl 0 rfl) ?_
  refine lv_iload_n hx hb dX7_handsNeeded_1 rfl (lv_at hl 1 rfl) ?_
  refine lv_iload_n hx hb dX7_handsNeeded_2 rfl (lv_at hl 2 rfl) ?_
  obtain ⟨o5_0, hc5, hf⟩ := wk_b1E hf
  refine wk_callVv2 C hP hD hS (c_X7_sortHours l D cB cI cJ N a_this a_heaps a_speeds a_closed a_hoursOpen a_todo a_hoursAhead a_placed a_closed_cells a_hoursOpen_cells v_closed v_hoursOpen x1 x2 hc5) (cwV 2 hts gX7_handsNeeded_X7_sortHours rfl rfl rfl hd_X7_sortHours ⟨Nat.le_of_ble_eq_true rfl, Nat.le_of_ble_eq_true rfl⟩) hl.1 ⟨Nat.zero_le _, Nat.zero_le _⟩ [0, 1, 2, 5, 6] [3, 4, 7, 8] 9 (by decide +kernel) rfl (Wn := w_X7_handsNeeded cB cI cJ a_this a_heaps a_speeds a_closed a_hoursOpen a_todo a_hoursAhead a_placed a_closed_cells a_heaps_cells a_hoursOpen_cells a_speeds_cells v_closed v_heaps o5_0 v_speeds) rfl rfl rfl rfl rfl rfl (ci := 7) rfl rfl (q0 := 0) rfl rfl rfl (Nat.le_of_ble_eq_true rfl) dX7_handsNeeded_3 (fun H locs hP hD hS => ?_)
  refine lv_iconst (v := (1 : Int32)) hx hb dX7_handsNeeded_6 (by decide) ?_
  refine lv_istore_n (lv' := [(3, .int (1 : Int32)), (0, .ref a_this), (1, .int x1), (2, .int x2)]) hx hb dX7_handsNeeded_7 rfl hl (by decide) rfl (fun ls hl => ?_)
  refine lv_iconst (v := (1 : Int32)) hx hb dX7_handsNeeded_8 (by decide) ?_
  refine lv_istore (lv' := [(4, .int (1 : Int32)), (3, .int (1 : Int32)), (0, .ref a_this), (1, .int x1), (2, .int x2)]) hx hb dX7_handsNeeded_9 hl (by decide) rfl (fun ls hl => ?_)
  exact L11 N _ _ _ hf _ _ _ hP hD hS (lv_sub hl [2, 1, 0] rfl)
abbrev w_X7_earliestEnd (cB cI cJ : ClassId) (a_this : Nat) (a_heaps : Nat) (a_speeds : Nat) (a_closed : Nat) (a_hoursOpen : Nat) (a_todo : Nat) (a_hoursAhead : Nat) (a_placed : Nat) (a_closed_cells : Nat) (a_heaps_cells : Nat) (a_hoursOpen_cells : Nat) (a_speeds_cells : Nat) (v_closed : Nat → Int32) (v_heaps : Nat → Int32) (v_hoursOpen : Nat → Int32) (v_speeds : Nat → Int32) : va_W := [(a_this, .inr (7, [.ref a_heaps, .ref a_speeds, .ref a_closed, .ref a_hoursOpen, .ref a_todo, .ref a_hoursAhead, .ref a_placed])), (a_closed, .inr (6, [.ref a_closed_cells])), (a_closed_cells, .inl (cI, 1000, .inl v_closed)), (a_heaps, .inr (6, [.ref a_heaps_cells])), (a_heaps_cells, .inl (cI, 5, .inl v_heaps)), (a_hoursOpen, .inr (6, [.ref a_hoursOpen_cells])), (a_hoursOpen_cells, .inl (cI, 32, .inl v_hoursOpen)), (a_speeds, .inr (6, [.ref a_speeds_cells])), (a_speeds_cells, .inl (cI, 5, .inl v_speeds))]
theorem hd_X7_earliestEnd : yX7_earliestEnd.cls = RX7 ∧ yX7_earliestEnd.cls ≠ "java/lang/invoke/MethodHandle" ∧ yX7_earliestEnd.cls ≠ "java/lang/invoke/VarHandle" ∧ (parseMethodDescriptor yX7_earliestEnd.desc).map (fun d => d.parameters.length) = some 2 := by decide +kernel
abbrev rm_X7_earliestEnd : Room := { frames := 4, cells := 0, slots := 0, locals := 91 }
set_option maxHeartbeats 4000000 in
set_option maxRecDepth 100000 in
theorem c_X7_earliestEnd (l : Launch) (D : va_G) (cB cI cJ : ClassId) (N : Nat) (a_this : Nat) (a_heaps : Nat) (a_speeds : Nat) (a_closed : Nat) (a_hoursOpen : Nat) (a_todo : Nat) (a_hoursAhead : Nat) (a_placed : Nat) (a_closed_cells : Nat) (a_heaps_cells : Nat) (a_hoursOpen_cells : Nat) (a_speeds_cells : Nat) (v_closed : Nat → Int32) (v_heaps : Nat → Int32) (v_hoursOpen : Nat → Int32) (v_speeds : Nat → Int32) (x1 : Int32) (x2 : Int32) {r : Int32} {o_hoursOpen : Nat → Int32} (hf : f_X7_earliestEnd N v_closed v_heaps v_speeds v_hoursOpen x1 x2 = some (r, o_hoursOpen)) : MTi l yX7_earliestEnd wsX7_earliestEnd rm_X7_earliestEnd D (wk_T cB cI cJ) [.ref a_this, .int x1, .int x2] (w_X7_earliestEnd cB cI cJ a_this a_heaps a_speeds a_closed a_hoursOpen a_todo a_hoursAhead a_placed a_closed_cells a_heaps_cells a_hoursOpen_cells a_speeds_cells v_closed v_heaps v_hoursOpen v_speeds) (w_X7_earliestEnd cB cI cJ a_this a_heaps a_speeds a_closed a_hoursOpen a_todo a_hoursAhead a_placed a_closed_cells a_heaps_cells a_hoursOpen_cells a_speeds_cells v_closed v_heaps o_hoursOpen v_speeds) r := by
  refine MTi.of (cc := cX7_earliestEnd) (nL := 7) (rt := .int) (own := RX7) pn_X7 rfl rfl (Nat.le_of_ble_eq_true rfl) rfl ?_
  intro p e s m args below meth c A ls Q C hP hD hS hl hret
  obtain ⟨hx, hb, hml, hts, hown, hK, hN, hA, hlk⟩ := id C
  have hl : lv_has ls 7 [(0, .ref a_this), (1, .int x1), (2, .int x2)] := hl
  have L25 := wk_loopI (F := (fun k25 : (Nat → Int32) → Int32 → Int32 → Int32 → Int32 → Int32 → Option (Int32 × (Nat → Int32)) => B_X7_earliestEnd_25 N v_closed v_heaps v_speeds k25)) (bot := fun _ _ _ _ _ _ => none) (fun k25 : (Nat → Int32) → Int32 → Int32 → Int32 → Int32 → Int32 → Option (Int32 × (Nat → Int32)) => ∀ (v_hoursOpen : Nat → Int32) (x1 : Int32) (x2 : Int32) (x3 : Int32) (x4 : Int32) (x5 : Int32), k25 v_hoursOpen x1 x2 x3 x4 x5 = some (r, o_hoursOpen) → ∀ (H : Heap) (locs : List Loc) (ls : Array Slot), va_P D vwCl (w_X7_earliestEnd cB cI cJ a_this a_heaps a_speeds a_closed a_hoursOpen a_todo a_hoursAhead a_placed a_closed_cells a_heaps_cells a_hoursOpen_cells a_speeds_cells v_closed v_heaps v_hoursOpen v_speeds) H → va_D A (w_X7_earliestEnd cB cI cJ a_this a_heaps a_speeds a_closed a_hoursOpen a_todo a_hoursAhead a_placed a_closed_cells a_heaps_cells a_hoursOpen_cells a_speeds_cells v_closed v_heaps v_hoursOpen v_speeds) → va_S A s.heap H locs → lv_has ls 7 [(0, .ref a_this), (1, .int x1), (2, .int x2), (3, .int x3), (4, .int x4), (5, .int x5)] → W p l e rm_X7_earliestEnd s m args below meth c H locs 0 0 Q (F0 m 25 ls [])) (by intro v_hoursOpen x1 x2 x3 x4 x5 hf; exact wk_no hf) (by
    intro k25 ih25
    intro v_hoursOpen x1 x2 x3 x4 x5 hf H locs ls hP hD hS hl
    have hf : B_X7_earliestEnd_25 N v_closed v_heaps v_speeds k25 v_hoursOpen x1 x2 x3 x4 x5 = some (r, o_hoursOpen) := hf
    unfold B_X7_earliestEnd_25 at hf
    refine lv_iload hx hb dX7_earliestEnd_25 (lv_at hl 5 rfl) ?_
    refine lv_sipush (v := (1000 : Int32)) hx hb dX7_earliestEnd_27 (by decide) ?_
    refine lv_icmp_ge (tgt := 76) hx hb dX7_earliestEnd_30 (by decide) (fun c1 => ?_) (fun c1 => ?_)
    · have hf := wk_itT hf c1
      refine lv_iload hx hb dX7_earliestEnd_76 (lv_at hl 4 rfl) ?_
      exact hret _ _ _ _ _ _ dX7_earliestEnd_78 (wk_rt hf (fun z => z.1)) (wk_rt hf (fun z => w_X7_earliestEnd cB cI cJ a_this a_heaps a_speeds a_closed a_hoursOpen a_todo a_hoursAhead a_placed a_closed_cells a_heaps_cells a_hoursOpen_cells a_speeds_cells v_closed v_heaps (z.2) v_speeds)) hP hD hS
    · have hf := wk_itF hf c1
      refine lv_iload_n hx hb dX7_earliestEnd_33 rfl (lv_at hl 3 rfl) ?_
      refine lv_iload hx hb dX7_earliestEnd_34 (lv_at hl 4 rfl) ?_
      refine lv_icmp_ge (tgt := 76) hx hb dX7_earliestEnd_36 (by decide) (fun c2 => ?_) (fun c2 => ?_)
      · have hf := wk_itT hf c2
        refine lv_iload hx hb dX7_earliestEnd_76 (lv_at hl 4 rfl) ?_
        exact hret _ _ _ _ _ _ dX7_earliestEnd_78 (wk_rt hf (fun z => z.1)) (wk_rt hf (fun z => w_X7_earliestEnd cB cI cJ a_this a_heaps a_speeds a_closed a_hoursOpen a_todo a_hoursAhead a_placed a_closed_cells a_heaps_cells a_hoursOpen_cells a_speeds_cells v_closed v_heaps (z.2) v_speeds)) hP hD hS
      · have hf := wk_itF hf c2
        refine lv_iload_n hx hb dX7_earliestEnd_39 rfl (lv_at hl 3 rfl) ?_
        refine lv_iload hx hb dX7_earliestEnd_40 (lv_at hl 4 rfl) ?_
        refine lv_iadd hx hb dX7_earliestEnd_42 ?_
        refine lv_iconst (v := (2 : Int32)) hx hb dX7_earliestEnd_43 (by decide) ?_
        obtain ⟨hz3, hf⟩ := wk_dvE hf
        refine lv_idiv hx hb dX7_earliestEnd_44 hz3 ?_
        refine lv_topi (fun y4 ey4 => ?_)
        have hf := wk_nmE hf ey4
        refine lv_istore (lv' := [(6, .int y4), (0, .ref a_this), (1, .int x1), (2, .int x2), (3, .int x3), (4, .int x4), (5, .int x5)]) hx hb dX7_earliestEnd_45 hl (by decide) rfl (fun ls hl => ?_)
        refine lv_aload_n hx hb dX7_earliestEnd_47 rfl (lv_at hl 1 rfl) ?_
        refine lv_iload_n hx hb dX7_earliestEnd_48 rfl (lv_at hl 2 rfl) ?_
        refine lv_iload hx hb dX7_earliestEnd_49 (lv_at hl 0 rfl) ?_
        obtain ⟨r5, o5_0, hc5, hf⟩ := wk_b2E hf
        refine wk_callVi2 C hP hD hS (c_X7_handsNeeded l D cB cI cJ N a_this a_heaps a_speeds a_closed a_hoursOpen a_todo a_hoursAhead a_placed a_closed_cells a_heaps_cells a_hoursOpen_cells a_speeds_cells v_closed v_heaps v_hoursOpen v_speeds x1 y4 hc5) (cwV 2 hts gX7_earliestEnd_X7_handsNeeded rfl rfl rfl hd_X7_handsNeeded ⟨Nat.le_of_ble_eq_true rfl, Nat.le_of_ble_eq_true rfl⟩) hl.1 ⟨Nat.zero_le _, Nat.zero_le _⟩ [0, 1, 2, 3, 4, 5, 6, 7, 8] [] 9 (by decide +kernel) rfl (Wn := w_X7_earliestEnd cB cI cJ a_this a_heaps a_speeds a_closed a_hoursOpen a_todo a_hoursAhead a_placed a_closed_cells a_heaps_cells a_hoursOpen_cells a_speeds_cells v_closed v_heaps o5_0 v_speeds) rfl rfl rfl rfl rfl rfl (ci := 7) rfl rfl (q0 := 0) rfl rfl rfl (Nat.le_of_ble_eq_true rfl) dX7_earliestEnd_51 (fun H locs hP hD hS => ?_)
        refine lv_iload_n hx hb dX7_earliestEnd_54 rfl (lv_at hl 3 rfl) ?_
        refine lv_icmp_le (tgt := 66) hx hb dX7_earliestEnd_55 (by decide) (fun c6 => ?_) (fun c6 => ?_)
        · have hf := wk_itT hf c6
          refine lv_iload hx hb dX7_earliestEnd_66 (lv_at hl 0 rfl) ?_
          refine lv_istore (lv' := [(4, .int y4), (6, .int y4), (0, .ref a_this), (1, .int x1), (2, .int x2), (3, .int x3), (5, .int x5)]) hx hb dX7_earliestEnd_68 hl (by decide) rfl (fun ls hl => ?_)
          obtain ⟨y7, ey7⟩ : ∃ y : Int32, y = x5 + (1 : Int32) := ⟨_, rfl⟩
          have hf := wk_nmE hf ey7
          refine lv_iinc (v := y7) (lv' := [(5, .int y7), (4, .int y4), (6, .int y4), (0, .ref a_this), (1, .int x1), (2, .int x2), (3, .int x3)]) hx hb dX7_earliestEnd_70 hl (k := 6) rfl (by rw [ey7]; rfl) (by decide) rfl (fun ls hl => ?_)
          refine lv_goto (tgt := 25) hx hb dX7_earliestEnd_73 (by decide) ?_
          exact ih25 _ _ _ _ _ _ hf _ _ _ hP hD hS (lv_sub hl [3, 4, 5, 6, 1, 0] rfl)
        · have hf := wk_itF hf c6
          refine lv_iload hx hb dX7_earliestEnd_58 (lv_at hl 0 rfl) ?_
          refine lv_iconst (v := (1 : Int32)) hx hb dX7_earliestEnd_60 (by decide) ?_
          refine lv_iadd hx hb dX7_earliestEnd_61 ?_
          refine lv_topi (fun y8 ey8 => ?_)
          have hf := wk_nmE hf ey8
          refine lv_istore_n (lv' := [(3, .int y8), (6, .int y4), (0, .ref a_this), (1, .int x1), (2, .int x2), (4, .int x4), (5, .int x5)]) hx hb dX7_earliestEnd_62 rfl hl (by decide) rfl (fun ls hl => ?_)
          refine lv_goto (tgt := 70) hx hb dX7_earliestEnd_63 (by decide) ?_
          obtain ⟨y9, ey9⟩ : ∃ y : Int32, y = x5 + (1 : Int32) := ⟨_, rfl⟩
          have hf := wk_nmE hf ey9
          refine lv_iinc (v := y9) (lv' := [(5, .int y9), (3, .int y8), (6, .int y4), (0, .ref a_this), (1, .int x1), (2, .int x2), (4, .int x4)]) hx hb dX7_earliestEnd_70 hl (k := 6) rfl (by rw [ey9]; rfl) (by decide) rfl (fun ls hl => ?_)
          refine lv_goto (tgt := 25) hx hb dX7_earliestEnd_73 (by decide) ?_
          exact ih25 _ _ _ _ _ _ hf _ _ _ hP hD hS (lv_sub hl [3, 4, 5, 1, 6, 0] rfl))
  unfold f_X7_earliestEnd at hf
  refine lv_aload_n hx hb dX7_earliestEnd_0 rfl (lv_at hl 0 rfl) ?_
  refine lv_iload_n hx hb dX7_earliestEnd_1 rfl (lv_at hl 1 rfl) ?_
  refine lv_sipush (v := (1000 : Int32)) hx hb dX7_earliestEnd_2 (by decide) ?_
  obtain ⟨r10, o10_0, hc10, hf⟩ := wk_b2E hf
  refine wk_callVi2 C hP hD hS (c_X7_handsNeeded l D cB cI cJ N a_this a_heaps a_speeds a_closed a_hoursOpen a_todo a_hoursAhead a_placed a_closed_cells a_heaps_cells a_hoursOpen_cells a_speeds_cells v_closed v_heaps v_hoursOpen v_speeds x1 (1000 : Int32) hc10) (cwV 2 hts gX7_earliestEnd_X7_handsNeeded rfl rfl rfl hd_X7_handsNeeded ⟨Nat.le_of_ble_eq_true rfl, Nat.le_of_ble_eq_true rfl⟩) hl.1 ⟨Nat.zero_le _, Nat.zero_le _⟩ [0, 1, 2, 3, 4, 5, 6, 7, 8] [] 9 (by decide +kernel) rfl (Wn := w_X7_earliestEnd cB cI cJ a_this a_heaps a_speeds a_closed a_hoursOpen a_todo a_hoursAhead a_placed a_closed_cells a_heaps_cells a_hoursOpen_cells a_speeds_cells v_closed v_heaps o10_0 v_speeds) rfl rfl rfl rfl rfl rfl (ci := 7) rfl rfl (q0 := 0) rfl rfl rfl (Nat.le_of_ble_eq_true rfl) dX7_earliestEnd_5 (fun H locs hP hD hS => ?_)
  refine lv_iload_n hx hb dX7_earliestEnd_8 rfl (lv_at hl 2 rfl) ?_
  refine lv_icmp_le (tgt := 15) hx hb dX7_earliestEnd_9 (by decide) (fun c11 => ?_) (fun c11 => ?_)
  · have hf := wk_itT hf c11
    refine lv_iload_n hx hb dX7_earliestEnd_15 rfl (lv_at hl 1 rfl) ?_
    refine lv_istore_n (lv' := [(3, .int x1), (0, .ref a_this), (1, .int x1), (2, .int x2)]) hx hb dX7_earliestEnd_16 rfl hl (by decide) rfl (fun ls hl => ?_)
    refine lv_sipush (v := (1000 : Int32)) hx hb dX7_earliestEnd_17 (by decide) ?_
    refine lv_istore (lv' := [(4, .int (1000 : Int32)), (3, .int x1), (0, .ref a_this), (1, .int x1), (2, .int x2)]) hx hb dX7_earliestEnd_20 hl (by decide) rfl (fun ls hl => ?_)
    refine lv_iconst (v := (0 : Int32)) hx hb dX7_earliestEnd_22 (by decide) ?_
    refine lv_istore (lv' := [(5, .int (0 : Int32)), (4, .int (1000 : Int32)), (3, .int x1), (0, .ref a_this), (1, .int x1), (2, .int x2)]) hx hb dX7_earliestEnd_23 hl (by decide) rfl (fun ls hl => ?_)
    exact L25 N _ _ _ _ _ _ hf _ _ _ hP hD hS (lv_sub hl [3, 4, 5, 2, 1, 0] rfl)
  · have hf := wk_itF hf c11
    refine lv_bipush (v := (-4 : Int32)) hx hb dX7_earliestEnd_12 (by decide) ?_
    exact hret _ _ _ _ _ _ dX7_earliestEnd_14 (wk_rt hf (fun z => z.1)) (wk_rt hf (fun z => w_X7_earliestEnd cB cI cJ a_this a_heaps a_speeds a_closed a_hoursOpen a_todo a_hoursAhead a_placed a_closed_cells a_heaps_cells a_hoursOpen_cells a_speeds_cells v_closed v_heaps (z.2) v_speeds)) hP hD hS
abbrev w_X7_isOpen (cB cI cJ : ClassId) (a_this : Nat) (a_heaps : Nat) (a_speeds : Nat) (a_closed : Nat) (a_hoursOpen : Nat) (a_todo : Nat) (a_hoursAhead : Nat) (a_placed : Nat) (a_closed_cells : Nat) (v_closed : Nat → Int32) : va_W := [(a_this, .inr (7, [.ref a_heaps, .ref a_speeds, .ref a_closed, .ref a_hoursOpen, .ref a_todo, .ref a_hoursAhead, .ref a_placed])), (a_closed, .inr (6, [.ref a_closed_cells])), (a_closed_cells, .inl (cI, 1000, .inl v_closed))]
theorem hd_X7_isOpen : yX7_isOpen.cls = RX7 ∧ yX7_isOpen.cls ≠ "java/lang/invoke/MethodHandle" ∧ yX7_isOpen.cls ≠ "java/lang/invoke/VarHandle" ∧ (parseMethodDescriptor yX7_isOpen.desc).map (fun d => d.parameters.length) = some 2 := by decide +kernel
abbrev rm_X7_isOpen : Room := { frames := 1, cells := 0, slots := 0, locals := 21 }
theorem in_X7_isOpen_X7 : ∀ w ∈ wsX70, w ∈ wsX7_isOpen := fun w h => List.mem_cons_of_mem _ (List.mem_append_left _ (List.mem_append_right _ h))
set_option maxHeartbeats 4000000 in
set_option maxRecDepth 100000 in
theorem c_X7_isOpen (l : Launch) (D : va_G) (cB cI cJ : ClassId) (N : Nat) (a_this : Nat) (a_heaps : Nat) (a_speeds : Nat) (a_closed : Nat) (a_hoursOpen : Nat) (a_todo : Nat) (a_hoursAhead : Nat) (a_placed : Nat) (a_closed_cells : Nat) (v_closed : Nat → Int32) (x1 : Int32) (x2 : Int32) {r : Bool} (hf : f_X7_isOpen N v_closed x1 x2 = some r) : MTi l yX7_isOpen wsX7_isOpen rm_X7_isOpen D (wk_T cB cI cJ) [.ref a_this, .int x1, .int x2] (w_X7_isOpen cB cI cJ a_this a_heaps a_speeds a_closed a_hoursOpen a_todo a_hoursAhead a_placed a_closed_cells v_closed) (w_X7_isOpen cB cI cJ a_this a_heaps a_speeds a_closed a_hoursOpen a_todo a_hoursAhead a_placed a_closed_cells v_closed) (wk_bI r) := by
  refine MTi.of (cc := cX7_isOpen) (nL := 3) (rt := .boolean) (own := RX7) pn_X7 rfl rfl (Nat.le_of_ble_eq_true rfl) (wk_nz r) ?_
  intro p e s m args below meth c A ls Q C hP hD hS hl hret
  obtain ⟨hx, hb, hml, hts, hown, hK, hN, hA, hlk⟩ := id C
  have hl : lv_has ls 3 [(0, .ref a_this), (1, .int x1), (2, .int x2)] := hl
  unfold f_X7_isOpen at hf
  refine lv_aload_n hx hb dX7_isOpen_0 rfl (lv_at hl 0 rfl) ?_
  refine va_get (D := D) (ci := 7) (v := .ref a_closed) (C := RX7) (T := TX7) (N := 7) hx hb hts in_X7_isOpen_X7 hown hK hP 0 rfl rfl 2 (by decide) (hts (.fieldLink RX7 23 "HangingCards$Shifts" "closed" "LHangingCards$Row;") (List.mem_of_getElem? (i := 1) rfl)) (fun _ h9 => h9) rfl dX7_isOpen_1 ?_
  refine lv_iload_n hx hb dX7_isOpen_4 rfl (lv_at hl 2 rfl) ?_
  obtain ⟨r1, hc1, hf⟩ := wk_b1E hf
  refine wk_callVi2 C hP hD hS (c_X6_get l D cB cI cJ N a_closed a_closed_cells 1000 v_closed x2 hc1) (cwV 1 hts gX7_isOpen_X6_get rfl rfl rfl hd_X6_get ⟨Nat.le_of_ble_eq_true rfl, Nat.le_of_ble_eq_true rfl⟩) hl.1 ⟨Nat.zero_le _, Nat.zero_le _⟩ [1, 2] [0] 3 (by decide +kernel) rfl (Wn := w_X7_isOpen cB cI cJ a_this a_heaps a_speeds a_closed a_hoursOpen a_todo a_hoursAhead a_placed a_closed_cells v_closed) rfl rfl rfl rfl rfl rfl (ci := 6) rfl rfl (q0 := 1) rfl rfl rfl (Nat.le_of_ble_eq_true rfl) dX7_isOpen_5 (fun H locs hP hD hS => ?_)
  refine lv_iload_n hx hb dX7_isOpen_8 rfl (lv_at hl 1 rfl) ?_
  obtain ⟨r2, hc2, hf⟩ := wk_b1E hf
  refine wk_callNi2 C hP hD hS (c_X10_hasBit l D cB cI cJ N r1 x1 hc2) ⟨va_cnB 2 hts gX7_isOpen_X10_hasBit_n76 rfl rfl rfl hN.2.2.2.2.2.2.1 (hts (.initialized RX10) (List.mem_of_getElem? (i := 9) rfl)) hd_X10_hasBit.2 ⟨Nat.le_of_ble_eq_true rfl, Nat.le_of_ble_eq_true rfl⟩, (hts (.static yX10_hasBit) (List.mem_of_getElem? (i := 8) rfl)), trivial⟩ hl.1 ⟨Nat.zero_le _, Nat.zero_le _⟩ [] [0, 1, 2] 3 (by decide +kernel) rfl (Wn := w_X7_isOpen cB cI cJ a_this a_heaps a_speeds a_closed a_hoursOpen a_todo a_hoursAhead a_placed a_closed_cells v_closed) rfl rfl rfl rfl rfl rfl rfl rfl (Nat.le_of_ble_eq_true rfl) dX7_isOpen_9 (fun H locs hP hD hS => ?_)
  refine lv_if_ne (tgt := 19) hx hb dX7_isOpen_12 (by decide) (fun c3 => ?_) (fun c3 => ?_)
  · have hf := wk_itF hf c3
    refine lv_iconst (v := (0 : Int32)) hx hb dX7_isOpen_19 (by decide) ?_
    exact hret _ _ _ _ _ _ dX7_isOpen_20 (wk_rt hf (fun z => wk_bI z)) rfl hP hD hS
  · have hf := wk_itT hf c3
    refine lv_iconst (v := (1 : Int32)) hx hb dX7_isOpen_15 (by decide) ?_
    refine lv_goto (tgt := 20) hx hb dX7_isOpen_16 (by decide) ?_
    exact hret _ _ _ _ _ _ dX7_isOpen_20 (wk_rt hf (fun z => wk_bI z)) rfl hP hD hS
abbrev w_X7_openHours (cB cI cJ : ClassId) (a_this : Nat) (a_heaps : Nat) (a_speeds : Nat) (a_closed : Nat) (a_hoursOpen : Nat) (a_todo : Nat) (a_hoursAhead : Nat) (a_placed : Nat) (a_closed_cells : Nat) (v_closed : Nat → Int32) : va_W := [(a_this, .inr (7, [.ref a_heaps, .ref a_speeds, .ref a_closed, .ref a_hoursOpen, .ref a_todo, .ref a_hoursAhead, .ref a_placed])), (a_closed, .inr (6, [.ref a_closed_cells])), (a_closed_cells, .inl (cI, 1000, .inl v_closed))]
theorem hd_X7_openHours : yX7_openHours.cls = RX7 ∧ yX7_openHours.cls ≠ "java/lang/invoke/MethodHandle" ∧ yX7_openHours.cls ≠ "java/lang/invoke/VarHandle" ∧ (parseMethodDescriptor yX7_openHours.desc).map (fun d => d.parameters.length) = some 3 := by decide +kernel
abbrev rm_X7_openHours : Room := { frames := 2, cells := 0, slots := 0, locals := 43 }
set_option maxHeartbeats 4000000 in
set_option maxRecDepth 100000 in
theorem c_X7_openHours (l : Launch) (D : va_G) (cB cI cJ : ClassId) (N : Nat) (a_this : Nat) (a_heaps : Nat) (a_speeds : Nat) (a_closed : Nat) (a_hoursOpen : Nat) (a_todo : Nat) (a_hoursAhead : Nat) (a_placed : Nat) (a_closed_cells : Nat) (v_closed : Nat → Int32) (x1 : Int32) (x2 : Int32) (x3 : Int32) {r : Int32} (hf : f_X7_openHours N v_closed x1 x2 x3 = some r) : MTi l yX7_openHours wsX7_openHours rm_X7_openHours D (wk_T cB cI cJ) [.ref a_this, .int x1, .int x2, .int x3] (w_X7_openHours cB cI cJ a_this a_heaps a_speeds a_closed a_hoursOpen a_todo a_hoursAhead a_placed a_closed_cells v_closed) (w_X7_openHours cB cI cJ a_this a_heaps a_speeds a_closed a_hoursOpen a_todo a_hoursAhead a_placed a_closed_cells v_closed) r := by
  refine MTi.of (cc := cX7_openHours) (nL := 6) (rt := .int) (own := RX7) pn_X7 rfl rfl (Nat.le_of_ble_eq_true rfl) rfl ?_
  intro p e s m args below meth c A ls Q C hP hD hS hl hret
  obtain ⟨hx, hb, hml, hts, hown, hK, hN, hA, hlk⟩ := id C
  have hl : lv_has ls 6 [(0, .ref a_this), (1, .int x1), (2, .int x2), (3, .int x3)] := hl
  have L6 := wk_loopI (F := (fun k6 : Int32 → Int32 → Int32 → Int32 → Option Int32 => B_X7_openHours_6 N v_closed k6)) (bot := fun _ _ _ _ => none) (fun k6 : Int32 → Int32 → Int32 → Int32 → Option Int32 => ∀ (x1 : Int32) (x3 : Int32) (x4 : Int32) (x5 : Int32), k6 x1 x3 x4 x5 = some r → ∀ (H : Heap) (locs : List Loc) (ls : Array Slot), va_P D vwCl (w_X7_openHours cB cI cJ a_this a_heaps a_speeds a_closed a_hoursOpen a_todo a_hoursAhead a_placed a_closed_cells v_closed) H → va_D A (w_X7_openHours cB cI cJ a_this a_heaps a_speeds a_closed a_hoursOpen a_todo a_hoursAhead a_placed a_closed_cells v_closed) → va_S A s.heap H locs → lv_has ls 6 [(0, .ref a_this), (1, .int x1), (3, .int x3), (4, .int x4), (5, .int x5)] → W p l e rm_X7_openHours s m args below meth c H locs 0 0 Q (F0 m 6 ls [])) (by intro x1 x3 x4 x5 hf; exact wk_no hf) (by
    intro k6 ih6
    intro x1 x3 x4 x5 hf H locs ls hP hD hS hl
    have hf : B_X7_openHours_6 N v_closed k6 x1 x3 x4 x5 = some r := hf
    unfold B_X7_openHours_6 at hf
    refine lv_iload hx hb dX7_openHours_6 (lv_at hl 4 rfl) ?_
    refine lv_iload_n hx hb dX7_openHours_8 rfl (lv_at hl 2 rfl) ?_
    refine lv_icmp_ge (tgt := 31) hx hb dX7_openHours_9 (by decide) (fun c1 => ?_) (fun c1 => ?_)
    · have hf := wk_itT hf c1
      refine lv_iload hx hb dX7_openHours_31 (lv_at hl 3 rfl) ?_
      exact hret _ _ _ _ _ _ dX7_openHours_33 (wk_rt hf (fun z => z)) rfl hP hD hS
    · have hf := wk_itF hf c1
      refine lv_aload_n hx hb dX7_openHours_12 rfl (lv_at hl 0 rfl) ?_
      refine lv_iload_n hx hb dX7_openHours_13 rfl (lv_at hl 1 rfl) ?_
      refine lv_iload hx hb dX7_openHours_14 (lv_at hl 4 rfl) ?_
      obtain ⟨r2, hc2, hf⟩ := wk_b1E hf
      refine wk_callVi2 C hP hD hS (c_X7_isOpen l D cB cI cJ N a_this a_heaps a_speeds a_closed a_hoursOpen a_todo a_hoursAhead a_placed a_closed_cells v_closed x1 x5 hc2) (cwV 2 hts gX7_openHours_X7_isOpen rfl rfl rfl hd_X7_isOpen ⟨Nat.le_of_ble_eq_true rfl, Nat.le_of_ble_eq_true rfl⟩) hl.1 ⟨Nat.zero_le _, Nat.zero_le _⟩ [0, 1, 2] [] 3 (by decide +kernel) rfl (Wn := w_X7_openHours cB cI cJ a_this a_heaps a_speeds a_closed a_hoursOpen a_todo a_hoursAhead a_placed a_closed_cells v_closed) rfl rfl rfl rfl rfl rfl (ci := 7) rfl rfl (q0 := 0) rfl rfl rfl (Nat.le_of_ble_eq_true rfl) dX7_openHours_16 (fun H locs hP hD hS => ?_)
      refine lv_if_eq (tgt := 25) hx hb dX7_openHours_19 (by decide) (fun c3 => ?_) (fun c3 => ?_)
      · have hf := wk_itT hf c3
        obtain ⟨y4, ey4⟩ : ∃ y : Int32, y = x5 + (1 : Int32) := ⟨_, rfl⟩
        have hf := wk_nmE hf ey4
        refine lv_iinc (v := y4) (lv' := [(5, .int y4), (0, .ref a_this), (1, .int x1), (3, .int x3), (4, .int x4)]) hx hb dX7_openHours_25 hl (k := 4) rfl (by rw [ey4]; rfl) (by decide) rfl (fun ls hl => ?_)
        refine lv_goto (tgt := 6) hx hb dX7_openHours_28 (by decide) ?_
        exact ih6 _ _ _ _ hf _ _ _ hP hD hS (lv_sub hl [1, 2, 3, 4, 0] rfl)
      · have hf := wk_itF hf c3
        obtain ⟨y5, ey5⟩ : ∃ y : Int32, y = x4 + (1 : Int32) := ⟨_, rfl⟩
        have hf := wk_nmE hf ey5
        refine lv_iinc (v := y5) (lv' := [(4, .int y5), (0, .ref a_this), (1, .int x1), (3, .int x3), (5, .int x5)]) hx hb dX7_openHours_22 hl (k := 3) rfl (by rw [ey5]; rfl) (by decide) rfl (fun ls hl => ?_)
        obtain ⟨y6, ey6⟩ : ∃ y : Int32, y = x5 + (1 : Int32) := ⟨_, rfl⟩
        have hf := wk_nmE hf ey6
        refine lv_iinc (v := y6) (lv' := [(5, .int y6), (4, .int y5), (0, .ref a_this), (1, .int x1), (3, .int x3)]) hx hb dX7_openHours_25 hl (k := 4) rfl (by rw [ey6]; rfl) (by decide) rfl (fun ls hl => ?_)
        refine lv_goto (tgt := 6) hx hb dX7_openHours_28 (by decide) ?_
        exact ih6 _ _ _ _ hf _ _ _ hP hD hS (lv_sub hl [2, 3, 4, 1, 0] rfl))
  unfold f_X7_openHours at hf
  refine lv_iconst (v := (0 : Int32)) hx hb dX7_openHours_0 (by decide) ?_
  refine lv_istore (lv' := [(4, .int (0 : Int32)), (0, .ref a_this), (1, .int x1), (2, .int x2), (3, .int x3)]) hx hb dX7_openHours_1 hl (by decide) rfl (fun ls hl => ?_)
  refine lv_iload_n hx hb dX7_openHours_3 rfl (lv_at hl 3 rfl) ?_
  refine lv_istore (lv' := [(5, .int x2), (4, .int (0 : Int32)), (0, .ref a_this), (1, .int x1), (2, .int x2), (3, .int x3)]) hx hb dX7_openHours_4 hl (by decide) rfl (fun ls hl => ?_)
  exact L6 N _ _ _ _ hf _ _ _ hP hD hS (lv_sub hl [2, 3, 5, 1, 0] rfl)
abbrev w_X7_scarcest (cB cI cJ : ClassId) (a_this : Nat) (a_heaps : Nat) (a_speeds : Nat) (a_closed : Nat) (a_hoursOpen : Nat) (a_todo : Nat) (a_hoursAhead : Nat) (a_placed : Nat) (a_closed_cells : Nat) (a_hoursAhead_cells : Nat) (a_todo_cells : Nat) (v_closed : Nat → Int32) (v_hoursAhead : Nat → Int32) (v_todo : Nat → Int32) : va_W := [(a_this, .inr (7, [.ref a_heaps, .ref a_speeds, .ref a_closed, .ref a_hoursOpen, .ref a_todo, .ref a_hoursAhead, .ref a_placed])), (a_closed, .inr (6, [.ref a_closed_cells])), (a_closed_cells, .inl (cI, 1000, .inl v_closed)), (a_hoursAhead, .inr (6, [.ref a_hoursAhead_cells])), (a_hoursAhead_cells, .inl (cI, 5, .inl v_hoursAhead)), (a_todo, .inr (6, [.ref a_todo_cells])), (a_todo_cells, .inl (cI, 5, .inl v_todo))]
theorem hd_X7_scarcest : yX7_scarcest.cls = RX7 ∧ yX7_scarcest.cls ≠ "java/lang/invoke/MethodHandle" ∧ yX7_scarcest.cls ≠ "java/lang/invoke/VarHandle" ∧ (parseMethodDescriptor yX7_scarcest.desc).map (fun d => d.parameters.length) = some 1 := by decide +kernel
abbrev rm_X7_scarcest : Room := { frames := 2, cells := 0, slots := 0, locals := 43 }
theorem in_X7_scarcest_X7 : ∀ w ∈ wsX70, w ∈ wsX7_scarcest := fun w h => List.mem_cons_of_mem _ (List.mem_append_left _ (List.mem_append_right _ h))
set_option maxHeartbeats 4000000 in
set_option maxRecDepth 100000 in
theorem c_X7_scarcest (l : Launch) (D : va_G) (cB cI cJ : ClassId) (N : Nat) (a_this : Nat) (a_heaps : Nat) (a_speeds : Nat) (a_closed : Nat) (a_hoursOpen : Nat) (a_todo : Nat) (a_hoursAhead : Nat) (a_placed : Nat) (a_closed_cells : Nat) (a_hoursAhead_cells : Nat) (a_todo_cells : Nat) (v_closed : Nat → Int32) (v_hoursAhead : Nat → Int32) (v_todo : Nat → Int32) (x1 : Int32) {r : Int32} (hf : f_X7_scarcest N v_closed v_hoursAhead v_todo x1 = some r) : MTi l yX7_scarcest wsX7_scarcest rm_X7_scarcest D (wk_T cB cI cJ) [.ref a_this, .int x1] (w_X7_scarcest cB cI cJ a_this a_heaps a_speeds a_closed a_hoursOpen a_todo a_hoursAhead a_placed a_closed_cells a_hoursAhead_cells a_todo_cells v_closed v_hoursAhead v_todo) (w_X7_scarcest cB cI cJ a_this a_heaps a_speeds a_closed a_hoursOpen a_todo a_hoursAhead a_placed a_closed_cells a_hoursAhead_cells a_todo_cells v_closed v_hoursAhead v_todo) r := by
  refine MTi.of (cc := cX7_scarcest) (nL := 5) (rt := .int) (own := RX7) pn_X7 rfl rfl (Nat.le_of_ble_eq_true rfl) rfl ?_
  intro p e s m args below meth c A ls Q C hP hD hS hl hret
  obtain ⟨hx, hb, hml, hts, hown, hK, hN, hA, hlk⟩ := id C
  have hl : lv_has ls 5 [(0, .ref a_this), (1, .int x1)] := hl
  have L5 := wk_loopI (F := (fun k5 : Int32 → Int32 → Int32 → Option Int32 => B_X7_scarcest_5 N v_closed v_hoursAhead v_todo k5)) (bot := fun _ _ _ => none) (fun k5 : Int32 → Int32 → Int32 → Option Int32 => ∀ (x1 : Int32) (x2 : Int32) (x3 : Int32), k5 x1 x2 x3 = some r → ∀ (H : Heap) (locs : List Loc) (ls : Array Slot), va_P D vwCl (w_X7_scarcest cB cI cJ a_this a_heaps a_speeds a_closed a_hoursOpen a_todo a_hoursAhead a_placed a_closed_cells a_hoursAhead_cells a_todo_cells v_closed v_hoursAhead v_todo) H → va_D A (w_X7_scarcest cB cI cJ a_this a_heaps a_speeds a_closed a_hoursOpen a_todo a_hoursAhead a_placed a_closed_cells a_hoursAhead_cells a_todo_cells v_closed v_hoursAhead v_todo) → va_S A s.heap H locs → lv_has ls 5 [(0, .ref a_this), (1, .int x1), (2, .int x2), (3, .int x3)] → W p l e rm_X7_scarcest s m args below meth c H locs 0 0 Q (F0 m 5 ls [])) (by intro x1 x2 x3 hf; exact wk_no hf) (by
    intro k5 ih5
    have J35 : ∀ (x1 : Int32) (x2 : Int32) (x3 : Int32) (s0 : Int32), B_X7_scarcest_35 N v_closed v_hoursAhead v_todo k5 x1 x2 x3 s0 = some r → ∀ (H : Heap) (locs : List Loc) (ls : Array Slot), va_P D vwCl (w_X7_scarcest cB cI cJ a_this a_heaps a_speeds a_closed a_hoursOpen a_todo a_hoursAhead a_placed a_closed_cells a_hoursAhead_cells a_todo_cells v_closed v_hoursAhead v_todo) H → va_D A (w_X7_scarcest cB cI cJ a_this a_heaps a_speeds a_closed a_hoursOpen a_todo a_hoursAhead a_placed a_closed_cells a_hoursAhead_cells a_todo_cells v_closed v_hoursAhead v_todo) → va_S A s.heap H locs → lv_has ls 5 [(0, .ref a_this), (1, .int x1), (2, .int x2), (3, .int x3)] → W p l e rm_X7_scarcest s m args below meth c H locs 0 0 Q (F0 m 35 ls [.int s0]) := by
      intro x1 x2 x3 s0 hf H locs ls hP hD hS hl
      unfold B_X7_scarcest_35 at hf
      refine lv_istore (lv' := [(4, .int s0), (0, .ref a_this), (1, .int x1), (2, .int x2), (3, .int x3)]) hx hb dX7_scarcest_35 hl (by decide) rfl (fun ls hl => ?_)
      refine lv_iload hx hb dX7_scarcest_37 (lv_at hl 0 rfl) ?_
      refine lv_if_eq (tgt := 69) hx hb dX7_scarcest_39 (by decide) (fun c1 => ?_) (fun c1 => ?_)
      · have hf := wk_itT hf c1
        obtain ⟨y2, ey2⟩ : ∃ y : Int32, y = x3 + (1 : Int32) := ⟨_, rfl⟩
        have hf := wk_nmE hf ey2
        refine lv_iinc (v := y2) (lv' := [(3, .int y2), (4, .int s0), (0, .ref a_this), (1, .int x1), (2, .int x2)]) hx hb dX7_scarcest_69 hl (k := 4) rfl (by rw [ey2]; rfl) (by decide) rfl (fun ls hl => ?_)
        refine lv_goto (tgt := 5) hx hb dX7_scarcest_72 (by decide) ?_
        exact ih5 _ _ _ hf _ _ _ hP hD hS (lv_sub hl [2, 3, 4, 0] rfl)
      · have hf := wk_itF hf c1
        refine lv_iload_n hx hb dX7_scarcest_42 rfl (lv_at hl 3 rfl) ?_
        refine lv_bipush (v := (-4 : Int32)) hx hb dX7_scarcest_43 (by decide) ?_
        refine lv_icmp_eq (tgt := 67) hx hb dX7_scarcest_45 (by decide) (fun c3 => ?_) (fun c3 => ?_)
        · have hf := wk_itT hf c3
          refine lv_iload_n hx hb dX7_scarcest_67 rfl (lv_at hl 4 rfl) ?_
          refine lv_istore_n (lv' := [(2, .int x3), (4, .int s0), (0, .ref a_this), (1, .int x1), (3, .int x3)]) hx hb dX7_scarcest_68 rfl hl (by decide) rfl (fun ls hl => ?_)
          obtain ⟨y4, ey4⟩ : ∃ y : Int32, y = x3 + (1 : Int32) := ⟨_, rfl⟩
          have hf := wk_nmE hf ey4
          refine lv_iinc (v := y4) (lv' := [(3, .int y4), (2, .int x3), (4, .int s0), (0, .ref a_this), (1, .int x1)]) hx hb dX7_scarcest_69 hl (k := 4) rfl (by rw [ey4]; rfl) (by decide) rfl (fun ls hl => ?_)
          refine lv_goto (tgt := 5) hx hb dX7_scarcest_72 (by decide) ?_
          exact ih5 _ _ _ hf _ _ _ hP hD hS (lv_sub hl [3, 4, 1, 0] rfl)
        · have hf := wk_itF hf c3
          refine lv_aload_n hx hb dX7_scarcest_48 rfl (lv_at hl 1 rfl) ?_
          refine va_get (D := D) (ci := 7) (v := .ref a_hoursAhead) (C := RX7) (T := TX7) (N := 7) hx hb hts in_X7_scarcest_X7 hown hK hP 0 rfl rfl 5 (by decide) (hts (.fieldLink RX7 32 "HangingCards$Shifts" "hoursAhead" "LHangingCards$Row;") (List.mem_of_getElem? (i := 2) rfl)) (fun _ h9 => h9) rfl dX7_scarcest_49 ?_
          refine lv_iload_n hx hb dX7_scarcest_52 rfl (lv_at hl 4 rfl) ?_
          obtain ⟨r5, hc5, hf⟩ := wk_b1E hf
          refine wk_callVi2 C hP hD hS (c_X6_get l D cB cI cJ N a_hoursAhead a_hoursAhead_cells 5 v_hoursAhead x3 hc5) (cwV 1 hts gX7_scarcest_X6_get rfl rfl rfl hd_X6_get ⟨Nat.le_of_ble_eq_true rfl, Nat.le_of_ble_eq_true rfl⟩) hl.1 ⟨Nat.zero_le _, Nat.zero_le _⟩ [3, 4] [0, 1, 2, 5, 6] 7 (by decide +kernel) rfl (Wn := w_X7_scarcest cB cI cJ a_this a_heaps a_speeds a_closed a_hoursOpen a_todo a_hoursAhead a_placed a_closed_cells a_hoursAhead_cells a_todo_cells v_closed v_hoursAhead v_todo) rfl rfl rfl rfl rfl rfl (ci := 6) rfl rfl (q0 := 3) rfl rfl rfl (Nat.le_of_ble_eq_true rfl) dX7_scarcest_53 (fun H locs hP hD hS => ?_)
          refine lv_aload_n hx hb dX7_scarcest_56 rfl (lv_at hl 1 rfl) ?_
          refine va_get (D := D) (ci := 7) (v := .ref a_hoursAhead) (C := RX7) (T := TX7) (N := 7) hx hb hts in_X7_scarcest_X7 hown hK hP 0 rfl rfl 5 (by decide) (hts (.fieldLink RX7 32 "HangingCards$Shifts" "hoursAhead" "LHangingCards$Row;") (List.mem_of_getElem? (i := 2) rfl)) (fun _ h9 => h9) rfl dX7_scarcest_57 ?_
          refine lv_iload_n hx hb dX7_scarcest_60 rfl (lv_at hl 3 rfl) ?_
          obtain ⟨r6, hc6, hf⟩ := wk_b1E hf
          refine wk_callVi2 C hP hD hS (c_X6_get l D cB cI cJ N a_hoursAhead a_hoursAhead_cells 5 v_hoursAhead x2 hc6) (cwV 1 hts gX7_scarcest_X6_get rfl rfl rfl hd_X6_get ⟨Nat.le_of_ble_eq_true rfl, Nat.le_of_ble_eq_true rfl⟩) hl.1 ⟨Nat.zero_le _, Nat.zero_le _⟩ [3, 4] [0, 1, 2, 5, 6] 7 (by decide +kernel) rfl (Wn := w_X7_scarcest cB cI cJ a_this a_heaps a_speeds a_closed a_hoursOpen a_todo a_hoursAhead a_placed a_closed_cells a_hoursAhead_cells a_todo_cells v_closed v_hoursAhead v_todo) rfl rfl rfl rfl rfl rfl (ci := 6) rfl rfl (q0 := 3) rfl rfl rfl (Nat.le_of_ble_eq_true rfl) dX7_scarcest_61 (fun H locs hP hD hS => ?_)
          refine lv_icmp_ge (tgt := 69) hx hb dX7_scarcest_64 (by decide) (fun c7 => ?_) (fun c7 => ?_)
          · have hf := wk_itT hf c7
            obtain ⟨y8, ey8⟩ : ∃ y : Int32, y = x3 + (1 : Int32) := ⟨_, rfl⟩
            have hf := wk_nmE hf ey8
            refine lv_iinc (v := y8) (lv' := [(3, .int y8), (4, .int s0), (0, .ref a_this), (1, .int x1), (2, .int x2)]) hx hb dX7_scarcest_69 hl (k := 4) rfl (by rw [ey8]; rfl) (by decide) rfl (fun ls hl => ?_)
            refine lv_goto (tgt := 5) hx hb dX7_scarcest_72 (by decide) ?_
            exact ih5 _ _ _ hf _ _ _ hP hD hS (lv_sub hl [2, 3, 4, 0] rfl)
          · have hf := wk_itF hf c7
            refine lv_iload_n hx hb dX7_scarcest_67 rfl (lv_at hl 4 rfl) ?_
            refine lv_istore_n (lv' := [(2, .int x3), (4, .int s0), (0, .ref a_this), (1, .int x1), (3, .int x3)]) hx hb dX7_scarcest_68 rfl hl (by decide) rfl (fun ls hl => ?_)
            obtain ⟨y9, ey9⟩ : ∃ y : Int32, y = x3 + (1 : Int32) := ⟨_, rfl⟩
            have hf := wk_nmE hf ey9
            refine lv_iinc (v := y9) (lv' := [(3, .int y9), (2, .int x3), (4, .int s0), (0, .ref a_this), (1, .int x1)]) hx hb dX7_scarcest_69 hl (k := 4) rfl (by rw [ey9]; rfl) (by decide) rfl (fun ls hl => ?_)
            refine lv_goto (tgt := 5) hx hb dX7_scarcest_72 (by decide) ?_
            exact ih5 _ _ _ hf _ _ _ hP hD hS (lv_sub hl [3, 4, 1, 0] rfl)
    intro x1 x2 x3 hf H locs ls hP hD hS hl
    have hf : B_X7_scarcest_5 N v_closed v_hoursAhead v_todo k5 x1 x2 x3 = some r := hf
    unfold B_X7_scarcest_5 at hf
    refine lv_iload_n hx hb dX7_scarcest_5 rfl (lv_at hl 3 rfl) ?_
    refine lv_iconst (v := (5 : Int32)) hx hb dX7_scarcest_6 (by decide) ?_
    refine lv_icmp_ge (tgt := 75) hx hb dX7_scarcest_7 (by decide) (fun c10 => ?_) (fun c10 => ?_)
    · have hf := wk_itT hf c10
      refine lv_iload_n hx hb dX7_scarcest_75 rfl (lv_at hl 2 rfl) ?_
      exact hret _ _ _ _ _ _ dX7_scarcest_76 (wk_rt hf (fun z => z)) rfl hP hD hS
    · have hf := wk_itF hf c10
      refine lv_aload_n hx hb dX7_scarcest_10 rfl (lv_at hl 0 rfl) ?_
      refine lv_iload_n hx hb dX7_scarcest_11 rfl (lv_at hl 3 rfl) ?_
      refine lv_iload_n hx hb dX7_scarcest_12 rfl (lv_at hl 1 rfl) ?_
      obtain ⟨r11, hc11, hf⟩ := wk_b1E hf
      refine wk_callVi2 C hP hD hS (c_X7_isOpen l D cB cI cJ N a_this a_heaps a_speeds a_closed a_hoursOpen a_todo a_hoursAhead a_placed a_closed_cells v_closed x3 x1 hc11) (cwV 2 hts gX7_scarcest_X7_isOpen rfl rfl rfl hd_X7_isOpen ⟨Nat.le_of_ble_eq_true rfl, Nat.le_of_ble_eq_true rfl⟩) hl.1 ⟨Nat.zero_le _, Nat.zero_le _⟩ [0, 1, 2] [3, 4, 5, 6] 7 (by decide +kernel) rfl (Wn := w_X7_scarcest cB cI cJ a_this a_heaps a_speeds a_closed a_hoursOpen a_todo a_hoursAhead a_placed a_closed_cells a_hoursAhead_cells a_todo_cells v_closed v_hoursAhead v_todo) rfl rfl rfl rfl rfl rfl (ci := 7) rfl rfl (q0 := 0) rfl rfl rfl (Nat.le_of_ble_eq_true rfl) dX7_scarcest_13 (fun H locs hP hD hS => ?_)
      refine lv_if_eq (tgt := 34) hx hb dX7_scarcest_16 (by decide) (fun c12 => ?_) (fun c12 => ?_)
      · have hf := wk_itT hf c12
        refine lv_iconst (v := (0 : Int32)) hx hb dX7_scarcest_34 (by decide) ?_
        exact J35 _ _ _ _ hf _ _ _ hP hD hS (lv_sub hl [0, 1, 2, 3] rfl)
      · have hf := wk_itF hf c12
        refine lv_aload_n hx hb dX7_scarcest_19 rfl (lv_at hl 0 rfl) ?_
        refine va_get (D := D) (ci := 7) (v := .ref a_todo) (C := RX7) (T := TX7) (N := 7) hx hb hts in_X7_scarcest_X7 hown hK hP 0 rfl rfl 4 (by decide) (hts (.fieldLink RX7 29 "HangingCards$Shifts" "todo" "LHangingCards$Row;") (List.mem_of_getElem? (i := 1) rfl)) (fun _ h9 => h9) rfl dX7_scarcest_20 ?_
        refine lv_iload_n hx hb dX7_scarcest_23 rfl (lv_at hl 3 rfl) ?_
        obtain ⟨r13, hc13, hf⟩ := wk_b1E hf
        refine wk_callVi2 C hP hD hS (c_X6_get l D cB cI cJ N a_todo a_todo_cells 5 v_todo x3 hc13) (cwV 1 hts gX7_scarcest_X6_get rfl rfl rfl hd_X6_get ⟨Nat.le_of_ble_eq_true rfl, Nat.le_of_ble_eq_true rfl⟩) hl.1 ⟨Nat.zero_le _, Nat.zero_le _⟩ [5, 6] [0, 1, 2, 3, 4] 7 (by decide +kernel) rfl (Wn := w_X7_scarcest cB cI cJ a_this a_heaps a_speeds a_closed a_hoursOpen a_todo a_hoursAhead a_placed a_closed_cells a_hoursAhead_cells a_todo_cells v_closed v_hoursAhead v_todo) rfl rfl rfl rfl rfl rfl (ci := 6) rfl rfl (q0 := 5) rfl rfl rfl (Nat.le_of_ble_eq_true rfl) dX7_scarcest_24 (fun H locs hP hD hS => ?_)
        refine lv_if_le (tgt := 34) hx hb dX7_scarcest_27 (by decide) (fun c14 => ?_) (fun c14 => ?_)
        · have hf := wk_itT hf c14
          refine lv_iconst (v := (0 : Int32)) hx hb dX7_scarcest_34 (by decide) ?_
          exact J35 _ _ _ _ hf _ _ _ hP hD hS (lv_sub hl [0, 1, 2, 3] rfl)
        · have hf := wk_itF hf c14
          refine lv_iconst (v := (1 : Int32)) hx hb dX7_scarcest_30 (by decide) ?_
          refine lv_goto (tgt := 35) hx hb dX7_scarcest_31 (by decide) ?_
          exact J35 _ _ _ _ hf _ _ _ hP hD hS (lv_sub hl [0, 1, 2, 3] rfl))
  unfold f_X7_scarcest at hf
  refine lv_bipush (v := (-4 : Int32)) hx hb dX7_scarcest_0 (by decide) ?_
  refine lv_istore_n (lv' := [(2, .int (-4 : Int32)), (0, .ref a_this), (1, .int x1)]) hx hb dX7_scarcest_2 rfl hl (by decide) rfl (fun ls hl => ?_)
  refine lv_iconst (v := (0 : Int32)) hx hb dX7_scarcest_3 (by decide) ?_
  refine lv_istore_n (lv' := [(3, .int (0 : Int32)), (2, .int (-4 : Int32)), (0, .ref a_this), (1, .int x1)]) hx hb dX7_scarcest_4 rfl hl (by decide) rfl (fun ls hl => ?_)
  exact L5 N _ _ _ hf _ _ _ hP hD hS (lv_sub hl [2, 3, 1, 0] rfl)
abbrev w_X7_placeHands (cB cI cJ : ClassId) (a_this : Nat) (a_heaps : Nat) (a_speeds : Nat) (a_closed : Nat) (a_hoursOpen : Nat) (a_todo : Nat) (a_hoursAhead : Nat) (a_placed : Nat) (a_closed_cells : Nat) (a_hoursAhead_cells : Nat) (a_placed_cells : Nat) (a_todo_cells : Nat) (v_closed : Nat → Int32) (v_hoursAhead : Nat → Int32) (v_placed : Nat → Int32) (v_todo : Nat → Int32) : va_W := [(a_this, .inr (7, [.ref a_heaps, .ref a_speeds, .ref a_closed, .ref a_hoursOpen, .ref a_todo, .ref a_hoursAhead, .ref a_placed])), (a_closed, .inr (6, [.ref a_closed_cells])), (a_closed_cells, .inl (cI, 1000, .inl v_closed)), (a_hoursAhead, .inr (6, [.ref a_hoursAhead_cells])), (a_hoursAhead_cells, .inl (cI, 5, .inl v_hoursAhead)), (a_placed, .inr (6, [.ref a_placed_cells])), (a_placed_cells, .inl (cI, 5, .inl v_placed)), (a_todo, .inr (6, [.ref a_todo_cells])), (a_todo_cells, .inl (cI, 5, .inl v_todo))]
theorem hd_X7_placeHands : yX7_placeHands.cls = RX7 ∧ yX7_placeHands.cls ≠ "java/lang/invoke/MethodHandle" ∧ yX7_placeHands.cls ≠ "java/lang/invoke/VarHandle" ∧ (parseMethodDescriptor yX7_placeHands.desc).map (fun d => d.parameters.length) = some 2 := by decide +kernel
abbrev rm_X7_placeHands : Room := { frames := 3, cells := 0, slots := 0, locals := 67 }
theorem in_X7_placeHands_X7 : ∀ w ∈ wsX70, w ∈ wsX7_placeHands := fun w h => List.mem_cons_of_mem _ (List.mem_append_left _ (List.mem_append_right _ h))
set_option maxHeartbeats 4000000 in
set_option maxRecDepth 100000 in
theorem c_X7_placeHands (l : Launch) (D : va_G) (cB cI cJ : ClassId) (N : Nat) (a_this : Nat) (a_heaps : Nat) (a_speeds : Nat) (a_closed : Nat) (a_hoursOpen : Nat) (a_todo : Nat) (a_hoursAhead : Nat) (a_placed : Nat) (a_closed_cells : Nat) (a_hoursAhead_cells : Nat) (a_placed_cells : Nat) (a_todo_cells : Nat) (v_closed : Nat → Int32) (v_hoursAhead : Nat → Int32) (v_placed : Nat → Int32) (v_todo : Nat → Int32) (x1 : Int32) (x2 : Int32) {o_hoursAhead : Nat → Int32} {o_placed : Nat → Int32} {o_todo : Nat → Int32} (hf : f_X7_placeHands N v_closed v_hoursAhead v_placed v_todo x1 x2 = some (o_hoursAhead, o_placed, o_todo)) : MTv l yX7_placeHands wsX7_placeHands rm_X7_placeHands D (wk_T cB cI cJ) [.ref a_this, .int x1, .int x2] (w_X7_placeHands cB cI cJ a_this a_heaps a_speeds a_closed a_hoursOpen a_todo a_hoursAhead a_placed a_closed_cells a_hoursAhead_cells a_placed_cells a_todo_cells v_closed v_hoursAhead v_placed v_todo) (w_X7_placeHands cB cI cJ a_this a_heaps a_speeds a_closed a_hoursOpen a_todo a_hoursAhead a_placed a_closed_cells a_hoursAhead_cells a_placed_cells a_todo_cells v_closed o_hoursAhead o_placed o_todo) := by
  refine MTv.of (cc := cX7_placeHands) (nL := 7) (own := RX7) pn_X7 rfl rfl (Nat.le_of_ble_eq_true rfl) ?_
  intro p e s m args below meth c A ls Q C hP hD hS hl hret
  obtain ⟨hx, hb, hml, hts, hown, hK, hN, hA, hlk⟩ := id C
  have hl : lv_has ls 7 [(0, .ref a_this), (1, .int x1), (2, .int x2)] := hl
  have L92 := wk_loopI (F := (fun k92 : (Nat → Int32) → (Nat → Int32) → (Nat → Int32) → Int32 → Int32 → Option ((Nat → Int32) × (Nat → Int32) × (Nat → Int32)) => B_X7_placeHands_92 N v_closed k92)) (bot := fun _ _ _ _ _ => none) (fun k92 : (Nat → Int32) → (Nat → Int32) → (Nat → Int32) → Int32 → Int32 → Option ((Nat → Int32) × (Nat → Int32) × (Nat → Int32)) => ∀ (v_hoursAhead : Nat → Int32) (v_placed : Nat → Int32) (v_todo : Nat → Int32) (x1 : Int32) (x4 : Int32), k92 v_hoursAhead v_placed v_todo x1 x4 = some (o_hoursAhead, o_placed, o_todo) → ∀ (H : Heap) (locs : List Loc) (ls : Array Slot), va_P D vwCl (w_X7_placeHands cB cI cJ a_this a_heaps a_speeds a_closed a_hoursOpen a_todo a_hoursAhead a_placed a_closed_cells a_hoursAhead_cells a_placed_cells a_todo_cells v_closed v_hoursAhead v_placed v_todo) H → va_D A (w_X7_placeHands cB cI cJ a_this a_heaps a_speeds a_closed a_hoursOpen a_todo a_hoursAhead a_placed a_closed_cells a_hoursAhead_cells a_placed_cells a_todo_cells v_closed v_hoursAhead v_placed v_todo) → va_S A s.heap H locs → lv_has ls 7 [(0, .ref a_this), (1, .int x1), (4, .int x4)] → W p l e rm_X7_placeHands s m args below meth c H locs 0 0 Q (F0 m 92 ls [])) (by intro v_hoursAhead v_placed v_todo x1 x4 hf; exact wk_no hf) (by
    intro k92 ih92
    intro v_hoursAhead v_placed v_todo x1 x4 hf H locs ls hP hD hS hl
    have hf : B_X7_placeHands_92 N v_closed k92 v_hoursAhead v_placed v_todo x1 x4 = some (o_hoursAhead, o_placed, o_todo) := hf
    unfold B_X7_placeHands_92 at hf
    refine lv_iload hx hb dX7_placeHands_92 (lv_at hl 2 rfl) ?_
    refine lv_iconst (v := (5 : Int32)) hx hb dX7_placeHands_94 (by decide) ?_
    refine lv_icmp_ge (tgt := 124) hx hb dX7_placeHands_95 (by decide) (fun c1 => ?_) (fun c1 => ?_)
    · have hf := wk_itT hf c1
      exact hret _ _ _ _ _ dX7_placeHands_124 (wk_rt hf (fun z => w_X7_placeHands cB cI cJ a_this a_heaps a_speeds a_closed a_hoursOpen a_todo a_hoursAhead a_placed a_closed_cells a_hoursAhead_cells a_placed_cells a_todo_cells v_closed (z.1) (z.2.1) (z.2.2))) hP hD hS
    · have hf := wk_itF hf c1
      refine lv_aload_n hx hb dX7_placeHands_98 rfl (lv_at hl 0 rfl) ?_
      refine lv_iload hx hb dX7_placeHands_99 (lv_at hl 2 rfl) ?_
      refine lv_iload_n hx hb dX7_placeHands_101 rfl (lv_at hl 1 rfl) ?_
      obtain ⟨r2, hc2, hf⟩ := wk_b1E hf
      refine wk_callVi2 C hP hD hS (c_X7_isOpen l D cB cI cJ N a_this a_heaps a_speeds a_closed a_hoursOpen a_todo a_hoursAhead a_placed a_closed_cells v_closed x4 x1 hc2) (cwV 2 hts gX7_placeHands_X7_isOpen rfl rfl rfl hd_X7_isOpen ⟨Nat.le_of_ble_eq_true rfl, Nat.le_of_ble_eq_true rfl⟩) hl.1 ⟨Nat.zero_le _, Nat.zero_le _⟩ [0, 1, 2] [3, 4, 5, 6, 7, 8] 9 (by decide +kernel) rfl (Wn := w_X7_placeHands cB cI cJ a_this a_heaps a_speeds a_closed a_hoursOpen a_todo a_hoursAhead a_placed a_closed_cells a_hoursAhead_cells a_placed_cells a_todo_cells v_closed v_hoursAhead v_placed v_todo) rfl rfl rfl rfl rfl rfl (ci := 7) rfl rfl (q0 := 0) rfl rfl rfl (Nat.le_of_ble_eq_true rfl) dX7_placeHands_102 (fun H locs hP hD hS => ?_)
      refine lv_if_eq (tgt := 118) hx hb dX7_placeHands_105 (by decide) (fun c3 => ?_) (fun c3 => ?_)
      · have hf := wk_itT hf c3
        obtain ⟨y4, ey4⟩ : ∃ y : Int32, y = x4 + (1 : Int32) := ⟨_, rfl⟩
        have hf := wk_nmE hf ey4
        refine lv_iinc (v := y4) (lv' := [(4, .int y4), (0, .ref a_this), (1, .int x1)]) hx hb dX7_placeHands_118 hl (k := 2) rfl (by rw [ey4]; rfl) (by decide) rfl (fun ls hl => ?_)
        refine lv_goto (tgt := 92) hx hb dX7_placeHands_121 (by decide) ?_
        exact ih92 _ _ _ _ _ hf _ _ _ hP hD hS (lv_sub hl [1, 2, 0] rfl)
      · have hf := wk_itF hf c3
        refine lv_aload_n hx hb dX7_placeHands_108 rfl (lv_at hl 0 rfl) ?_
        refine va_get (D := D) (ci := 7) (v := .ref a_hoursAhead) (C := RX7) (T := TX7) (N := 7) hx hb hts in_X7_placeHands_X7 hown hK hP 0 rfl rfl 5 (by decide) (hts (.fieldLink RX7 32 "HangingCards$Shifts" "hoursAhead" "LHangingCards$Row;") (List.mem_of_getElem? (i := 7) rfl)) (fun _ h9 => h9) rfl dX7_placeHands_109 ?_
        refine lv_iload hx hb dX7_placeHands_112 (lv_at hl 2 rfl) ?_
        refine lv_iconst (v := (-1 : Int32)) hx hb dX7_placeHands_114 (by decide) ?_
        obtain ⟨o5_0, hc5, hf⟩ := wk_b1E hf
        refine wk_callVv2 C hP hD hS (c_X6_add l D cB cI cJ N a_hoursAhead a_hoursAhead_cells 5 v_hoursAhead x4 (-1 : Int32) hc5) (cwV 2 hts gX7_placeHands_X6_add rfl rfl rfl hd_X6_add ⟨Nat.le_of_ble_eq_true rfl, Nat.le_of_ble_eq_true rfl⟩) hl.1 ⟨Nat.zero_le _, Nat.zero_le _⟩ [3, 4] [0, 1, 2, 5, 6, 7, 8] 9 (by decide +kernel) rfl (Wn := w_X7_placeHands cB cI cJ a_this a_heaps a_speeds a_closed a_hoursOpen a_todo a_hoursAhead a_placed a_closed_cells a_hoursAhead_cells a_placed_cells a_todo_cells v_closed o5_0 v_placed v_todo) rfl rfl rfl rfl rfl rfl (ci := 6) rfl rfl (q0 := 3) rfl rfl rfl (Nat.le_of_ble_eq_true rfl) dX7_placeHands_115 (fun H locs hP hD hS => ?_)
        obtain ⟨y6, ey6⟩ : ∃ y : Int32, y = x4 + (1 : Int32) := ⟨_, rfl⟩
        have hf := wk_nmE hf ey6
        refine lv_iinc (v := y6) (lv' := [(4, .int y6), (0, .ref a_this), (1, .int x1)]) hx hb dX7_placeHands_118 hl (k := 2) rfl (by rw [ey6]; rfl) (by decide) rfl (fun ls hl => ?_)
        refine lv_goto (tgt := 92) hx hb dX7_placeHands_121 (by decide) ?_
        exact ih92 _ _ _ _ _ hf _ _ _ hP hD hS (lv_sub hl [1, 2, 0] rfl))
  have L13 := wk_loopI (F := (fun k13 : (Nat → Int32) → (Nat → Int32) → (Nat → Int32) → Int32 → Int32 → Int32 → Option ((Nat → Int32) × (Nat → Int32) × (Nat → Int32)) => B_X7_placeHands_13 N v_closed k13)) (bot := fun _ _ _ _ _ _ => none) (fun k13 : (Nat → Int32) → (Nat → Int32) → (Nat → Int32) → Int32 → Int32 → Int32 → Option ((Nat → Int32) × (Nat → Int32) × (Nat → Int32)) => ∀ (v_hoursAhead : Nat → Int32) (v_placed : Nat → Int32) (v_todo : Nat → Int32) (x1 : Int32) (x3 : Int32) (x4 : Int32), k13 v_hoursAhead v_placed v_todo x1 x3 x4 = some (o_hoursAhead, o_placed, o_todo) → ∀ (H : Heap) (locs : List Loc) (ls : Array Slot), va_P D vwCl (w_X7_placeHands cB cI cJ a_this a_heaps a_speeds a_closed a_hoursOpen a_todo a_hoursAhead a_placed a_closed_cells a_hoursAhead_cells a_placed_cells a_todo_cells v_closed v_hoursAhead v_placed v_todo) H → va_D A (w_X7_placeHands cB cI cJ a_this a_heaps a_speeds a_closed a_hoursOpen a_todo a_hoursAhead a_placed a_closed_cells a_hoursAhead_cells a_placed_cells a_todo_cells v_closed v_hoursAhead v_placed v_todo) → va_S A s.heap H locs → lv_has ls 7 [(0, .ref a_this), (1, .int x1), (3, .int x3), (4, .int x4)] → W p l e rm_X7_placeHands s m args below meth c H locs 0 0 Q (F0 m 13 ls [])) (by intro v_hoursAhead v_placed v_todo x1 x3 x4 hf; exact wk_no hf) (by
    intro k13 ih13
    intro v_hoursAhead v_placed v_todo x1 x3 x4 hf H locs ls hP hD hS hl
    have hf : B_X7_placeHands_13 N v_closed k13 v_hoursAhead v_placed v_todo x1 x3 x4 = some (o_hoursAhead, o_placed, o_todo) := hf
    unfold B_X7_placeHands_13 at hf
    refine lv_iload hx hb dX7_placeHands_13 (lv_at hl 3 rfl) ?_
    refine lv_iconst (v := (5 : Int32)) hx hb dX7_placeHands_15 (by decide) ?_
    refine lv_icmp_ge (tgt := 89) hx hb dX7_placeHands_16 (by decide) (fun c7 => ?_) (fun c7 => ?_)
    · have hf := wk_itT hf c7
      refine lv_iconst (v := (0 : Int32)) hx hb dX7_placeHands_89 (by decide) ?_
      refine lv_istore (lv' := [(4, .int (0 : Int32)), (0, .ref a_this), (1, .int x1), (3, .int x3)]) hx hb dX7_placeHands_90 hl (by decide) rfl (fun ls hl => ?_)
      exact L92 N _ _ _ _ _ hf _ _ _ hP hD hS (lv_sub hl [1, 2, 0] rfl)
    · have hf := wk_itF hf c7
      refine lv_iload_n hx hb dX7_placeHands_19 rfl (lv_at hl 2 rfl) ?_
      refine lv_if_le (tgt := 89) hx hb dX7_placeHands_20 (by decide) (fun c8 => ?_) (fun c8 => ?_)
      · have hf := wk_itT hf c8
        refine lv_iconst (v := (0 : Int32)) hx hb dX7_placeHands_89 (by decide) ?_
        refine lv_istore (lv' := [(4, .int (0 : Int32)), (0, .ref a_this), (1, .int x1), (3, .int x3)]) hx hb dX7_placeHands_90 hl (by decide) rfl (fun ls hl => ?_)
        exact L92 N _ _ _ _ _ hf _ _ _ hP hD hS (lv_sub hl [1, 2, 0] rfl)
      · have hf := wk_itF hf c8
        refine lv_aload_n hx hb dX7_placeHands_23 rfl (lv_at hl 0 rfl) ?_
        refine lv_iload_n hx hb dX7_placeHands_24 rfl (lv_at hl 1 rfl) ?_
        obtain ⟨r9, hc9, hf⟩ := wk_b1E hf
        refine wk_callVi2 C hP hD hS (c_X7_scarcest l D cB cI cJ N a_this a_heaps a_speeds a_closed a_hoursOpen a_todo a_hoursAhead a_placed a_closed_cells a_hoursAhead_cells a_todo_cells v_closed v_hoursAhead v_todo x1 hc9) (cwV 1 hts gX7_placeHands_X7_scarcest rfl rfl rfl hd_X7_scarcest ⟨Nat.le_of_ble_eq_true rfl, Nat.le_of_ble_eq_true rfl⟩) hl.1 ⟨Nat.zero_le _, Nat.zero_le _⟩ [0, 1, 2, 3, 4, 7, 8] [5, 6] 9 (by decide +kernel) rfl (Wn := w_X7_placeHands cB cI cJ a_this a_heaps a_speeds a_closed a_hoursOpen a_todo a_hoursAhead a_placed a_closed_cells a_hoursAhead_cells a_placed_cells a_todo_cells v_closed v_hoursAhead v_placed v_todo) rfl rfl rfl rfl rfl rfl (ci := 7) rfl rfl (q0 := 0) rfl rfl rfl (Nat.le_of_ble_eq_true rfl) dX7_placeHands_25 (fun H locs hP hD hS => ?_)
        refine lv_istore (lv' := [(5, .int r9), (0, .ref a_this), (1, .int x1), (3, .int x3), (4, .int x4)]) hx hb dX7_placeHands_28 hl (by decide) rfl (fun ls hl => ?_)
        refine lv_iload hx hb dX7_placeHands_30 (lv_at hl 0 rfl) ?_
        refine lv_bipush (v := (-4 : Int32)) hx hb dX7_placeHands_32 (by decide) ?_
        refine lv_icmp_ne (tgt := 40) hx hb dX7_placeHands_34 (by decide) (fun c10 => ?_) (fun c10 => ?_)
        · have hf := wk_itF hf c10
          refine lv_iload_n hx hb dX7_placeHands_40 rfl (lv_at hl 3 rfl) ?_
          refine lv_aload_n hx hb dX7_placeHands_41 rfl (lv_at hl 1 rfl) ?_
          refine va_get (D := D) (ci := 7) (v := .ref a_todo) (C := RX7) (T := TX7) (N := 7) hx hb hts in_X7_placeHands_X7 hown hK hP 0 rfl rfl 4 (by decide) (hts (.fieldLink RX7 29 "HangingCards$Shifts" "todo" "LHangingCards$Row;") (List.mem_of_getElem? (i := 2) rfl)) (fun _ h9 => h9) rfl dX7_placeHands_42 ?_
          refine lv_iload hx hb dX7_placeHands_45 (lv_at hl 0 rfl) ?_
          obtain ⟨r11, hc11, hf⟩ := wk_b1E hf
          refine wk_callVi2 C hP hD hS (c_X6_get l D cB cI cJ N a_todo a_todo_cells 5 v_todo r9 hc11) (cwV 1 hts gX7_placeHands_X6_get rfl rfl rfl hd_X6_get ⟨Nat.le_of_ble_eq_true rfl, Nat.le_of_ble_eq_true rfl⟩) hl.1 ⟨Nat.zero_le _, Nat.zero_le _⟩ [7, 8] [0, 1, 2, 3, 4, 5, 6] 9 (by decide +kernel) rfl (Wn := w_X7_placeHands cB cI cJ a_this a_heaps a_speeds a_closed a_hoursOpen a_todo a_hoursAhead a_placed a_closed_cells a_hoursAhead_cells a_placed_cells a_todo_cells v_closed v_hoursAhead v_placed v_todo) rfl rfl rfl rfl rfl rfl (ci := 6) rfl rfl (q0 := 7) rfl rfl rfl (Nat.le_of_ble_eq_true rfl) dX7_placeHands_47 (fun H locs hP hD hS => ?_)
          refine va_mmin hx hb (hml.trans hl.1.symm) hown (hts (.methodLink RX7 102 Lib.Math.min.name) (List.mem_of_getElem? (i := 3) rfl)) (hts (.static Lib.Math.min.name) (List.mem_of_getElem? (i := 4) rfl)) (hts (.initialized "java/lang/Math") (List.mem_of_getElem? (i := 5) rfl)) (hts (.code Lib.Math.min.name Lib.Math.min.code 2 (some .int)) (List.mem_of_getElem? (i := 6) rfl)) (Nat.le_of_ble_eq_true rfl) (Nat.le_of_ble_eq_true rfl) (Nat.zero_le _) (Nat.zero_le _) dX7_placeHands_50 ?_
          refine lv_topi (fun y12 ey12 => ?_)
          have hf := wk_nmE hf ey12
          refine lv_istore (lv' := [(6, .int y12), (5, .int r9), (0, .ref a_this), (1, .int x1), (3, .int x3), (4, .int x4)]) hx hb dX7_placeHands_53 hl (by decide) rfl (fun ls hl => ?_)
          refine lv_aload_n hx hb dX7_placeHands_55 rfl (lv_at hl 2 rfl) ?_
          refine va_get (D := D) (ci := 7) (v := .ref a_placed) (C := RX7) (T := TX7) (N := 7) hx hb hts in_X7_placeHands_X7 hown hK hP 0 rfl rfl 6 (by decide) (hts (.fieldLink RX7 35 "HangingCards$Shifts" "placed" "LHangingCards$Row;") (List.mem_of_getElem? (i := 1) rfl)) (fun _ h9 => h9) rfl dX7_placeHands_56 ?_
          refine lv_iload hx hb dX7_placeHands_59 (lv_at hl 1 rfl) ?_
          refine lv_iload hx hb dX7_placeHands_61 (lv_at hl 0 rfl) ?_
          obtain ⟨o13_0, hc13, hf⟩ := wk_b1E hf
          refine wk_callVv2 C hP hD hS (c_X6_set l D cB cI cJ N a_placed a_placed_cells 5 v_placed r9 y12 hc13) (cwV 2 hts gX7_placeHands_X6_set rfl rfl rfl hd_X6_set ⟨Nat.le_of_ble_eq_true rfl, Nat.le_of_ble_eq_true rfl⟩) hl.1 ⟨Nat.zero_le _, Nat.zero_le _⟩ [5, 6] [0, 1, 2, 3, 4, 7, 8] 9 (by decide +kernel) rfl (Wn := w_X7_placeHands cB cI cJ a_this a_heaps a_speeds a_closed a_hoursOpen a_todo a_hoursAhead a_placed a_closed_cells a_hoursAhead_cells a_placed_cells a_todo_cells v_closed v_hoursAhead o13_0 v_todo) rfl rfl rfl rfl rfl rfl (ci := 6) rfl rfl (q0 := 5) rfl rfl rfl (Nat.le_of_ble_eq_true rfl) dX7_placeHands_63 (fun H locs hP hD hS => ?_)
          refine lv_aload_n hx hb dX7_placeHands_66 rfl (lv_at hl 2 rfl) ?_
          refine va_get (D := D) (ci := 7) (v := .ref a_todo) (C := RX7) (T := TX7) (N := 7) hx hb hts in_X7_placeHands_X7 hown hK hP 0 rfl rfl 4 (by decide) (hts (.fieldLink RX7 29 "HangingCards$Shifts" "todo" "LHangingCards$Row;") (List.mem_of_getElem? (i := 2) rfl)) (fun _ h9 => h9) rfl dX7_placeHands_67 ?_
          refine lv_iload hx hb dX7_placeHands_70 (lv_at hl 1 rfl) ?_
          refine lv_iload hx hb dX7_placeHands_72 (lv_at hl 0 rfl) ?_
          refine lv_ineg hx hb dX7_placeHands_74 ?_
          obtain ⟨o14_0, hc14, hf⟩ := wk_b1E hf
          refine wk_callVv2 C hP hD hS (c_X6_add l D cB cI cJ N a_todo a_todo_cells 5 v_todo r9 (-y12) hc14) (cwV 2 hts gX7_placeHands_X6_add rfl rfl rfl hd_X6_add ⟨Nat.le_of_ble_eq_true rfl, Nat.le_of_ble_eq_true rfl⟩) hl.1 ⟨Nat.zero_le _, Nat.zero_le _⟩ [7, 8] [0, 1, 2, 3, 4, 5, 6] 9 (by decide +kernel) rfl (Wn := w_X7_placeHands cB cI cJ a_this a_heaps a_speeds a_closed a_hoursOpen a_todo a_hoursAhead a_placed a_closed_cells a_hoursAhead_cells a_placed_cells a_todo_cells v_closed v_hoursAhead o13_0 o14_0) rfl rfl rfl rfl rfl rfl (ci := 6) rfl rfl (q0 := 7) rfl rfl rfl (Nat.le_of_ble_eq_true rfl) dX7_placeHands_75 (fun H locs hP hD hS => ?_)
          refine lv_iload_n hx hb dX7_placeHands_78 rfl (lv_at hl 4 rfl) ?_
          refine lv_iload hx hb dX7_placeHands_79 (lv_at hl 0 rfl) ?_
          refine lv_isub hx hb dX7_placeHands_81 ?_
          refine lv_topi (fun y15 ey15 => ?_)
          have hf := wk_nmE hf ey15
          refine lv_istore_n (lv' := [(3, .int y15), (6, .int y12), (5, .int r9), (0, .ref a_this), (1, .int x1), (4, .int x4)]) hx hb dX7_placeHands_82 rfl hl (by decide) rfl (fun ls hl => ?_)
          obtain ⟨y16, ey16⟩ : ∃ y : Int32, y = x4 + (1 : Int32) := ⟨_, rfl⟩
          have hf := wk_nmE hf ey16
          refine lv_iinc (v := y16) (lv' := [(4, .int y16), (3, .int y15), (6, .int y12), (5, .int r9), (0, .ref a_this), (1, .int x1)]) hx hb dX7_placeHands_83 hl (k := 5) rfl (by rw [ey16]; rfl) (by decide) rfl (fun ls hl => ?_)
          refine lv_goto (tgt := 13) hx hb dX7_placeHands_86 (by decide) ?_
          exact ih13 _ _ _ _ _ _ hf _ _ _ hP hD hS (lv_sub hl [4, 5, 1, 0] rfl)
        · have hf := wk_itT hf c10
          refine lv_goto (tgt := 89) hx hb dX7_placeHands_37 (by decide) ?_
          refine lv_iconst (v := (0 : Int32)) hx hb dX7_placeHands_89 (by decide) ?_
          refine lv_istore (lv' := [(4, .int (0 : Int32)), (5, .int r9), (0, .ref a_this), (1, .int x1), (3, .int x3)]) hx hb dX7_placeHands_90 hl (by decide) rfl (fun ls hl => ?_)
          exact L92 N _ _ _ _ _ hf _ _ _ hP hD hS (lv_sub hl [2, 3, 0] rfl))
  unfold f_X7_placeHands at hf
  refine lv_aload_n hx hb dX7_placeHands_0 rfl (lv_at hl 0 rfl) ?_
  refine va_get (D := D) (ci := 7) (v := .ref a_placed) (C := RX7) (T := TX7) (N := 7) hx hb hts in_X7_placeHands_X7 hown hK hP 0 rfl rfl 6 (by decide) (hts (.fieldLink RX7 35 "HangingCards$Shifts" "placed" "LHangingCards$Row;") (List.mem_of_getElem? (i := 1) rfl)) (fun _ h9 => h9) rfl dX7_placeHands_1 ?_
  refine lv_iconst (v := (0 : Int32)) hx hb dX7_placeHands_4 (by decide) ?_
  obtain ⟨o17_0, hc17, hf⟩ := wk_b1E hf
  refine wk_callVv2 C hP hD hS (c_X6_fill l D cB cI cJ N a_placed a_placed_cells 5 v_placed (0 : Int32) hc17) (cwV 1 hts gX7_placeHands_X6_fill rfl rfl rfl hd_X6_fill ⟨Nat.le_of_ble_eq_true rfl, Nat.le_of_ble_eq_true rfl⟩) hl.1 ⟨Nat.zero_le _, Nat.zero_le _⟩ [5, 6] [0, 1, 2, 3, 4, 7, 8] 9 (by decide +kernel) rfl (Wn := w_X7_placeHands cB cI cJ a_this a_heaps a_speeds a_closed a_hoursOpen a_todo a_hoursAhead a_placed a_closed_cells a_hoursAhead_cells a_placed_cells a_todo_cells v_closed v_hoursAhead o17_0 v_todo) rfl rfl rfl rfl rfl rfl (ci := 6) rfl rfl (q0 := 5) rfl rfl rfl (Nat.le_of_ble_eq_true rfl) dX7_placeHands_5 (fun H locs hP hD hS => ?_)
  refine lv_iload_n hx hb dX7_placeHands_8 rfl (lv_at hl 2 rfl) ?_
  refine lv_istore_n (lv' := [(3, .int x2), (0, .ref a_this), (1, .int x1), (2, .int x2)]) hx hb dX7_placeHands_9 rfl hl (by decide) rfl (fun ls hl => ?_)
  refine lv_iconst (v := (0 : Int32)) hx hb dX7_placeHands_10 (by decide) ?_
  refine lv_istore (lv' := [(4, .int (0 : Int32)), (3, .int x2), (0, .ref a_this), (1, .int x1), (2, .int x2)]) hx hb dX7_placeHands_11 hl (by decide) rfl (fun ls hl => ?_)
  exact L13 N _ _ _ _ _ _ hf _ _ _ hP hD hS (lv_sub hl [2, 3, 1, 0] rfl)
abbrev w_X7_work (cB cI cJ : ClassId) (a_this : Nat) (a_heaps : Nat) (a_speeds : Nat) (a_closed : Nat) (a_hoursOpen : Nat) (a_todo : Nat) (a_hoursAhead : Nat) (a_placed : Nat) (a_closed_cells : Nat) (a_heaps_cells : Nat) (a_hoursAhead_cells : Nat) (a_placed_cells : Nat) (a_speeds_cells : Nat) (a_todo_cells : Nat) (v_closed : Nat → Int32) (v_heaps : Nat → Int32) (v_hoursAhead : Nat → Int32) (v_placed : Nat → Int32) (v_speeds : Nat → Int32) (v_todo : Nat → Int32) : va_W := [(a_this, .inr (7, [.ref a_heaps, .ref a_speeds, .ref a_closed, .ref a_hoursOpen, .ref a_todo, .ref a_hoursAhead, .ref a_placed])), (a_closed, .inr (6, [.ref a_closed_cells])), (a_closed_cells, .inl (cI, 1000, .inl v_closed)), (a_heaps, .inr (6, [.ref a_heaps_cells])), (a_heaps_cells, .inl (cI, 5, .inl v_heaps)), (a_hoursAhead, .inr (6, [.ref a_hoursAhead_cells])), (a_hoursAhead_cells, .inl (cI, 5, .inl v_hoursAhead)), (a_placed, .inr (6, [.ref a_placed_cells])), (a_placed_cells, .inl (cI, 5, .inl v_placed)), (a_speeds, .inr (6, [.ref a_speeds_cells])), (a_speeds_cells, .inl (cI, 5, .inl v_speeds)), (a_todo, .inr (6, [.ref a_todo_cells])), (a_todo_cells, .inl (cI, 5, .inl v_todo))]
theorem hd_X7_work : yX7_work.cls = RX7 ∧ yX7_work.cls ≠ "java/lang/invoke/MethodHandle" ∧ yX7_work.cls ≠ "java/lang/invoke/VarHandle" ∧ (parseMethodDescriptor yX7_work.desc).map (fun d => d.parameters.length) = some 4 := by decide +kernel
abbrev rm_X7_work : Room := { frames := 4, cells := 0, slots := 0, locals := 93 }
theorem in_X7_work_X7 : ∀ w ∈ wsX70, w ∈ wsX7_work := fun w h => List.mem_cons_of_mem _ (List.mem_append_left _ (List.mem_append_right _ h))
set_option maxHeartbeats 4000000 in
set_option maxRecDepth 100000 in
theorem c_X7_work (l : Launch) (D : va_G) (cB cI cJ : ClassId) (N : Nat) (a_this : Nat) (a_heaps : Nat) (a_speeds : Nat) (a_closed : Nat) (a_hoursOpen : Nat) (a_todo : Nat) (a_hoursAhead : Nat) (a_placed : Nat) (a_closed_cells : Nat) (a_heaps_cells : Nat) (a_hoursAhead_cells : Nat) (a_placed_cells : Nat) (a_speeds_cells : Nat) (a_todo_cells : Nat) (v_closed : Nat → Int32) (v_heaps : Nat → Int32) (v_hoursAhead : Nat → Int32) (v_placed : Nat → Int32) (v_speeds : Nat → Int32) (v_todo : Nat → Int32) (x1 : Int32) (x2 : Int32) (x3 : Int32) (x4 : Int32) {o_hoursAhead : Nat → Int32} {o_placed : Nat → Int32} {o_todo : Nat → Int32} (hf : f_X7_work N v_closed v_heaps v_speeds v_hoursAhead v_placed v_todo x1 x2 x3 x4 = some (o_hoursAhead, o_placed, o_todo)) : MTv l yX7_work wsX7_work rm_X7_work D (wk_T cB cI cJ) [.ref a_this, .int x1, .int x2, .int x3, .int x4] (w_X7_work cB cI cJ a_this a_heaps a_speeds a_closed a_hoursOpen a_todo a_hoursAhead a_placed a_closed_cells a_heaps_cells a_hoursAhead_cells a_placed_cells a_speeds_cells a_todo_cells v_closed v_heaps v_hoursAhead v_placed v_speeds v_todo) (w_X7_work cB cI cJ a_this a_heaps a_speeds a_closed a_hoursOpen a_todo a_hoursAhead a_placed a_closed_cells a_heaps_cells a_hoursAhead_cells a_placed_cells a_speeds_cells a_todo_cells v_closed v_heaps o_hoursAhead o_placed v_speeds o_todo) := by
  refine MTv.of (cc := cX7_work) (nL := 6) (own := RX7) pn_X7 rfl rfl (Nat.le_of_ble_eq_true rfl) ?_
  intro p e s m args below meth c A ls Q C hP hD hS hl hret
  obtain ⟨hx, hb, hml, hts, hown, hK, hN, hA, hlk⟩ := id C
  have hl : lv_has ls 6 [(0, .ref a_this), (1, .int x1), (2, .int x2), (3, .int x3), (4, .int x4)] := hl
  have L50 := wk_loopI (F := (fun k50 : (Nat → Int32) → (Nat → Int32) → (Nat → Int32) → Int32 → Int32 → Int32 → Option ((Nat → Int32) × (Nat → Int32) × (Nat → Int32)) => B_X7_work_50 N v_closed v_heaps v_speeds k50)) (bot := fun _ _ _ _ _ _ => none) (fun k50 : (Nat → Int32) → (Nat → Int32) → (Nat → Int32) → Int32 → Int32 → Int32 → Option ((Nat → Int32) × (Nat → Int32) × (Nat → Int32)) => ∀ (v_hoursAhead : Nat → Int32) (v_placed : Nat → Int32) (v_todo : Nat → Int32) (x3 : Int32) (x4 : Int32) (x5 : Int32), k50 v_hoursAhead v_placed v_todo x3 x4 x5 = some (o_hoursAhead, o_placed, o_todo) → ∀ (H : Heap) (locs : List Loc) (ls : Array Slot), va_P D vwCl (w_X7_work cB cI cJ a_this a_heaps a_speeds a_closed a_hoursOpen a_todo a_hoursAhead a_placed a_closed_cells a_heaps_cells a_hoursAhead_cells a_placed_cells a_speeds_cells a_todo_cells v_closed v_heaps v_hoursAhead v_placed v_speeds v_todo) H → va_D A (w_X7_work cB cI cJ a_this a_heaps a_speeds a_closed a_hoursOpen a_todo a_hoursAhead a_placed a_closed_cells a_heaps_cells a_hoursAhead_cells a_placed_cells a_speeds_cells a_todo_cells v_closed v_heaps v_hoursAhead v_placed v_speeds v_todo) → va_S A s.heap H locs → lv_has ls 6 [(0, .ref a_this), (3, .int x3), (4, .int x4), (5, .int x5)] → W p l e rm_X7_work s m args below meth c H locs 0 0 Q (F0 m 50 ls [])) (by intro v_hoursAhead v_placed v_todo x3 x4 x5 hf; exact wk_no hf) (by
    intro k50 ih50
    intro v_hoursAhead v_placed v_todo x3 x4 x5 hf H locs ls hP hD hS hl
    have hf : B_X7_work_50 N v_closed v_heaps v_speeds k50 v_hoursAhead v_placed v_todo x3 x4 x5 = some (o_hoursAhead, o_placed, o_todo) := hf
    unfold B_X7_work_50 at hf
    refine lv_iload hx hb dX7_work_50 (lv_at hl 3 rfl) ?_
    refine lv_iload hx hb dX7_work_52 (lv_at hl 2 rfl) ?_
    refine lv_icmp_ge (tgt := 70) hx hb dX7_work_54 (by decide) (fun c1 => ?_) (fun c1 => ?_)
    · have hf := wk_itT hf c1
      exact hret _ _ _ _ _ dX7_work_70 (wk_rt hf (fun z => w_X7_work cB cI cJ a_this a_heaps a_speeds a_closed a_hoursOpen a_todo a_hoursAhead a_placed a_closed_cells a_heaps_cells a_hoursAhead_cells a_placed_cells a_speeds_cells a_todo_cells v_closed v_heaps (z.1) (z.2.1) v_speeds (z.2.2))) hP hD hS
    · have hf := wk_itF hf c1
      refine lv_aload_n hx hb dX7_work_57 rfl (lv_at hl 0 rfl) ?_
      refine lv_iload hx hb dX7_work_58 (lv_at hl 3 rfl) ?_
      refine lv_iload_n hx hb dX7_work_60 rfl (lv_at hl 1 rfl) ?_
      obtain ⟨o2_0, o2_1, o2_2, hc2, hf⟩ := wk_b3E hf
      refine wk_callVv2 C hP hD hS (c_X7_placeHands l D cB cI cJ N a_this a_heaps a_speeds a_closed a_hoursOpen a_todo a_hoursAhead a_placed a_closed_cells a_hoursAhead_cells a_placed_cells a_todo_cells v_closed v_hoursAhead v_placed v_todo x5 x3 hc2) (cwV 2 hts gX7_work_X7_placeHands rfl rfl rfl hd_X7_placeHands ⟨Nat.le_of_ble_eq_true rfl, Nat.le_of_ble_eq_true rfl⟩) hl.1 ⟨Nat.zero_le _, Nat.zero_le _⟩ [0, 1, 2, 5, 6, 7, 8, 11, 12] [3, 4, 9, 10] 13 (by decide +kernel) rfl (Wn := w_X7_work cB cI cJ a_this a_heaps a_speeds a_closed a_hoursOpen a_todo a_hoursAhead a_placed a_closed_cells a_heaps_cells a_hoursAhead_cells a_placed_cells a_speeds_cells a_todo_cells v_closed v_heaps o2_0 o2_1 v_speeds o2_2) rfl rfl rfl rfl rfl rfl (ci := 7) rfl rfl (q0 := 0) rfl rfl rfl (Nat.le_of_ble_eq_true rfl) dX7_work_61 (fun H locs hP hD hS => ?_)
      obtain ⟨y3, ey3⟩ : ∃ y : Int32, y = x5 + (1 : Int32) := ⟨_, rfl⟩
      have hf := wk_nmE hf ey3
      refine lv_iinc (v := y3) (lv' := [(5, .int y3), (0, .ref a_this), (3, .int x3), (4, .int x4)]) hx hb dX7_work_64 hl (k := 3) rfl (by rw [ey3]; rfl) (by decide) rfl (fun ls hl => ?_)
      refine lv_goto (tgt := 50) hx hb dX7_work_67 (by decide) ?_
      exact ih50 _ _ _ _ _ _ hf _ _ _ hP hD hS (lv_sub hl [1, 2, 3, 0] rfl))
  have L3 := wk_loopI (F := (fun k3 : (Nat → Int32) → (Nat → Int32) → (Nat → Int32) → Int32 → Int32 → Int32 → Int32 → Int32 → Option ((Nat → Int32) × (Nat → Int32) × (Nat → Int32)) => B_X7_work_3 N v_closed v_heaps v_speeds k3)) (bot := fun _ _ _ _ _ _ _ _ => none) (fun k3 : (Nat → Int32) → (Nat → Int32) → (Nat → Int32) → Int32 → Int32 → Int32 → Int32 → Int32 → Option ((Nat → Int32) × (Nat → Int32) × (Nat → Int32)) => ∀ (v_hoursAhead : Nat → Int32) (v_placed : Nat → Int32) (v_todo : Nat → Int32) (x1 : Int32) (x2 : Int32) (x3 : Int32) (x4 : Int32) (x5 : Int32), k3 v_hoursAhead v_placed v_todo x1 x2 x3 x4 x5 = some (o_hoursAhead, o_placed, o_todo) → ∀ (H : Heap) (locs : List Loc) (ls : Array Slot), va_P D vwCl (w_X7_work cB cI cJ a_this a_heaps a_speeds a_closed a_hoursOpen a_todo a_hoursAhead a_placed a_closed_cells a_heaps_cells a_hoursAhead_cells a_placed_cells a_speeds_cells a_todo_cells v_closed v_heaps v_hoursAhead v_placed v_speeds v_todo) H → va_D A (w_X7_work cB cI cJ a_this a_heaps a_speeds a_closed a_hoursOpen a_todo a_hoursAhead a_placed a_closed_cells a_heaps_cells a_hoursAhead_cells a_placed_cells a_speeds_cells a_todo_cells v_closed v_heaps v_hoursAhead v_placed v_speeds v_todo) → va_S A s.heap H locs → lv_has ls 6 [(0, .ref a_this), (1, .int x1), (2, .int x2), (3, .int x3), (4, .int x4), (5, .int x5)] → W p l e rm_X7_work s m args below meth c H locs 0 0 Q (F0 m 3 ls [])) (by intro v_hoursAhead v_placed v_todo x1 x2 x3 x4 x5 hf; exact wk_no hf) (by
    intro k3 ih3
    intro v_hoursAhead v_placed v_todo x1 x2 x3 x4 x5 hf H locs ls hP hD hS hl
    have hf : B_X7_work_3 N v_closed v_heaps v_speeds k3 v_hoursAhead v_placed v_todo x1 x2 x3 x4 x5 = some (o_hoursAhead, o_placed, o_todo) := hf
    unfold B_X7_work_3 at hf
    refine lv_iload hx hb dX7_work_3 (lv_at hl 5 rfl) ?_
    refine lv_iconst (v := (5 : Int32)) hx hb dX7_work_5 (by decide) ?_
    refine lv_icmp_ge (tgt := 47) hx hb dX7_work_6 (by decide) (fun c4 => ?_) (fun c4 => ?_)
    · have hf := wk_itT hf c4
      refine lv_iload_n hx hb dX7_work_47 rfl (lv_at hl 1 rfl) ?_
      refine lv_istore (lv' := [(5, .int x1), (0, .ref a_this), (1, .int x1), (2, .int x2), (3, .int x3), (4, .int x4)]) hx hb dX7_work_48 hl (by decide) rfl (fun ls hl => ?_)
      exact L50 N _ _ _ _ _ _ hf _ _ _ hP hD hS (lv_sub hl [1, 4, 5, 0] rfl)
    · have hf := wk_itF hf c4
      refine lv_aload_n hx hb dX7_work_9 rfl (lv_at hl 0 rfl) ?_
      refine va_get (D := D) (ci := 7) (v := .ref a_todo) (C := RX7) (T := TX7) (N := 7) hx hb hts in_X7_work_X7 hown hK hP 0 rfl rfl 4 (by decide) (hts (.fieldLink RX7 29 "HangingCards$Shifts" "todo" "LHangingCards$Row;") (List.mem_of_getElem? (i := 1) rfl)) (fun _ h9 => h9) rfl dX7_work_10 ?_
      refine lv_iload hx hb dX7_work_13 (lv_at hl 5 rfl) ?_
      refine lv_aload_n hx hb dX7_work_15 rfl (lv_at hl 0 rfl) ?_
      refine lv_iload hx hb dX7_work_16 (lv_at hl 5 rfl) ?_
      obtain ⟨r5, hc5, hf⟩ := wk_b1E hf
      refine wk_callVi2 C hP hD hS (c_X7_workOf l D cB cI cJ N a_this a_heaps a_speeds a_closed a_hoursOpen a_todo a_hoursAhead a_placed a_heaps_cells a_speeds_cells v_heaps v_speeds x5 hc5) (cwV 1 hts gX7_work_X7_workOf rfl rfl rfl hd_X7_workOf ⟨Nat.le_of_ble_eq_true rfl, Nat.le_of_ble_eq_true rfl⟩) hl.1 ⟨Nat.zero_le _, Nat.zero_le _⟩ [0, 3, 4, 9, 10] [1, 2, 5, 6, 7, 8, 11, 12] 13 (by decide +kernel) rfl (Wn := w_X7_work cB cI cJ a_this a_heaps a_speeds a_closed a_hoursOpen a_todo a_hoursAhead a_placed a_closed_cells a_heaps_cells a_hoursAhead_cells a_placed_cells a_speeds_cells a_todo_cells v_closed v_heaps v_hoursAhead v_placed v_speeds v_todo) rfl rfl rfl rfl rfl rfl (ci := 7) rfl rfl (q0 := 0) rfl rfl rfl (Nat.le_of_ble_eq_true rfl) dX7_work_18 (fun H locs hP hD hS => ?_)
      obtain ⟨o6_0, hc6, hf⟩ := wk_b1E hf
      refine wk_callVv2 C hP hD hS (c_X6_set l D cB cI cJ N a_todo a_todo_cells 5 v_todo x5 r5 hc6) (cwV 2 hts gX7_work_X6_set rfl rfl rfl hd_X6_set ⟨Nat.le_of_ble_eq_true rfl, Nat.le_of_ble_eq_true rfl⟩) hl.1 ⟨Nat.zero_le _, Nat.zero_le _⟩ [11, 12] [0, 1, 2, 3, 4, 5, 6, 7, 8, 9, 10] 13 (by decide +kernel) rfl (Wn := w_X7_work cB cI cJ a_this a_heaps a_speeds a_closed a_hoursOpen a_todo a_hoursAhead a_placed a_closed_cells a_heaps_cells a_hoursAhead_cells a_placed_cells a_speeds_cells a_todo_cells v_closed v_heaps v_hoursAhead v_placed v_speeds o6_0) rfl rfl rfl rfl rfl rfl (ci := 6) rfl rfl (q0 := 11) rfl rfl rfl (Nat.le_of_ble_eq_true rfl) dX7_work_21 (fun H locs hP hD hS => ?_)
      refine lv_aload_n hx hb dX7_work_24 rfl (lv_at hl 0 rfl) ?_
      refine va_get (D := D) (ci := 7) (v := .ref a_hoursAhead) (C := RX7) (T := TX7) (N := 7) hx hb hts in_X7_work_X7 hown hK hP 0 rfl rfl 5 (by decide) (hts (.fieldLink RX7 32 "HangingCards$Shifts" "hoursAhead" "LHangingCards$Row;") (List.mem_of_getElem? (i := 2) rfl)) (fun _ h9 => h9) rfl dX7_work_25 ?_
      refine lv_iload hx hb dX7_work_28 (lv_at hl 5 rfl) ?_
      refine lv_aload_n hx hb dX7_work_30 rfl (lv_at hl 0 rfl) ?_
      refine lv_iload hx hb dX7_work_31 (lv_at hl 5 rfl) ?_
      refine lv_iload_n hx hb dX7_work_33 rfl (lv_at hl 1 rfl) ?_
      refine lv_iload_n hx hb dX7_work_34 rfl (lv_at hl 2 rfl) ?_
      obtain ⟨r7, hc7, hf⟩ := wk_b1E hf
      refine wk_callVi2 C hP hD hS (c_X7_openHours l D cB cI cJ N a_this a_heaps a_speeds a_closed a_hoursOpen a_todo a_hoursAhead a_placed a_closed_cells v_closed x5 x1 x2 hc7) (cwV 3 hts gX7_work_X7_openHours rfl rfl rfl hd_X7_openHours ⟨Nat.le_of_ble_eq_true rfl, Nat.le_of_ble_eq_true rfl⟩) hl.1 ⟨Nat.zero_le _, Nat.zero_le _⟩ [0, 1, 2] [3, 4, 5, 6, 7, 8, 9, 10, 11, 12] 13 (by decide +kernel) rfl (Wn := w_X7_work cB cI cJ a_this a_heaps a_speeds a_closed a_hoursOpen a_todo a_hoursAhead a_placed a_closed_cells a_heaps_cells a_hoursAhead_cells a_placed_cells a_speeds_cells a_todo_cells v_closed v_heaps v_hoursAhead v_placed v_speeds o6_0) rfl rfl rfl rfl rfl rfl (ci := 7) rfl rfl (q0 := 0) rfl rfl rfl (Nat.le_of_ble_eq_true rfl) dX7_work_35 (fun H locs hP hD hS => ?_)
      obtain ⟨o8_0, hc8, hf⟩ := wk_b1E hf
      refine wk_callVv2 C hP hD hS (c_X6_set l D cB cI cJ N a_hoursAhead a_hoursAhead_cells 5 v_hoursAhead x5 r7 hc8) (cwV 2 hts gX7_work_X6_set rfl rfl rfl hd_X6_set ⟨Nat.le_of_ble_eq_true rfl, Nat.le_of_ble_eq_true rfl⟩) hl.1 ⟨Nat.zero_le _, Nat.zero_le _⟩ [5, 6] [0, 1, 2, 3, 4, 7, 8, 9, 10, 11, 12] 13 (by decide +kernel) rfl (Wn := w_X7_work cB cI cJ a_this a_heaps a_speeds a_closed a_hoursOpen a_todo a_hoursAhead a_placed a_closed_cells a_heaps_cells a_hoursAhead_cells a_placed_cells a_speeds_cells a_todo_cells v_closed v_heaps o8_0 v_placed v_speeds o6_0) rfl rfl rfl rfl rfl rfl (ci := 6) rfl rfl (q0 := 5) rfl rfl rfl (Nat.le_of_ble_eq_true rfl) dX7_work_38 (fun H locs hP hD hS => ?_)
      obtain ⟨y9, ey9⟩ : ∃ y : Int32, y = x5 + (1 : Int32) := ⟨_, rfl⟩
      have hf := wk_nmE hf ey9
      refine lv_iinc (v := y9) (lv' := [(5, .int y9), (0, .ref a_this), (1, .int x1), (2, .int x2), (3, .int x3), (4, .int x4)]) hx hb dX7_work_41 hl (k := 5) rfl (by rw [ey9]; rfl) (by decide) rfl (fun ls hl => ?_)
      refine lv_goto (tgt := 3) hx hb dX7_work_44 (by decide) ?_
      exact ih3 _ _ _ _ _ _ _ _ hf _ _ _ hP hD hS (lv_sub hl [1, 2, 3, 4, 5, 0] rfl))
  unfold f_X7_work at hf
  refine lv_iconst (v := (0 : Int32)) hx hb dX7_work_0 (by decide) ?_
  refine lv_istore (lv' := [(5, .int (0 : Int32)), (0, .ref a_this), (1, .int x1), (2, .int x2), (3, .int x3), (4, .int x4)]) hx hb dX7_work_1 hl (by decide) rfl (fun ls hl => ?_)
  exact L3 N _ _ _ _ _ _ _ _ hf _ _ _ hP hD hS (lv_sub hl [1, 2, 3, 4, 5, 0] rfl)
abbrev w_X7_placedIn (cB cI cJ : ClassId) (a_this : Nat) (a_heaps : Nat) (a_speeds : Nat) (a_closed : Nat) (a_hoursOpen : Nat) (a_todo : Nat) (a_hoursAhead : Nat) (a_placed : Nat) (a_placed_cells : Nat) (v_placed : Nat → Int32) : va_W := [(a_this, .inr (7, [.ref a_heaps, .ref a_speeds, .ref a_closed, .ref a_hoursOpen, .ref a_todo, .ref a_hoursAhead, .ref a_placed])), (a_placed, .inr (6, [.ref a_placed_cells])), (a_placed_cells, .inl (cI, 5, .inl v_placed))]
theorem hd_X7_placedIn : yX7_placedIn.cls = RX7 ∧ yX7_placedIn.cls ≠ "java/lang/invoke/MethodHandle" ∧ yX7_placedIn.cls ≠ "java/lang/invoke/VarHandle" ∧ (parseMethodDescriptor yX7_placedIn.desc).map (fun d => d.parameters.length) = some 1 := by decide +kernel
abbrev rm_X7_placedIn : Room := { frames := 1, cells := 0, slots := 0, locals := 21 }
theorem in_X7_placedIn_X7 : ∀ w ∈ wsX70, w ∈ wsX7_placedIn := fun w h => List.mem_cons_of_mem _ (List.mem_append_left _ (List.mem_append_right _ h))
set_option maxHeartbeats 4000000 in
set_option maxRecDepth 100000 in
theorem c_X7_placedIn (l : Launch) (D : va_G) (cB cI cJ : ClassId) (N : Nat) (a_this : Nat) (a_heaps : Nat) (a_speeds : Nat) (a_closed : Nat) (a_hoursOpen : Nat) (a_todo : Nat) (a_hoursAhead : Nat) (a_placed : Nat) (a_placed_cells : Nat) (v_placed : Nat → Int32) (x1 : Int32) {r : Int32} (hf : f_X7_placedIn N v_placed x1 = some r) : MTi l yX7_placedIn wsX7_placedIn rm_X7_placedIn D (wk_T cB cI cJ) [.ref a_this, .int x1] (w_X7_placedIn cB cI cJ a_this a_heaps a_speeds a_closed a_hoursOpen a_todo a_hoursAhead a_placed a_placed_cells v_placed) (w_X7_placedIn cB cI cJ a_this a_heaps a_speeds a_closed a_hoursOpen a_todo a_hoursAhead a_placed a_placed_cells v_placed) r := by
  refine MTi.of (cc := cX7_placedIn) (nL := 2) (rt := .int) (own := RX7) pn_X7 rfl rfl (Nat.le_of_ble_eq_true rfl) rfl ?_
  intro p e s m args below meth c A ls Q C hP hD hS hl hret
  obtain ⟨hx, hb, hml, hts, hown, hK, hN, hA, hlk⟩ := id C
  have hl : lv_has ls 2 [(0, .ref a_this), (1, .int x1)] := hl
  unfold f_X7_placedIn at hf
  refine lv_aload_n hx hb dX7_placedIn_0 rfl (lv_at hl 0 rfl) ?_
  refine va_get (D := D) (ci := 7) (v := .ref a_placed) (C := RX7) (T := TX7) (N := 7) hx hb hts in_X7_placedIn_X7 hown hK hP 0 rfl rfl 6 (by decide) (hts (.fieldLink RX7 35 "HangingCards$Shifts" "placed" "LHangingCards$Row;") (List.mem_of_getElem? (i := 1) rfl)) (fun _ h9 => h9) rfl dX7_placedIn_1 ?_
  refine lv_iload_n hx hb dX7_placedIn_4 rfl (lv_at hl 1 rfl) ?_
  obtain ⟨r1, hc1, hf⟩ := wk_b1E hf
  refine wk_callVi2 C hP hD hS (c_X6_get l D cB cI cJ N a_placed a_placed_cells 5 v_placed x1 hc1) (cwV 1 hts gX7_placedIn_X6_get rfl rfl rfl hd_X6_get ⟨Nat.le_of_ble_eq_true rfl, Nat.le_of_ble_eq_true rfl⟩) hl.1 ⟨Nat.zero_le _, Nat.zero_le _⟩ [1, 2] [0] 3 (by decide +kernel) rfl (Wn := w_X7_placedIn cB cI cJ a_this a_heaps a_speeds a_closed a_hoursOpen a_todo a_hoursAhead a_placed a_placed_cells v_placed) rfl rfl rfl rfl rfl rfl (ci := 6) rfl rfl (q0 := 1) rfl rfl rfl (Nat.le_of_ble_eq_true rfl) dX7_placedIn_5 (fun H locs hP hD hS => ?_)
  exact hret _ _ _ _ _ _ dX7_placedIn_8 (wk_rt hf (fun z => z)) rfl hP hD hS
abbrev w_X7_allTodo (cB cI cJ : ClassId) (a_this : Nat) (a_heaps : Nat) (a_speeds : Nat) (a_closed : Nat) (a_hoursOpen : Nat) (a_todo : Nat) (a_hoursAhead : Nat) (a_placed : Nat) (a_todo_cells : Nat) (v_todo : Nat → Int32) : va_W := [(a_this, .inr (7, [.ref a_heaps, .ref a_speeds, .ref a_closed, .ref a_hoursOpen, .ref a_todo, .ref a_hoursAhead, .ref a_placed])), (a_todo, .inr (6, [.ref a_todo_cells])), (a_todo_cells, .inl (cI, 5, .inl v_todo))]
theorem hd_X7_allTodo : yX7_allTodo.cls = RX7 ∧ yX7_allTodo.cls ≠ "java/lang/invoke/MethodHandle" ∧ yX7_allTodo.cls ≠ "java/lang/invoke/VarHandle" ∧ (parseMethodDescriptor yX7_allTodo.desc).map (fun d => d.parameters.length) = some 0 := by decide +kernel
abbrev rm_X7_allTodo : Room := { frames := 1, cells := 0, slots := 0, locals := 21 }
theorem in_X7_allTodo_X7 : ∀ w ∈ wsX70, w ∈ wsX7_allTodo := fun w h => List.mem_cons_of_mem _ (List.mem_append_left _ (List.mem_append_right _ h))
set_option maxHeartbeats 4000000 in
set_option maxRecDepth 100000 in
theorem c_X7_allTodo (l : Launch) (D : va_G) (cB cI cJ : ClassId) (N : Nat) (a_this : Nat) (a_heaps : Nat) (a_speeds : Nat) (a_closed : Nat) (a_hoursOpen : Nat) (a_todo : Nat) (a_hoursAhead : Nat) (a_placed : Nat) (a_todo_cells : Nat) (v_todo : Nat → Int32) {r : Int32} (hf : f_X7_allTodo N v_todo = some r) : MTi l yX7_allTodo wsX7_allTodo rm_X7_allTodo D (wk_T cB cI cJ) [.ref a_this] (w_X7_allTodo cB cI cJ a_this a_heaps a_speeds a_closed a_hoursOpen a_todo a_hoursAhead a_placed a_todo_cells v_todo) (w_X7_allTodo cB cI cJ a_this a_heaps a_speeds a_closed a_hoursOpen a_todo a_hoursAhead a_placed a_todo_cells v_todo) r := by
  refine MTi.of (cc := cX7_allTodo) (nL := 3) (rt := .int) (own := RX7) pn_X7 rfl rfl (Nat.le_of_ble_eq_true rfl) rfl ?_
  intro p e s m args below meth c A ls Q C hP hD hS hl hret
  obtain ⟨hx, hb, hml, hts, hown, hK, hN, hA, hlk⟩ := id C
  have hl : lv_has ls 3 [(0, .ref a_this)] := hl
  have L4 := wk_loopI (F := (fun k4 : Int32 → Int32 → Option Int32 => B_X7_allTodo_4 N v_todo k4)) (bot := fun _ _ => none) (fun k4 : Int32 → Int32 → Option Int32 => ∀ (x1 : Int32) (x2 : Int32), k4 x1 x2 = some r → ∀ (H : Heap) (locs : List Loc) (ls : Array Slot), va_P D vwCl (w_X7_allTodo cB cI cJ a_this a_heaps a_speeds a_closed a_hoursOpen a_todo a_hoursAhead a_placed a_todo_cells v_todo) H → va_D A (w_X7_allTodo cB cI cJ a_this a_heaps a_speeds a_closed a_hoursOpen a_todo a_hoursAhead a_placed a_todo_cells v_todo) → va_S A s.heap H locs → lv_has ls 3 [(0, .ref a_this), (1, .int x1), (2, .int x2)] → W p l e rm_X7_allTodo s m args below meth c H locs 0 0 Q (F0 m 4 ls [])) (by intro x1 x2 hf; exact wk_no hf) (by
    intro k4 ih4
    intro x1 x2 hf H locs ls hP hD hS hl
    have hf : B_X7_allTodo_4 N v_todo k4 x1 x2 = some r := hf
    unfold B_X7_allTodo_4 at hf
    refine lv_iload_n hx hb dX7_allTodo_4 rfl (lv_at hl 2 rfl) ?_
    refine lv_iconst (v := (5 : Int32)) hx hb dX7_allTodo_5 (by decide) ?_
    refine lv_icmp_ge (tgt := 26) hx hb dX7_allTodo_6 (by decide) (fun c1 => ?_) (fun c1 => ?_)
    · have hf := wk_itT hf c1
      refine lv_iload_n hx hb dX7_allTodo_26 rfl (lv_at hl 1 rfl) ?_
      exact hret _ _ _ _ _ _ dX7_allTodo_27 (wk_rt hf (fun z => z)) rfl hP hD hS
    · have hf := wk_itF hf c1
      refine lv_iload_n hx hb dX7_allTodo_9 rfl (lv_at hl 1 rfl) ?_
      refine lv_aload_n hx hb dX7_allTodo_10 rfl (lv_at hl 0 rfl) ?_
      refine va_get (D := D) (ci := 7) (v := .ref a_todo) (C := RX7) (T := TX7) (N := 7) hx hb hts in_X7_allTodo_X7 hown hK hP 0 rfl rfl 4 (by decide) (hts (.fieldLink RX7 29 "HangingCards$Shifts" "todo" "LHangingCards$Row;") (List.mem_of_getElem? (i := 1) rfl)) (fun _ h9 => h9) rfl dX7_allTodo_11 ?_
      refine lv_iload_n hx hb dX7_allTodo_14 rfl (lv_at hl 2 rfl) ?_
      obtain ⟨r2, hc2, hf⟩ := wk_b1E hf
      refine wk_callVi2 C hP hD hS (c_X6_get l D cB cI cJ N a_todo a_todo_cells 5 v_todo x2 hc2) (cwV 1 hts gX7_allTodo_X6_get rfl rfl rfl hd_X6_get ⟨Nat.le_of_ble_eq_true rfl, Nat.le_of_ble_eq_true rfl⟩) hl.1 ⟨Nat.zero_le _, Nat.zero_le _⟩ [1, 2] [0] 3 (by decide +kernel) rfl (Wn := w_X7_allTodo cB cI cJ a_this a_heaps a_speeds a_closed a_hoursOpen a_todo a_hoursAhead a_placed a_todo_cells v_todo) rfl rfl rfl rfl rfl rfl (ci := 6) rfl rfl (q0 := 1) rfl rfl rfl (Nat.le_of_ble_eq_true rfl) dX7_allTodo_15 (fun H locs hP hD hS => ?_)
      refine lv_iadd hx hb dX7_allTodo_18 ?_
      refine lv_topi (fun y3 ey3 => ?_)
      have hf := wk_nmE hf ey3
      refine lv_istore_n (lv' := [(1, .int y3), (0, .ref a_this), (2, .int x2)]) hx hb dX7_allTodo_19 rfl hl (by decide) rfl (fun ls hl => ?_)
      obtain ⟨y4, ey4⟩ : ∃ y : Int32, y = x2 + (1 : Int32) := ⟨_, rfl⟩
      have hf := wk_nmE hf ey4
      refine lv_iinc (v := y4) (lv' := [(2, .int y4), (1, .int y3), (0, .ref a_this)]) hx hb dX7_allTodo_20 hl (k := 2) rfl (by rw [ey4]; rfl) (by decide) rfl (fun ls hl => ?_)
      refine lv_goto (tgt := 4) hx hb dX7_allTodo_23 (by decide) ?_
      exact ih4 _ _ hf _ _ _ hP hD hS (lv_sub hl [2, 1, 0] rfl))
  unfold f_X7_allTodo at hf
  refine lv_iconst (v := (0 : Int32)) hx hb dX7_allTodo_0 (by decide) ?_
  refine lv_istore_n (lv' := [(1, .int (0 : Int32)), (0, .ref a_this)]) hx hb dX7_allTodo_1 rfl hl (by decide) rfl (fun ls hl => ?_)
  refine lv_iconst (v := (0 : Int32)) hx hb dX7_allTodo_2 (by decide) ?_
  refine lv_istore_n (lv' := [(2, .int (0 : Int32)), (1, .int (0 : Int32)), (0, .ref a_this)]) hx hb dX7_allTodo_3 rfl hl (by decide) rfl (fun ls hl => ?_)
  exact L4 N _ _ hf _ _ _ hP hD hS (lv_sub hl [2, 1, 0] rfl)
