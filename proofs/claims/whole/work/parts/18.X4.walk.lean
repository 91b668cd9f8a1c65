abbrev w_X4_readBy (cB cI cJ : ClassId) (a_this : Nat) (a_states : Nat) (a_dimples : Nat) (a_dimples_cells : Nat) (a_states_cells : Nat) (v_dimples : Nat → Int32) (v_states : Nat → Int32) : va_W := [(a_this, .inr (4, [.ref a_states, .ref a_dimples])), (a_dimples, .inr (6, [.ref a_dimples_cells])), (a_dimples_cells, .inl (cI, 5, .inl v_dimples)), (a_states, .inr (6, [.ref a_states_cells])), (a_states_cells, .inl (cI, 5, .inl v_states))]
theorem hd_X4_readBy : yX4_readBy.cls = RX4 ∧ yX4_readBy.cls ≠ "java/lang/invoke/MethodHandle" ∧ yX4_readBy.cls ≠ "java/lang/invoke/VarHandle" ∧ (parseMethodDescriptor yX4_readBy.desc).map (fun d => d.parameters.length) = some 1 := by decide +kernel
abbrev rm_X4_readBy : Room := { frames := 1, cells := 0, slots := 0, locals := 22 }
theorem in_X4_readBy_X4 : ∀ w ∈ wsX40, w ∈ wsX4_readBy := fun w h => List.mem_cons_of_mem _ (List.mem_append_left _ (List.mem_append_right _ h))
set_option maxHeartbeats 4000000 in
set_option maxRecDepth 100000 in
theorem c_X4_readBy (l : Launch) (D : va_G) (cB cI cJ : ClassId) (N : Nat) (a_this : Nat) (a_states : Nat) (a_dimples : Nat) (a_dimples_cells : Nat) (a_states_cells : Nat) (v_dimples : Nat → Int32) (v_states : Nat → Int32) (x1 : Int32) {o_dimples : Nat → Int32} {o_states : Nat → Int32} (hf : f_X4_readBy N v_dimples v_states x1 = some (o_dimples, o_states)) : MTv l yX4_readBy wsX4_readBy rm_X4_readBy D (wk_T cB cI cJ) [.ref a_this, .int x1] (w_X4_readBy cB cI cJ a_this a_states a_dimples a_dimples_cells a_states_cells v_dimples v_states) (w_X4_readBy cB cI cJ a_this a_states a_dimples a_dimples_cells a_states_cells o_dimples o_states) := by
  refine MTv.of (cc := cX4_readBy) (nL := 2) (own := RX4) pn_X4 rfl rfl (Nat.le_of_ble_eq_true rfl) ?_
  intro p e s m args below meth c A ls Q C hP hD hS hl hret
  obtain ⟨hx, hb, hml, hts, hown, hK, hN, hA, hlk⟩ := id C
  have hl : lv_has ls 2 [(0, .ref a_this), (1, .int x1)] := hl
  unfold f_X4_readBy at hf
  refine lv_aload_n hx hb dX4_readBy_0 rfl (lv_at hl 0 rfl) ?_
  refine va_get (D := D) (ci := 4) (v := .ref a_states) (C := RX4) (T := TX4) (N := 2) hx hb hts in_X4_readBy_X4 hown hK hP 0 rfl rfl 0 (by decide) (hts (.fieldLink RX4 14 "HangingCards$Reading" "states" "LHangingCards$Row;") (List.mem_of_getElem? (i := 1) rfl)) (fun _ h9 => h9) rfl dX4_readBy_1 ?_
  refine lv_iload_n hx hb dX4_readBy_4 rfl (lv_at hl 1 rfl) ?_
  obtain ⟨o1_0, hc1, hf⟩ := wk_b1E hf
  refine wk_callVv2 C hP hD hS (c_X6_fill l D cB cI cJ N a_states a_states_cells 5 v_states x1 hc1) (cwV 1 hts gX4_readBy_X6_fill rfl rfl rfl hd_X6_fill ⟨Nat.le_of_ble_eq_true rfl, Nat.le_of_ble_eq_true rfl⟩) hl.1 ⟨Nat.zero_le _, Nat.zero_le _⟩ [3, 4] [0, 1, 2] 5 (by decide +kernel) rfl (Wn := w_X4_readBy cB cI cJ a_this a_states a_dimples a_dimples_cells a_states_cells v_dimples o1_0) rfl rfl rfl rfl rfl rfl (ci := 6) rfl rfl (q0 := 3) rfl rfl rfl (Nat.le_of_ble_eq_true rfl) dX4_readBy_5 (fun H locs hP hD hS => ?_)
  refine lv_aload_n hx hb dX4_readBy_8 rfl (lv_at hl 0 rfl) ?_
  refine va_get (D := D) (ci := 4) (v := .ref a_dimples) (C := RX4) (T := TX4) (N := 2) hx hb hts in_X4_readBy_X4 hown hK hP 0 rfl rfl 1 (by decide) (hts (.fieldLink RX4 20 "HangingCards$Reading" "dimples" "LHangingCards$Row;") (List.mem_of_getElem? (i := 2) rfl)) (fun _ h9 => h9) rfl dX4_readBy_9 ?_
  refine lv_iconst (v := (0 : Int32)) hx hb dX4_readBy_12 (by decide) ?_
  obtain ⟨o2_0, hc2, hf⟩ := wk_b1E hf
  refine wk_callVv2 C hP hD hS (c_X6_fill l D cB cI cJ N a_dimples a_dimples_cells 5 v_dimples (0 : Int32) hc2) (cwV 1 hts gX4_readBy_X6_fill rfl rfl rfl hd_X6_fill ⟨Nat.le_of_ble_eq_true rfl, Nat.le_of_ble_eq_true rfl⟩) hl.1 ⟨Nat.zero_le _, Nat.zero_le _⟩ [1, 2] [0, 3, 4] 5 (by decide +kernel) rfl (Wn := w_X4_readBy cB cI cJ a_this a_states a_dimples a_dimples_cells a_states_cells o2_0 o1_0) rfl rfl rfl rfl rfl rfl (ci := 6) rfl rfl (q0 := 1) rfl rfl rfl (Nat.le_of_ble_eq_true rfl) dX4_readBy_13 (fun H locs hP hD hS => ?_)
  exact hret _ _ _ _ _ dX4_readBy_16 (wk_rt hf (fun z => w_X4_readBy cB cI cJ a_this a_states a_dimples a_dimples_cells a_states_cells (z.1) (z.2))) hP hD hS
abbrev w_X4_choiceOf (cB cI cJ : ClassId) (a_p1 : Nat) (a_p1_counties : Nat) (a_p1_states : Nat) (a_p1_counties_cells : Nat) (a_p1_states_cells : Nat) (a_this : Nat) (a_states : Nat) (a_dimples : Nat) (a_dimples_cells : Nat) (a_states_cells : Nat) (v_p1_size : Int32) (v_p1_counties : Nat → Int32) (v_p1_states : Nat → Int32) (v_dimples : Nat → Int32) (v_states : Nat → Int32) : va_W := [(a_p1, .inr (3, [.ref a_p1_counties, .ref a_p1_states, .int v_p1_size])), (a_p1_counties, .inr (6, [.ref a_p1_counties_cells])), (a_p1_counties_cells, .inl (cI, 40, .inl v_p1_counties)), (a_p1_states, .inr (6, [.ref a_p1_states_cells])), (a_p1_states_cells, .inl (cI, 480, .inl v_p1_states)), (a_this, .inr (4, [.ref a_states, .ref a_dimples])), (a_dimples, .inr (6, [.ref a_dimples_cells])), (a_dimples_cells, .inl (cI, 5, .inl v_dimples)), (a_states, .inr (6, [.ref a_states_cells])), (a_states_cells, .inl (cI, 5, .inl v_states))]
theorem hd_X4_choiceOf : yX4_choiceOf.cls = RX4 ∧ yX4_choiceOf.cls ≠ "java/lang/invoke/MethodHandle" ∧ yX4_choiceOf.cls ≠ "java/lang/invoke/VarHandle" ∧ (parseMethodDescriptor yX4_choiceOf.desc).map (fun d => d.parameters.length) = some 3 := by decide +kernel
abbrev rm_X4_choiceOf : Room := { frames := 2, cells := 0, slots := 0, locals := 44 }
theorem in_X4_choiceOf_X4 : ∀ w ∈ wsX40, w ∈ wsX4_choiceOf := fun w h => List.mem_cons_of_mem _ (List.mem_append_left _ (List.mem_append_left _ (List.mem_append_right _ h)))
set_option maxHeartbeats 4000000 in
set_option maxRecDepth 100000 in
theorem c_X4_choiceOf (l : Launch) (D : va_G) (cB cI cJ : ClassId) (N : Nat) (a_p1 : Nat) (a_p1_counties : Nat) (a_p1_states : Nat) (a_p1_counties_cells : Nat) (a_p1_states_cells : Nat) (a_this : Nat) (a_states : Nat) (a_dimples : Nat) (a_dimples_cells : Nat) (a_states_cells : Nat) (v_p1_size : Int32) (v_p1_counties : Nat → Int32) (v_p1_states : Nat → Int32) (v_dimples : Nat → Int32) (v_states : Nat → Int32) (x2 : Int32) (x3 : Int32) {r : Int32} (hf : f_X4_choiceOf N v_p1_counties v_p1_states v_dimples v_states x2 x3 = some r) : MTi l yX4_choiceOf wsX4_choiceOf rm_X4_choiceOf D (wk_T cB cI cJ) [.ref a_this, .ref a_p1, .int x2, .int x3] (w_X4_choiceOf cB cI cJ a_p1 a_p1_counties a_p1_states a_p1_counties_cells a_p1_states_cells a_this a_states a_dimples a_dimples_cells a_states_cells v_p1_size v_p1_counties v_p1_states v_dimples v_states) (w_X4_choiceOf cB cI cJ a_p1 a_p1_counties a_p1_states a_p1_counties_cells a_p1_states_cells a_this a_states a_dimples a_dimples_cells a_states_cells v_p1_size v_p1_counties v_p1_states v_dimples v_states) r := by
  refine MTi.of (cc := cX4_choiceOf) (nL := 10) (rt := .int) (own := RX4) pn_X4 rfl rfl (Nat.le_of_ble_eq_true rfl) rfl ?_
  intro p e s m args below meth c A ls Q C hP hD hS hl hret
  obtain ⟨hx, hb, hml, hts, hown, hK, hN, hA, hlk⟩ := id C
  have hl : lv_has ls 10 [(0, .ref a_this), (1, .ref a_p1), (2, .int x2), (3, .int x3)] := hl
  have L53 := wk_loopI (F := (fun k53 : Int32 → Int32 → Int32 → Int32 → Int32 → Int32 → Option Int32 => B_X4_choiceOf_53 N v_p1_counties v_p1_states v_dimples v_states k53)) (bot := fun _ _ _ _ _ _ => none) (fun k53 : Int32 → Int32 → Int32 → Int32 → Int32 → Int32 → Option Int32 => ∀ (x2 : Int32) (x3 : Int32) (x4 : Int32) (x6 : Int32) (x7 : Int32) (x8 : Int32), k53 x2 x3 x4 x6 x7 x8 = some r → ∀ (H : Heap) (locs : List Loc) (ls : Array Slot), va_P D vwCl (w_X4_choiceOf cB cI cJ a_p1 a_p1_counties a_p1_states a_p1_counties_cells a_p1_states_cells a_this a_states a_dimples a_dimples_cells a_states_cells v_p1_size v_p1_counties v_p1_states v_dimples v_states) H → va_D A (w_X4_choiceOf cB cI cJ a_p1 a_p1_counties a_p1_states a_p1_counties_cells a_p1_states_cells a_this a_states a_dimples a_dimples_cells a_states_cells v_p1_size v_p1_counties v_p1_states v_dimples v_states) → va_S A s.heap H locs → lv_has ls 10 [(0, .ref a_this), (1, .ref a_p1), (2, .int x2), (3, .int x3), (4, .int x4), (6, .int x6), (7, .int x7), (8, .int x8)] → W p l e rm_X4_choiceOf s m args below meth c H locs 0 0 Q (F0 m 53 ls [])) (by intro x2 x3 x4 x6 x7 x8 hf; exact wk_no hf) (by
    intro k53 ih53
    have J94 : ∀ (x2 : Int32) (x3 : Int32) (x4 : Int32) (x6 : Int32) (x7 : Int32) (x8 : Int32), B_X4_choiceOf_94 N v_p1_counties v_p1_states v_dimples v_states k53 x2 x3 x4 x6 x7 x8 = some r → ∀ (H : Heap) (locs : List Loc) (ls : Array Slot), va_P D vwCl (w_X4_choiceOf cB cI cJ a_p1 a_p1_counties a_p1_states a_p1_counties_cells a_p1_states_cells a_this a_states a_dimples a_dimples_cells a_states_cells v_p1_size v_p1_counties v_p1_states v_dimples v_states) H → va_D A (w_X4_choiceOf cB cI cJ a_p1 a_p1_counties a_p1_states a_p1_counties_cells a_p1_states_cells a_this a_states a_dimples a_dimples_cells a_states_cells v_p1_size v_p1_counties v_p1_states v_dimples v_states) → va_S A s.heap H locs → lv_has ls 10 [(0, .ref a_this), (1, .ref a_p1), (2, .int x2), (3, .int x3), (4, .int x4), (6, .int x6), (7, .int x7), (8, .int x8)] → W p l e rm_X4_choiceOf s m args below meth c H locs 0 0 Q (F0 m 94 ls []) := by
      intro x2 x3 x4 x6 x7 x8 hf H locs ls hP hD hS hl
      unfold B_X4_choiceOf_94 at hf
      refine lv_iload hx hb dX4_choiceOf_94 (lv_at hl 6 rfl) ?_
      refine lv_iconst (v := (1 : Int32)) hx hb dX4_choiceOf_96 (by decide) ?_
      refine lv_iload hx hb dX4_choiceOf_97 (lv_at hl 7 rfl) ?_
      refine lv_ishl hx hb dX4_choiceOf_99 ?_
      refine lv_ior hx hb dX4_choiceOf_100 ?_
      refine lv_topi (fun y1 ey1 => ?_)
      have hf := wk_nmE hf ey1
      refine lv_istore (lv' := [(7, .int y1), (0, .ref a_this), (1, .ref a_p1), (2, .int x2), (3, .int x3), (4, .int x4), (6, .int x6), (8, .int x8)]) hx hb dX4_choiceOf_101 hl (by decide) rfl (fun ls hl => ?_)
      obtain ⟨y2, ey2⟩ : ∃ y : Int32, y = x8 + (1 : Int32) := ⟨_, rfl⟩
      have hf := wk_nmE hf ey2
      refine lv_iinc (v := y2) (lv' := [(8, .int y2), (7, .int y1), (0, .ref a_this), (1, .ref a_p1), (2, .int x2), (3, .int x3), (4, .int x4), (6, .int x6)]) hx hb dX4_choiceOf_103 hl (k := 7) rfl (by rw [ey2]; rfl) (by decide) rfl (fun ls hl => ?_)
      refine lv_goto (tgt := 53) hx hb dX4_choiceOf_106 (by decide) ?_
      exact ih53 _ _ _ _ _ _ hf _ _ _ hP hD hS (lv_sub hl [2, 3, 4, 5, 6, 7, 1, 0] rfl)
    intro x2 x3 x4 x6 x7 x8 hf H locs ls hP hD hS hl
    have hf : B_X4_choiceOf_53 N v_p1_counties v_p1_states v_dimples v_states k53 x2 x3 x4 x6 x7 x8 = some r := hf
    unfold B_X4_choiceOf_53 at hf
    refine lv_iload hx hb dX4_choiceOf_53 (lv_at hl 7 rfl) ?_
    refine lv_iconst (v := (4 : Int32)) hx hb dX4_choiceOf_55 (by decide) ?_
    refine lv_icmp_ge (tgt := 109) hx hb dX4_choiceOf_56 (by decide) (fun c3 => ?_) (fun c3 => ?_)
    · have hf := wk_itT hf c3
      refine lv_iload hx hb dX4_choiceOf_109 (lv_at hl 6 rfl) ?_
      obtain ⟨r4, hc4, hf⟩ := wk_b1E hf
      refine wk_callNi2 C hP hD hS (c_X10_onlyBit l D cB cI cJ N x7 hc4) ⟨va_cnB 1 hts gX4_choiceOf_X10_onlyBit_n51 rfl rfl rfl hN.2.2.2.2.2.1 (hts (.initialized RX10) (List.mem_of_getElem? (i := 26) rfl)) hd_X10_onlyBit.2 ⟨Nat.le_of_ble_eq_true rfl, Nat.le_of_ble_eq_true rfl⟩, (hts (.static yX10_onlyBit) (List.mem_of_getElem? (i := 25) rfl)), trivial⟩ hl.1 ⟨Nat.zero_le _, Nat.zero_le _⟩ [] [0, 1, 2, 3, 4, 5, 6, 7, 8, 9] 10 (by decide +kernel) rfl (Wn := w_X4_choiceOf cB cI cJ a_p1 a_p1_counties a_p1_states a_p1_counties_cells a_p1_states_cells a_this a_states a_dimples a_dimples_cells a_states_cells v_p1_size v_p1_counties v_p1_states v_dimples v_states) rfl rfl rfl rfl rfl rfl rfl rfl (Nat.le_of_ble_eq_true rfl) dX4_choiceOf_111 (fun H locs hP hD hS => ?_)
      exact hret _ _ _ _ _ _ dX4_choiceOf_114 (wk_rt hf (fun z => z)) rfl hP hD hS
    · have hf := wk_itF hf c3
      refine lv_aload_n hx hb dX4_choiceOf_59 rfl (lv_at hl 1 rfl) ?_
      refine lv_iload_n hx hb dX4_choiceOf_60 rfl (lv_at hl 2 rfl) ?_
      refine lv_iload_n hx hb dX4_choiceOf_61 rfl (lv_at hl 3 rfl) ?_
      refine lv_iload hx hb dX4_choiceOf_62 (lv_at hl 7 rfl) ?_
      obtain ⟨r5, hc5, hf⟩ := wk_b1E hf
      refine wk_callVi2 C hP hD hS (c_X3_state l D cB cI cJ N a_p1 a_p1_counties a_p1_states a_p1_states_cells v_p1_size v_p1_states x2 x3 x8 hc5) (cwV 3 hts gX4_choiceOf_X3_state rfl rfl rfl hd_X3_state ⟨Nat.le_of_ble_eq_true rfl, Nat.le_of_ble_eq_true rfl⟩) hl.1 ⟨Nat.zero_le _, Nat.zero_le _⟩ [0, 3, 4] [1, 2, 5, 6, 7, 8, 9] 10 (by decide +kernel) rfl (Wn := w_X4_choiceOf cB cI cJ a_p1 a_p1_counties a_p1_states a_p1_counties_cells a_p1_states_cells a_this a_states a_dimples a_dimples_cells a_states_cells v_p1_size v_p1_counties v_p1_states v_dimples v_states) rfl rfl rfl rfl rfl rfl (ci := 3) rfl rfl (q0 := 0) rfl rfl rfl (Nat.le_of_ble_eq_true rfl) dX4_choiceOf_64 (fun H locs hP hD hS => ?_)
      refine lv_istore (lv' := [(9, .int r5), (0, .ref a_this), (1, .ref a_p1), (2, .int x2), (3, .int x3), (4, .int x4), (6, .int x6), (7, .int x7), (8, .int x8)]) hx hb dX4_choiceOf_67 hl (by decide) rfl (fun ls hl => ?_)
      refine lv_iload hx hb dX4_choiceOf_69 (lv_at hl 0 rfl) ?_
      refine lv_aload_n hx hb dX4_choiceOf_71 rfl (lv_at hl 1 rfl) ?_
      refine va_get (D := D) (ci := 4) (v := .ref a_states) (C := RX4) (T := TX4) (N := 2) hx hb hts in_X4_choiceOf_X4 hown hK hP 5 rfl rfl 0 (by decide) (hts (.fieldLink RX4 14 "HangingCards$Reading" "states" "LHangingCards$Row;") (List.mem_of_getElem? (i := 2) rfl)) (fun _ h9 => h9) rfl dX4_choiceOf_72 ?_
      refine lv_iload hx hb dX4_choiceOf_75 (lv_at hl 5 rfl) ?_
      obtain ⟨r6, hc6, hf⟩ := wk_b1E hf
      refine wk_callVi2 C hP hD hS (c_X6_get l D cB cI cJ N a_states a_states_cells 5 v_states x4 hc6) (cwV 1 hts gX4_choiceOf_X6_get rfl rfl rfl hd_X6_get ⟨Nat.le_of_ble_eq_true rfl, Nat.le_of_ble_eq_true rfl⟩) hl.1 ⟨Nat.zero_le _, Nat.zero_le _⟩ [8, 9] [0, 1, 2, 3, 4, 5, 6, 7] 10 (by decide +kernel) rfl (Wn := w_X4_choiceOf cB cI cJ a_p1 a_p1_counties a_p1_states a_p1_counties_cells a_p1_states_cells a_this a_states a_dimples a_dimples_cells a_states_cells v_p1_size v_p1_counties v_p1_states v_dimples v_states) rfl rfl rfl rfl rfl rfl (ci := 6) rfl rfl (q0 := 8) rfl rfl rfl (Nat.le_of_ble_eq_true rfl) dX4_choiceOf_77 (fun H locs hP hD hS => ?_)
      refine lv_icmp_ge (tgt := 94) hx hb dX4_choiceOf_80 (by decide) (fun c7 => ?_) (fun c7 => ?_)
      · have hf := wk_itT hf c7
        exact J94 _ _ _ _ _ _ hf _ _ _ hP hD hS (lv_sub hl [1, 2, 3, 4, 5, 6, 7, 8] rfl)
      · have hf := wk_itF hf c7
        refine lv_iload hx hb dX4_choiceOf_83 (lv_at hl 6 rfl) ?_
        refine lv_if_eq (tgt := 103) hx hb dX4_choiceOf_85 (by decide) (fun c8 => ?_) (fun c8 => ?_)
        · have hf := wk_itT hf c8
          obtain ⟨y9, ey9⟩ : ∃ y : Int32, y = x8 + (1 : Int32) := ⟨_, rfl⟩
          have hf := wk_nmE hf ey9
          refine lv_iinc (v := y9) (lv' := [(8, .int y9), (9, .int r5), (0, .ref a_this), (1, .ref a_p1), (2, .int x2), (3, .int x3), (4, .int x4), (6, .int x6), (7, .int x7)]) hx hb dX4_choiceOf_103 hl (k := 8) rfl (by rw [ey9]; rfl) (by decide) rfl (fun ls hl => ?_)
          refine lv_goto (tgt := 53) hx hb dX4_choiceOf_106 (by decide) ?_
          exact ih53 _ _ _ _ _ _ hf _ _ _ hP hD hS (lv_sub hl [2, 3, 4, 5, 6, 7, 8, 0] rfl)
        · have hf := wk_itF hf c8
          refine lv_iload hx hb dX4_choiceOf_88 (lv_at hl 0 rfl) ?_
          refine lv_iconst (v := (1 : Int32)) hx hb dX4_choiceOf_90 (by decide) ?_
          refine lv_icmp_ne (tgt := 103) hx hb dX4_choiceOf_91 (by decide) (fun c10 => ?_) (fun c10 => ?_)
          · have hf := wk_itF hf c10
            obtain ⟨y11, ey11⟩ : ∃ y : Int32, y = x8 + (1 : Int32) := ⟨_, rfl⟩
            have hf := wk_nmE hf ey11
            refine lv_iinc (v := y11) (lv' := [(8, .int y11), (9, .int r5), (0, .ref a_this), (1, .ref a_p1), (2, .int x2), (3, .int x3), (4, .int x4), (6, .int x6), (7, .int x7)]) hx hb dX4_choiceOf_103 hl (k := 8) rfl (by rw [ey11]; rfl) (by decide) rfl (fun ls hl => ?_)
            refine lv_goto (tgt := 53) hx hb dX4_choiceOf_106 (by decide) ?_
            exact ih53 _ _ _ _ _ _ hf _ _ _ hP hD hS (lv_sub hl [2, 3, 4, 5, 6, 7, 8, 0] rfl)
          · have hf := wk_itT hf c10
            exact J94 _ _ _ _ _ _ hf _ _ _ hP hD hS (lv_sub hl [1, 2, 3, 4, 5, 6, 7, 8] rfl))
  unfold f_X4_choiceOf at hf
  refine lv_aload_n hx hb dX4_choiceOf_0 rfl (lv_at hl 1 rfl) ?_
  refine lv_ifnonnull (tgt := 7) hx hb dX4_choiceOf_1 (by decide) ?_
  refine lv_aload_n hx hb dX4_choiceOf_7 rfl (lv_at hl 1 rfl) ?_
  refine lv_iload_n hx hb dX4_choiceOf_8 rfl (lv_at hl 2 rfl) ?_
  obtain ⟨r12, hc12, hf⟩ := wk_b1E hf
  refine wk_callVi2 C hP hD hS (c_X3_countyOf l D cB cI cJ N a_p1 a_p1_counties a_p1_states a_p1_counties_cells v_p1_size v_p1_counties x2 hc12) (cwV 1 hts gX4_choiceOf_X3_countyOf rfl rfl rfl hd_X3_countyOf ⟨Nat.le_of_ble_eq_true rfl, Nat.le_of_ble_eq_true rfl⟩) hl.1 ⟨Nat.zero_le _, Nat.zero_le _⟩ [0, 1, 2] [3, 4, 5, 6, 7, 8, 9] 10 (by decide +kernel) rfl (Wn := w_X4_choiceOf cB cI cJ a_p1 a_p1_counties a_p1_states a_p1_counties_cells a_p1_states_cells a_this a_states a_dimples a_dimples_cells a_states_cells v_p1_size v_p1_counties v_p1_states v_dimples v_states) rfl rfl rfl rfl rfl rfl (ci := 3) rfl rfl (q0 := 0) rfl rfl rfl (Nat.le_of_ble_eq_true rfl) dX4_choiceOf_9 (fun H locs hP hD hS => ?_)
  refine lv_istore (lv' := [(4, .int r12), (0, .ref a_this), (1, .ref a_p1), (2, .int x2), (3, .int x3)]) hx hb dX4_choiceOf_12 hl (by decide) rfl (fun ls hl => ?_)
  refine lv_aload_n hx hb dX4_choiceOf_14 rfl (lv_at hl 1 rfl) ?_
  refine va_get (D := D) (ci := 4) (v := .ref a_dimples) (C := RX4) (T := TX4) (N := 2) hx hb hts in_X4_choiceOf_X4 hown hK hP 5 rfl rfl 1 (by decide) (hts (.fieldLink RX4 20 "HangingCards$Reading" "dimples" "LHangingCards$Row;") (List.mem_of_getElem? (i := 1) rfl)) (fun _ h9 => h9) rfl dX4_choiceOf_15 ?_
  refine lv_iload hx hb dX4_choiceOf_18 (lv_at hl 0 rfl) ?_
  obtain ⟨r13, hc13, hf⟩ := wk_b1E hf
  refine wk_callVi2 C hP hD hS (c_X6_get l D cB cI cJ N a_dimples a_dimples_cells 5 v_dimples r12 hc13) (cwV 1 hts gX4_choiceOf_X6_get rfl rfl rfl hd_X6_get ⟨Nat.le_of_ble_eq_true rfl, Nat.le_of_ble_eq_true rfl⟩) hl.1 ⟨Nat.zero_le _, Nat.zero_le _⟩ [6, 7] [0, 1, 2, 3, 4, 5, 8, 9] 10 (by decide +kernel) rfl (Wn := w_X4_choiceOf cB cI cJ a_p1 a_p1_counties a_p1_states a_p1_counties_cells a_p1_states_cells a_this a_states a_dimples a_dimples_cells a_states_cells v_p1_size v_p1_counties v_p1_states v_dimples v_states) rfl rfl rfl rfl rfl rfl (ci := 6) rfl rfl (q0 := 6) rfl rfl rfl (Nat.le_of_ble_eq_true rfl) dX4_choiceOf_20 (fun H locs hP hD hS => ?_)
  refine lv_istore (lv' := [(5, .int r13), (4, .int r12), (0, .ref a_this), (1, .ref a_p1), (2, .int x2), (3, .int x3)]) hx hb dX4_choiceOf_23 hl (by decide) rfl (fun ls hl => ?_)
  refine lv_iload hx hb dX4_choiceOf_25 (lv_at hl 0 rfl) ?_
  refine lv_if_le (tgt := 44) hx hb dX4_choiceOf_27 (by decide) (fun c14 => ?_) (fun c14 => ?_)
  · have hf := wk_itT hf c14
    refine lv_iconst (v := (0 : Int32)) hx hb dX4_choiceOf_44 (by decide) ?_
    refine lv_istore (lv' := [(6, .int (0 : Int32)), (5, .int r13), (4, .int r12), (0, .ref a_this), (1, .ref a_p1), (2, .int x2), (3, .int x3)]) hx hb dX4_choiceOf_45 hl (by decide) rfl (fun ls hl => ?_)
    refine lv_iconst (v := (0 : Int32)) hx hb dX4_choiceOf_47 (by decide) ?_
    refine lv_istore (lv' := [(7, .int (0 : Int32)), (6, .int (0 : Int32)), (5, .int r13), (4, .int r12), (0, .ref a_this), (1, .ref a_p1), (2, .int x2), (3, .int x3)]) hx hb dX4_choiceOf_48 hl (by decide) rfl (fun ls hl => ?_)
    refine lv_iconst (v := (0 : Int32)) hx hb dX4_choiceOf_50 (by decide) ?_
    refine lv_istore (lv' := [(8, .int (0 : Int32)), (7, .int (0 : Int32)), (6, .int (0 : Int32)), (5, .int r13), (4, .int r12), (0, .ref a_this), (1, .ref a_p1), (2, .int x2), (3, .int x3)]) hx hb dX4_choiceOf_51 hl (by decide) rfl (fun ls hl => ?_)
    exact L53 N _ _ _ _ _ _ hf _ _ _ hP hD hS (lv_sub hl [5, 6, 7, 8, 4, 2, 1, 0] rfl)
  · have hf := wk_itF hf c14
    refine lv_aload_n hx hb dX4_choiceOf_30 rfl (lv_at hl 3 rfl) ?_
    refine lv_iload_n hx hb dX4_choiceOf_31 rfl (lv_at hl 4 rfl) ?_
    obtain ⟨r15, hc15, hf⟩ := wk_b1E hf
    refine wk_callVi2 C hP hD hS (c_X3_dimplesOf l D cB cI cJ N a_p1 a_p1_counties a_p1_states a_p1_states_cells v_p1_size v_p1_states x2 hc15) (cwV 1 hts gX4_choiceOf_X3_dimplesOf rfl rfl rfl hd_X3_dimplesOf ⟨Nat.le_of_ble_eq_true rfl, Nat.le_of_ble_eq_true rfl⟩) hl.1 ⟨Nat.zero_le _, Nat.zero_le _⟩ [0, 3, 4] [1, 2, 5, 6, 7, 8, 9] 10 (by decide +kernel) rfl (Wn := w_X4_choiceOf cB cI cJ a_p1 a_p1_counties a_p1_states a_p1_counties_cells a_p1_states_cells a_this a_states a_dimples a_dimples_cells a_states_cells v_p1_size v_p1_counties v_p1_states v_dimples v_states) rfl rfl rfl rfl rfl rfl (ci := 3) rfl rfl (q0 := 0) rfl rfl rfl (Nat.le_of_ble_eq_true rfl) dX4_choiceOf_32 (fun H locs hP hD hS => ?_)
    refine lv_iload hx hb dX4_choiceOf_35 (lv_at hl 0 rfl) ?_
    refine lv_icmp_lt (tgt := 44) hx hb dX4_choiceOf_37 (by decide) (fun c16 => ?_) (fun c16 => ?_)
    · have hf := wk_itT hf c16
      refine lv_iconst (v := (0 : Int32)) hx hb dX4_choiceOf_44 (by decide) ?_
      refine lv_istore (lv' := [(6, .int (0 : Int32)), (5, .int r13), (4, .int r12), (0, .ref a_this), (1, .ref a_p1), (2, .int x2), (3, .int x3)]) hx hb dX4_choiceOf_45 hl (by decide) rfl (fun ls hl => ?_)
      refine lv_iconst (v := (0 : Int32)) hx hb dX4_choiceOf_47 (by decide) ?_
      refine lv_istore (lv' := [(7, .int (0 : Int32)), (6, .int (0 : Int32)), (5, .int r13), (4, .int r12), (0, .ref a_this), (1, .ref a_p1), (2, .int x2), (3, .int x3)]) hx hb dX4_choiceOf_48 hl (by decide) rfl (fun ls hl => ?_)
      refine lv_iconst (v := (0 : Int32)) hx hb dX4_choiceOf_50 (by decide) ?_
      refine lv_istore (lv' := [(8, .int (0 : Int32)), (7, .int (0 : Int32)), (6, .int (0 : Int32)), (5, .int r13), (4, .int r12), (0, .ref a_this), (1, .ref a_p1), (2, .int x2), (3, .int x3)]) hx hb dX4_choiceOf_51 hl (by decide) rfl (fun ls hl => ?_)
      exact L53 N _ _ _ _ _ _ hf _ _ _ hP hD hS (lv_sub hl [5, 6, 7, 8, 4, 2, 1, 0] rfl)
    · have hf := wk_itF hf c16
      refine lv_iconst (v := (1 : Int32)) hx hb dX4_choiceOf_40 (by decide) ?_
      refine lv_goto (tgt := 45) hx hb dX4_choiceOf_41 (by decide) ?_
      refine lv_istore (lv' := [(6, .int (1 : Int32)), (5, .int r13), (4, .int r12), (0, .ref a_this), (1, .ref a_p1), (2, .int x2), (3, .int x3)]) hx hb dX4_choiceOf_45 hl (by decide) rfl (fun ls hl => ?_)
      refine lv_iconst (v := (0 : Int32)) hx hb dX4_choiceOf_47 (by decide) ?_
      refine lv_istore (lv' := [(7, .int (0 : Int32)), (6, .int (1 : Int32)), (5, .int r13), (4, .int r12), (0, .ref a_this), (1, .ref a_p1), (2, .int x2), (3, .int x3)]) hx hb dX4_choiceOf_48 hl (by decide) rfl (fun ls hl => ?_)
      refine lv_iconst (v := (0 : Int32)) hx hb dX4_choiceOf_50 (by decide) ?_
      refine lv_istore (lv' := [(8, .int (0 : Int32)), (7, .int (0 : Int32)), (6, .int (1 : Int32)), (5, .int r13), (4, .int r12), (0, .ref a_this), (1, .ref a_p1), (2, .int x2), (3, .int x3)]) hx hb dX4_choiceOf_51 hl (by decide) rfl (fun ls hl => ?_)
      exact L53 N _ _ _ _ _ _ hf _ _ _ hP hD hS (lv_sub hl [5, 6, 7, 8, 4, 2, 1, 0] rfl)
abbrev w_X4_readIn (cB cI cJ : ClassId) (a_p1 : Nat) (a_p1_kinds : Nat) (a_p1_counties : Nat) (a_p1_ranks : Nat) (a_p1_values : Nat) (a_p1_hours : Nat) (a_p1_counties_cells : Nat) (a_p1_hours_cells : Nat) (a_p1_kinds_cells : Nat) (a_p1_ranks_cells : Nat) (a_p1_values_cells : Nat) (a_this : Nat) (a_states : Nat) (a_dimples : Nat) (a_dimples_cells : Nat) (a_states_cells : Nat) (v_p1_size : Int32) (v_p1_counties : Nat → Int32) (v_p1_hours : Nat → Int32) (v_p1_kinds : Nat → Int32) (v_p1_ranks : Nat → Int32) (v_p1_values : Nat → Int32) (v_dimples : Nat → Int32) (v_states : Nat → Int32) : va_W := [(a_p1, .inr (1, [.ref a_p1_kinds, .ref a_p1_counties, .ref a_p1_ranks, .ref a_p1_values, .ref a_p1_hours, .int v_p1_size])), (a_p1_counties, .inr (6, [.ref a_p1_counties_cells])), (a_p1_counties_cells, .inl (cI, 40, .inl v_p1_counties)), (a_p1_hours, .inr (6, [.ref a_p1_hours_cells])), (a_p1_hours_cells, .inl (cI, 40, .inl v_p1_hours)), (a_p1_kinds, .inr (6, [.ref a_p1_kinds_cells])), (a_p1_kinds_cells, .inl (cI, 40, .inl v_p1_kinds)), (a_p1_ranks, .inr (6, [.ref a_p1_ranks_cells])), (a_p1_ranks_cells, .inl (cI, 40, .inl v_p1_ranks)), (a_p1_values, .inr (6, [.ref a_p1_values_cells])), (a_p1_values_cells, .inl (cI, 40, .inl v_p1_values)), (a_this, .inr (4, [.ref a_states, .ref a_dimples])), (a_dimples, .inr (6, [.ref a_dimples_cells])), (a_dimples_cells, .inl (cI, 5, .inl v_dimples)), (a_states, .inr (6, [.ref a_states_cells])), (a_states_cells, .inl (cI, 5, .inl v_states))]
theorem hd_X4_readIn : yX4_readIn.cls = RX4 ∧ yX4_readIn.cls ≠ "java/lang/invoke/MethodHandle" ∧ yX4_readIn.cls ≠ "java/lang/invoke/VarHandle" ∧ (parseMethodDescriptor yX4_readIn.desc).map (fun d => d.parameters.length) = some 3 := by decide +kernel
abbrev rm_X4_readIn : Room := { frames := 4, cells := 0, slots := 0, locals := 93 }
theorem in_X4_readIn_X4 : ∀ w ∈ wsX40, w ∈ wsX4_readIn := fun w h => List.mem_cons_of_mem _ (List.mem_append_left _ (List.mem_append_left _ (List.mem_append_right _ h)))
set_option maxHeartbeats 4000000 in
set_option maxRecDepth 100000 in
theorem c_X4_readIn (l : Launch) (D : va_G) (cB cI cJ : ClassId) (N : Nat) (a_p1 : Nat) (a_p1_kinds : Nat) (a_p1_counties : Nat) (a_p1_ranks : Nat) (a_p1_values : Nat) (a_p1_hours : Nat) (a_p1_counties_cells : Nat) (a_p1_hours_cells : Nat) (a_p1_kinds_cells : Nat) (a_p1_ranks_cells : Nat) (a_p1_values_cells : Nat) (a_this : Nat) (a_states : Nat) (a_dimples : Nat) (a_dimples_cells : Nat) (a_states_cells : Nat) (v_p1_size : Int32) (v_p1_counties : Nat → Int32) (v_p1_hours : Nat → Int32) (v_p1_kinds : Nat → Int32) (v_p1_ranks : Nat → Int32) (v_p1_values : Nat → Int32) (v_dimples : Nat → Int32) (v_states : Nat → Int32) (x2 : Int32) (x3 : Int32) {o_dimples : Nat → Int32} {o_states : Nat → Int32} (hf : f_X4_readIn N v_p1_size v_p1_counties v_p1_hours v_p1_kinds v_p1_ranks v_p1_values v_dimples v_states x2 x3 = some (o_dimples, o_states)) : MTv l yX4_readIn wsX4_readIn rm_X4_readIn D (wk_T cB cI cJ) [.ref a_this, .ref a_p1, .int x2, .int x3] (w_X4_readIn cB cI cJ a_p1 a_p1_kinds a_p1_counties a_p1_ranks a_p1_values a_p1_hours a_p1_counties_cells a_p1_hours_cells a_p1_kinds_cells a_p1_ranks_cells a_p1_values_cells a_this a_states a_dimples a_dimples_cells a_states_cells v_p1_size v_p1_counties v_p1_hours v_p1_kinds v_p1_ranks v_p1_values v_dimples v_states) (w_X4_readIn cB cI cJ a_p1 a_p1_kinds a_p1_counties a_p1_ranks a_p1_values a_p1_hours a_p1_counties_cells a_p1_hours_cells a_p1_kinds_cells a_p1_ranks_cells a_p1_values_cells a_this a_states a_dimples a_dimples_cells a_states_cells v_p1_size v_p1_counties v_p1_hours v_p1_kinds v_p1_ranks v_p1_values o_dimples o_states) := by
  refine MTv.of (cc := cX4_readIn) (nL := 5) (own := RX4) pn_X4 rfl rfl (Nat.le_of_ble_eq_true rfl) ?_
  intro p e s m args below meth c A ls Q C hP hD hS hl hret
  obtain ⟨hx, hb, hml, hts, hown, hK, hN, hA, hlk⟩ := id C
  have hl : lv_has ls 5 [(0, .ref a_this), (1, .ref a_p1), (2, .int x2), (3, .int x3)] := hl
  have L8 := wk_loopI (F := (fun k8 : (Nat → Int32) → (Nat → Int32) → Int32 → Int32 → Int32 → Option ((Nat → Int32) × (Nat → Int32)) => B_X4_readIn_8 N v_p1_size v_p1_counties v_p1_hours v_p1_kinds v_p1_ranks v_p1_values k8)) (bot := fun _ _ _ _ _ => none) (fun k8 : (Nat → Int32) → (Nat → Int32) → Int32 → Int32 → Int32 → Option ((Nat → Int32) × (Nat → Int32)) => ∀ (v_dimples : Nat → Int32) (v_states : Nat → Int32) (x2 : Int32) (x3 : Int32) (x4 : Int32), k8 v_dimples v_states x2 x3 x4 = some (o_dimples, o_states) → ∀ (H : Heap) (locs : List Loc) (ls : Array Slot), va_P D vwCl (w_X4_readIn cB cI cJ a_p1 a_p1_kinds a_p1_counties a_p1_ranks a_p1_values a_p1_hours a_p1_counties_cells a_p1_hours_cells a_p1_kinds_cells a_p1_ranks_cells a_p1_values_cells a_this a_states a_dimples a_dimples_cells a_states_cells v_p1_size v_p1_counties v_p1_hours v_p1_kinds v_p1_ranks v_p1_values v_dimples v_states) H → va_D A (w_X4_readIn cB cI cJ a_p1 a_p1_kinds a_p1_counties a_p1_ranks a_p1_values a_p1_hours a_p1_counties_cells a_p1_hours_cells a_p1_kinds_cells a_p1_ranks_cells a_p1_values_cells a_this a_states a_dimples a_dimples_cells a_states_cells v_p1_size v_p1_counties v_p1_hours v_p1_kinds v_p1_ranks v_p1_values v_dimples v_states) → va_S A s.heap H locs → lv_has ls 5 [(0, .ref a_this), (1, .ref a_p1), (2, .int x2), (3, .int x3), (4, .int x4)] → W p l e rm_X4_readIn s m args below meth c H locs 0 0 Q (F0 m 8 ls [])) (by intro v_dimples v_states x2 x3 x4 hf; exact wk_no hf) (by
    intro k8 ih8
    have J61 : ∀ (v_dimples : Nat → Int32) (v_states : Nat → Int32) (x2 : Int32) (x3 : Int32) (x4 : Int32) (s1 : Int32) (s2 : Int32), B_X4_readIn_61 N v_p1_size v_p1_counties v_p1_hours v_p1_kinds v_p1_ranks v_p1_values k8 v_dimples v_states x2 x3 x4 s1 s2 = some (o_dimples, o_states) → ∀ (H : Heap) (locs : List Loc) (ls : Array Slot), va_P D vwCl (w_X4_readIn cB cI cJ a_p1 a_p1_kinds a_p1_counties a_p1_ranks a_p1_values a_p1_hours a_p1_counties_cells a_p1_hours_cells a_p1_kinds_cells a_p1_ranks_cells a_p1_values_cells a_this a_states a_dimples a_dimples_cells a_states_cells v_p1_size v_p1_counties v_p1_hours v_p1_kinds v_p1_ranks v_p1_values v_dimples v_states) H → va_D A (w_X4_readIn cB cI cJ a_p1 a_p1_kinds a_p1_counties a_p1_ranks a_p1_values a_p1_hours a_p1_counties_cells a_p1_hours_cells a_p1_kinds_cells a_p1_ranks_cells a_p1_values_cells a_this a_states a_dimples a_dimples_cells a_states_cells v_p1_size v_p1_counties v_p1_hours v_p1_kinds v_p1_ranks v_p1_values v_dimples v_states) → va_S A s.heap H locs → lv_has ls 5 [(0, .ref a_this), (1, .ref a_p1), (2, .int x2), (3, .int x3), (4, .int x4)] → W p l e rm_X4_readIn s m args below meth c H locs 0 0 Q (F0 m 61 ls [.int s2, .int s1, .ref a_dimples]) := by
      intro v_dimples v_states x2 x3 x4 s1 s2 hf H locs ls hP hD hS hl
      unfold B_X4_readIn_61 at hf
      obtain ⟨o1_0, hc1, hf⟩ := wk_b1E hf
      refine wk_callVv2 C hP hD hS (c_X6_set l D cB cI cJ N a_dimples a_dimples_cells 5 v_dimples s1 s2 hc1) (cwV 2 hts gX4_readIn_X6_set rfl rfl rfl hd_X6_set ⟨Nat.le_of_ble_eq_true rfl, Nat.le_of_ble_eq_true rfl⟩) hl.1 ⟨Nat.zero_le _, Nat.zero_le _⟩ [12, 13] [0, 1, 2, 3, 4, 5, 6, 7, 8, 9, 10, 11, 14, 15] 16 (by decide +kernel) rfl (Wn := w_X4_readIn cB cI cJ a_p1 a_p1_kinds a_p1_counties a_p1_ranks a_p1_values a_p1_hours a_p1_counties_cells a_p1_hours_cells a_p1_kinds_cells a_p1_ranks_cells a_p1_values_cells a_this a_states a_dimples a_dimples_cells a_states_cells v_p1_size v_p1_counties v_p1_hours v_p1_kinds v_p1_ranks v_p1_values o1_0 v_states) rfl rfl rfl rfl rfl rfl (ci := 6) rfl rfl (q0 := 12) rfl rfl rfl (Nat.le_of_ble_eq_true rfl) dX4_readIn_61 (fun H locs hP hD hS => ?_)
      obtain ⟨y2, ey2⟩ : ∃ y : Int32, y = x4 + (1 : Int32) := ⟨_, rfl⟩
      have hf := wk_nmE hf ey2
      refine lv_iinc (v := y2) (lv' := [(4, .int y2), (0, .ref a_this), (1, .ref a_p1), (2, .int x2), (3, .int x3)]) hx hb dX4_readIn_64 hl (k := 4) rfl (by rw [ey2]; rfl) (by decide) rfl (fun ls hl => ?_)
      refine lv_goto (tgt := 8) hx hb dX4_readIn_67 (by decide) ?_
      exact ih8 _ _ _ _ _ hf _ _ _ hP hD hS (lv_sub hl [1, 2, 3, 4, 0] rfl)
    have J30 : ∀ (v_dimples : Nat → Int32) (v_states : Nat → Int32) (x2 : Int32) (x3 : Int32) (x4 : Int32) (s1 : Int32) (s3 : Int32), B_X4_readIn_30 N v_p1_size v_p1_counties v_p1_hours v_p1_kinds v_p1_ranks v_p1_values k8 v_dimples v_states x2 x3 x4 s1 s3 = some (o_dimples, o_states) → ∀ (H : Heap) (locs : List Loc) (ls : Array Slot), va_P D vwCl (w_X4_readIn cB cI cJ a_p1 a_p1_kinds a_p1_counties a_p1_ranks a_p1_values a_p1_hours a_p1_counties_cells a_p1_hours_cells a_p1_kinds_cells a_p1_ranks_cells a_p1_values_cells a_this a_states a_dimples a_dimples_cells a_states_cells v_p1_size v_p1_counties v_p1_hours v_p1_kinds v_p1_ranks v_p1_values v_dimples v_states) H → va_D A (w_X4_readIn cB cI cJ a_p1 a_p1_kinds a_p1_counties a_p1_ranks a_p1_values a_p1_hours a_p1_counties_cells a_p1_hours_cells a_p1_kinds_cells a_p1_ranks_cells a_p1_values_cells a_this a_states a_dimples a_dimples_cells a_states_cells v_p1_size v_p1_counties v_p1_hours v_p1_kinds v_p1_ranks v_p1_values v_dimples v_states) → va_S A s.heap H locs → lv_has ls 5 [(0, .ref a_this), (1, .ref a_p1), (2, .int x2), (3, .int x3), (4, .int x4)] → W p l e rm_X4_readIn s m args below meth c H locs 0 0 Q (F0 m 30 ls [.int s3, .ref a_p1, .int s1, .ref a_states]) := by
      intro v_dimples v_states x2 x3 x4 s1 s3 hf H locs ls hP hD hS hl
      unfold B_X4_readIn_30 at hf
      refine lv_iload hx hb dX4_readIn_30 (lv_at hl 4 rfl) ?_
      refine lv_iload_n hx hb dX4_readIn_32 rfl (lv_at hl 2 rfl) ?_
      obtain ⟨r3, hc3, hf⟩ := wk_b1E hf
      refine wk_callVi2 C hP hD hS (c_X1_valueIn l D cB cI cJ N a_p1 a_p1_kinds a_p1_counties a_p1_ranks a_p1_values a_p1_hours a_p1_counties_cells a_p1_hours_cells a_p1_kinds_cells a_p1_ranks_cells a_p1_values_cells v_p1_size v_p1_counties v_p1_hours v_p1_kinds v_p1_ranks v_p1_values s3 x4 x2 hc3) (cwV 3 hts gX4_readIn_X1_valueIn rfl rfl rfl hd_X1_valueIn ⟨Nat.le_of_ble_eq_true rfl, Nat.le_of_ble_eq_true rfl⟩) hl.1 ⟨Nat.zero_le _, Nat.zero_le _⟩ [0, 1, 2, 3, 4, 5, 6, 7, 8, 9, 10] [11, 12, 13, 14, 15] 16 (by decide +kernel) rfl (Wn := w_X4_readIn cB cI cJ a_p1 a_p1_kinds a_p1_counties a_p1_ranks a_p1_values a_p1_hours a_p1_counties_cells a_p1_hours_cells a_p1_kinds_cells a_p1_ranks_cells a_p1_values_cells a_this a_states a_dimples a_dimples_cells a_states_cells v_p1_size v_p1_counties v_p1_hours v_p1_kinds v_p1_ranks v_p1_values v_dimples v_states) rfl rfl rfl rfl rfl rfl (ci := 1) rfl rfl (q0 := 0) rfl rfl rfl (Nat.le_of_ble_eq_true rfl) dX4_readIn_33 (fun H locs hP hD hS => ?_)
      obtain ⟨o4_0, hc4, hf⟩ := wk_b1E hf
      refine wk_callVv2 C hP hD hS (c_X6_set l D cB cI cJ N a_states a_states_cells 5 v_states s1 r3 hc4) (cwV 2 hts gX4_readIn_X6_set rfl rfl rfl hd_X6_set ⟨Nat.le_of_ble_eq_true rfl, Nat.le_of_ble_eq_true rfl⟩) hl.1 ⟨Nat.zero_le _, Nat.zero_le _⟩ [14, 15] [0, 1, 2, 3, 4, 5, 6, 7, 8, 9, 10, 11, 12, 13] 16 (by decide +kernel) rfl (Wn := w_X4_readIn cB cI cJ a_p1 a_p1_kinds a_p1_counties a_p1_ranks a_p1_values a_p1_hours a_p1_counties_cells a_p1_hours_cells a_p1_kinds_cells a_p1_ranks_cells a_p1_values_cells a_this a_states a_dimples a_dimples_cells a_states_cells v_p1_size v_p1_counties v_p1_hours v_p1_kinds v_p1_ranks v_p1_values v_dimples o4_0) rfl rfl rfl rfl rfl rfl (ci := 6) rfl rfl (q0 := 14) rfl rfl rfl (Nat.le_of_ble_eq_true rfl) dX4_readIn_36 (fun H locs hP hD hS => ?_)
      refine lv_aload_n hx hb dX4_readIn_39 rfl (lv_at hl 0 rfl) ?_
      refine va_get (D := D) (ci := 4) (v := .ref a_dimples) (C := RX4) (T := TX4) (N := 2) hx hb hts in_X4_readIn_X4 hown hK hP 11 rfl rfl 1 (by decide) (hts (.fieldLink RX4 20 "HangingCards$Reading" "dimples" "LHangingCards$Row;") (List.mem_of_getElem? (i := 2) rfl)) (fun _ h9 => h9) rfl dX4_readIn_40 ?_
      refine lv_iload hx hb dX4_readIn_43 (lv_at hl 4 rfl) ?_
      refine lv_iload_n hx hb dX4_readIn_45 rfl (lv_at hl 3 rfl) ?_
      refine lv_if_eq (tgt := 53) hx hb dX4_readIn_46 (by decide) (fun c5 => ?_) (fun c5 => ?_)
      · have hf := wk_itT hf c5
        refine lv_aload_n hx hb dX4_readIn_53 rfl (lv_at hl 1 rfl) ?_
        refine lv_iconst (v := (1 : Int32)) hx hb dX4_readIn_54 (by decide) ?_
        refine lv_iload hx hb dX4_readIn_55 (lv_at hl 4 rfl) ?_
        refine lv_iload_n hx hb dX4_readIn_57 rfl (lv_at hl 2 rfl) ?_
        obtain ⟨r6, hc6, hf⟩ := wk_b1E hf
        refine wk_callVi2 C hP hD hS (c_X1_valueIn l D cB cI cJ N a_p1 a_p1_kinds a_p1_counties a_p1_ranks a_p1_values a_p1_hours a_p1_counties_cells a_p1_hours_cells a_p1_kinds_cells a_p1_ranks_cells a_p1_values_cells v_p1_size v_p1_counties v_p1_hours v_p1_kinds v_p1_ranks v_p1_values (1 : Int32) x4 x2 hc6) (cwV 3 hts gX4_readIn_X1_valueIn rfl rfl rfl hd_X1_valueIn ⟨Nat.le_of_ble_eq_true rfl, Nat.le_of_ble_eq_true rfl⟩) hl.1 ⟨Nat.zero_le _, Nat.zero_le _⟩ [0, 1, 2, 3, 4, 5, 6, 7, 8, 9, 10] [11, 12, 13, 14, 15] 16 (by decide +kernel) rfl (Wn := w_X4_readIn cB cI cJ a_p1 a_p1_kinds a_p1_counties a_p1_ranks a_p1_values a_p1_hours a_p1_counties_cells a_p1_hours_cells a_p1_kinds_cells a_p1_ranks_cells a_p1_values_cells a_this a_states a_dimples a_dimples_cells a_states_cells v_p1_size v_p1_counties v_p1_hours v_p1_kinds v_p1_ranks v_p1_values v_dimples o4_0) rfl rfl rfl rfl rfl rfl (ci := 1) rfl rfl (q0 := 0) rfl rfl rfl (Nat.le_of_ble_eq_true rfl) dX4_readIn_58 (fun H locs hP hD hS => ?_)
        exact J61 _ _ _ _ _ _ _ hf _ _ _ hP hD hS (lv_sub hl [0, 1, 2, 3, 4] rfl)
      · have hf := wk_itF hf c5
        refine lv_iconst (v := (0 : Int32)) hx hb dX4_readIn_49 (by decide) ?_
        refine lv_goto (tgt := 61) hx hb dX4_readIn_50 (by decide) ?_
        exact J61 _ _ _ _ _ _ _ hf _ _ _ hP hD hS (lv_sub hl [0, 1, 2, 3, 4] rfl)
    intro v_dimples v_states x2 x3 x4 hf H locs ls hP hD hS hl
    have hf : B_X4_readIn_8 N v_p1_size v_p1_counties v_p1_hours v_p1_kinds v_p1_ranks v_p1_values k8 v_dimples v_states x2 x3 x4 = some (o_dimples, o_states) := hf
    unfold B_X4_readIn_8 at hf
    refine lv_iload hx hb dX4_readIn_8 (lv_at hl 4 rfl) ?_
    refine lv_iconst (v := (5 : Int32)) hx hb dX4_readIn_10 (by decide) ?_
    refine lv_icmp_ge (tgt := 70) hx hb dX4_readIn_11 (by decide) (fun c7 => ?_) (fun c7 => ?_)
    · have hf := wk_itT hf c7
      exact hret _ _ _ _ _ dX4_readIn_70 (wk_rt hf (fun z => w_X4_readIn cB cI cJ a_p1 a_p1_kinds a_p1_counties a_p1_ranks a_p1_values a_p1_hours a_p1_counties_cells a_p1_hours_cells a_p1_kinds_cells a_p1_ranks_cells a_p1_values_cells a_this a_states a_dimples a_dimples_cells a_states_cells v_p1_size v_p1_counties v_p1_hours v_p1_kinds v_p1_ranks v_p1_values (z.1) (z.2))) hP hD hS
    · have hf := wk_itF hf c7
      refine lv_aload_n hx hb dX4_readIn_14 rfl (lv_at hl 0 rfl) ?_
      refine va_get (D := D) (ci := 4) (v := .ref a_states) (C := RX4) (T := TX4) (N := 2) hx hb hts in_X4_readIn_X4 hown hK hP 11 rfl rfl 0 (by decide) (hts (.fieldLink RX4 14 "HangingCards$Reading" "states" "LHangingCards$Row;") (List.mem_of_getElem? (i := 1) rfl)) (fun _ h9 => h9) rfl dX4_readIn_15 ?_
      refine lv_iload hx hb dX4_readIn_18 (lv_at hl 4 rfl) ?_
      refine lv_aload_n hx hb dX4_readIn_20 rfl (lv_at hl 1 rfl) ?_
      refine lv_iload_n hx hb dX4_readIn_21 rfl (lv_at hl 3 rfl) ?_
      refine lv_if_eq (tgt := 29) hx hb dX4_readIn_22 (by decide) (fun c8 => ?_) (fun c8 => ?_)
      · have hf := wk_itT hf c8
        refine lv_iconst (v := (0 : Int32)) hx hb dX4_readIn_29 (by decide) ?_
        exact J30 _ _ _ _ _ _ _ hf _ _ _ hP hD hS (lv_sub hl [0, 1, 2, 3, 4] rfl)
      · have hf := wk_itF hf c8
        refine lv_iconst (v := (2 : Int32)) hx hb dX4_readIn_25 (by decide) ?_
        refine lv_goto (tgt := 30) hx hb dX4_readIn_26 (by decide) ?_
        exact J30 _ _ _ _ _ _ _ hf _ _ _ hP hD hS (lv_sub hl [0, 1, 2, 3, 4] rfl))
  unfold f_X4_readIn at hf
  refine lv_aload_n hx hb dX4_readIn_0 rfl (lv_at hl 1 rfl) ?_
  refine lv_ifnonnull (tgt := 5) hx hb dX4_readIn_1 (by decide) ?_
  refine lv_iconst (v := (0 : Int32)) hx hb dX4_readIn_5 (by decide) ?_
  refine lv_istore (lv' := [(4, .int (0 : Int32)), (0, .ref a_this), (1, .ref a_p1), (2, .int x2), (3, .int x3)]) hx hb dX4_readIn_6 hl (by decide) rfl (fun ls hl => ?_)
  exact L8 N _ _ _ _ _ hf _ _ _ hP hD hS (lv_sub hl [1, 2, 3, 4, 0] rfl)
