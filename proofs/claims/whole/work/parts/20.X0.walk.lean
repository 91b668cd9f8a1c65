abbrev w_X0_place (cB cI cJ : ClassId) : va_W := []
theorem hd_X0_place : yX0_place.cls = RX0 ∧ yX0_place.cls ≠ "java/lang/invoke/MethodHandle" ∧ yX0_place.cls ≠ "java/lang/invoke/VarHandle" ∧ (parseMethodDescriptor yX0_place.desc).map (fun d => d.parameters.length) = some 2 := by decide +kernel
abbrev rm_X0_place : Room := { frames := 0, cells := 0, slots := 0, locals := 0 }
set_option maxHeartbeats 4000000 in
set_option maxRecDepth 100000 in
theorem c_X0_place (l : Launch) (D : va_G) (cB cI cJ : ClassId) (N : Nat) (x0 : Int32) (x1 : Int32) {r : Int32} (hf : f_X0_place N x0 x1 = some r) : MTi l yX0_place wsX0_place rm_X0_place D (wk_T cB cI cJ) [.int x0, .int x1] (w_X0_place cB cI cJ) (w_X0_place cB cI cJ) r := by
  refine MTi.of (cc := cX0_place) (nL := 2) (rt := .int) (own := RX0) pn_X0 rfl rfl (Nat.le_of_ble_eq_true rfl) rfl ?_
  intro p e s m args below meth c A ls Q C hP hD hS hl hret
  obtain ⟨hx, hb, hml, hts, hown, hK, hN, hA, hlk⟩ := id C
  have hl : lv_has ls 2 [(0, .int x0), (1, .int x1)] := hl
  unfold f_X0_place at hf
  refine lv_iload_n hx hb dX0_place_0 rfl (lv_at hl 0 rfl) ?_
  refine lv_iconst (v := (5 : Int32)) hx hb dX0_place_1 (by decide) ?_
  refine lv_imul hx hb dX0_place_2 ?_
  refine lv_iload_n hx hb dX0_place_3 rfl (lv_at hl 1 rfl) ?_
  refine lv_iadd hx hb dX0_place_4 ?_
  refine lv_iconst (v := (1 : Int32)) hx hb dX0_place_5 (by decide) ?_
  refine lv_isub hx hb dX0_place_6 ?_
  exact hret _ _ _ _ _ _ dX0_place_7 (wk_rt hf (fun z => z)) rfl hP hD hS
abbrev w_X0_learn (cB cI cJ : ClassId) (a_p1 : Nat) (a_p1_pile : Nat) (a_p1_orders : Nat) (a_p1_reading : Nat) (a_p1_later : Nat) (a_p1_pile_counties : Nat) (a_p1_pile_states : Nat) (a_p1_pile_counties_cells : Nat) (a_p1_pile_states_cells : Nat) (a_p1_reading_states : Nat) (a_p1_reading_dimples : Nat) (a_p1_reading_dimples_cells : Nat) (a_p1_reading_states_cells : Nat) (a_this : Nat) (a_votes : Nat) (a_choices : Nat) (a_votes_cells : Nat) (v_p1_pile_size : Int32) (v_p1_pile_counties : Nat → Int32) (v_p1_pile_states : Nat → Int32) (v_p1_reading_dimples : Nat → Int32) (v_p1_reading_states : Nat → Int32) (v_base : Int32) (v_favoured : Int32) (v_standing : Int32) (v_winners : Int32) (v_lead : Int32) (v_fewest : Int32) (v_votes : Nat → Int32) : va_W := [(a_p1, .inr (8, [.ref a_p1_pile, .ref a_p1_orders, .ref a_p1_reading, .ref a_p1_later])), (a_p1_pile, .inr (3, [.ref a_p1_pile_counties, .ref a_p1_pile_states, .int v_p1_pile_size])), (a_p1_pile_counties, .inr (6, [.ref a_p1_pile_counties_cells])), (a_p1_pile_counties_cells, .inl (cI, 40, .inl v_p1_pile_counties)), (a_p1_pile_states, .inr (6, [.ref a_p1_pile_states_cells])), (a_p1_pile_states_cells, .inl (cI, 480, .inl v_p1_pile_states)), (a_p1_reading, .inr (4, [.ref a_p1_reading_states, .ref a_p1_reading_dimples])), (a_p1_reading_dimples, .inr (6, [.ref a_p1_reading_dimples_cells])), (a_p1_reading_dimples_cells, .inl (cI, 5, .inl v_p1_reading_dimples)), (a_p1_reading_states, .inr (6, [.ref a_p1_reading_states_cells])), (a_p1_reading_states_cells, .inl (cI, 5, .inl v_p1_reading_states)), (a_this, .inr (0, [.ref a_votes, .ref a_choices, .int v_base, .int v_favoured, .int v_standing, .int v_winners, .int v_lead, .int v_fewest])), (a_votes, .inr (6, [.ref a_votes_cells])), (a_votes_cells, .inl (cI, 25, .inl v_votes))]
theorem hd_X0_learn : yX0_learn.cls = RX0 ∧ yX0_learn.cls ≠ "java/lang/invoke/MethodHandle" ∧ yX0_learn.cls ≠ "java/lang/invoke/VarHandle" ∧ (parseMethodDescriptor yX0_learn.desc).map (fun d => d.parameters.length) = some 2 := by decide +kernel
abbrev rm_X0_learn : Room := { frames := 5, cells := 0, slots := 0, locals := 120 }
theorem in_X0_learn_X0 : ∀ w ∈ wsX00, w ∈ wsX0_learn := fun w h => List.mem_cons_of_mem _ (List.mem_append_left _ (List.mem_append_left _ (List.mem_append_left _ (List.mem_append_left _ (List.mem_append_right _ h)))))
set_option maxHeartbeats 4000000 in
set_option maxRecDepth 100000 in
theorem c_X0_learn (l : Launch) (D : va_G) (cB cI cJ : ClassId) (N : Nat) (a_p1 : Nat) (a_p1_pile : Nat) (a_p1_orders : Nat) (a_p1_reading : Nat) (a_p1_later : Nat) (a_p1_pile_counties : Nat) (a_p1_pile_states : Nat) (a_p1_pile_counties_cells : Nat) (a_p1_pile_states_cells : Nat) (a_p1_reading_states : Nat) (a_p1_reading_dimples : Nat) (a_p1_reading_dimples_cells : Nat) (a_p1_reading_states_cells : Nat) (a_this : Nat) (a_votes : Nat) (a_choices : Nat) (a_votes_cells : Nat) (v_p1_pile_size : Int32) (v_p1_pile_counties : Nat → Int32) (v_p1_pile_states : Nat → Int32) (v_p1_reading_dimples : Nat → Int32) (v_p1_reading_states : Nat → Int32) (v_base : Int32) (v_favoured : Int32) (v_standing : Int32) (v_winners : Int32) (v_lead : Int32) (v_fewest : Int32) (v_votes : Nat → Int32) (x2 : Int32) {o_p1_reading_dimples : Nat → Int32} {o_p1_reading_states : Nat → Int32} {o_votes : Nat → Int32} (hf : f_X0_learn N v_p1_pile_size v_p1_pile_counties v_p1_pile_states v_p1_reading_dimples v_p1_reading_states v_votes x2 = some (o_p1_reading_dimples, o_p1_reading_states, o_votes)) : MTv l yX0_learn wsX0_learn rm_X0_learn D (wk_T cB cI cJ) [.ref a_this, .ref a_p1, .int x2] (w_X0_learn cB cI cJ a_p1 a_p1_pile a_p1_orders a_p1_reading a_p1_later a_p1_pile_counties a_p1_pile_states a_p1_pile_counties_cells a_p1_pile_states_cells a_p1_reading_states a_p1_reading_dimples a_p1_reading_dimples_cells a_p1_reading_states_cells a_this a_votes a_choices a_votes_cells v_p1_pile_size v_p1_pile_counties v_p1_pile_states v_p1_reading_dimples v_p1_reading_states v_base v_favoured v_standing v_winners v_lead v_fewest v_votes) (w_X0_learn cB cI cJ a_p1 a_p1_pile a_p1_orders a_p1_reading a_p1_later a_p1_pile_counties a_p1_pile_states a_p1_pile_counties_cells a_p1_pile_states_cells a_p1_reading_states a_p1_reading_dimples a_p1_reading_dimples_cells a_p1_reading_states_cells a_this a_votes a_choices a_votes_cells v_p1_pile_size v_p1_pile_counties v_p1_pile_states o_p1_reading_dimples o_p1_reading_states v_base v_favoured v_standing v_winners v_lead v_fewest o_votes) := by
  refine MTv.of (cc := cX0_learn) (nL := 5) (own := RX0) pn_X0 rfl rfl (Nat.le_of_ble_eq_true rfl) ?_
  intro p e s m args below meth c A ls Q C hP hD hS hl hret
  obtain ⟨hx, hb, hml, hts, hown, hK, hN, hA, hlk⟩ := id C
  have hl : lv_has ls 5 [(0, .ref a_this), (1, .ref a_p1), (2, .int x2)] := hl
  have L7 := wk_loopI (F := (fun k7 : (Nat → Int32) → (Nat → Int32) → (Nat → Int32) → Int32 → Int32 → Option ((Nat → Int32) × (Nat → Int32) × (Nat → Int32)) => B_X0_learn_7 N v_p1_pile_size v_p1_pile_counties v_p1_pile_states k7)) (bot := fun _ _ _ _ _ => none) (fun k7 : (Nat → Int32) → (Nat → Int32) → (Nat → Int32) → Int32 → Int32 → Option ((Nat → Int32) × (Nat → Int32) × (Nat → Int32)) => ∀ (v_p1_reading_dimples : Nat → Int32) (v_p1_reading_states : Nat → Int32) (v_votes : Nat → Int32) (x2 : Int32) (x3 : Int32), k7 v_p1_reading_dimples v_p1_reading_states v_votes x2 x3 = some (o_p1_reading_dimples, o_p1_reading_states, o_votes) → ∀ (H : Heap) (locs : List Loc) (ls : Array Slot), va_P D vwCl (w_X0_learn cB cI cJ a_p1 a_p1_pile a_p1_orders a_p1_reading a_p1_later a_p1_pile_counties a_p1_pile_states a_p1_pile_counties_cells a_p1_pile_states_cells a_p1_reading_states a_p1_reading_dimples a_p1_reading_dimples_cells a_p1_reading_states_cells a_this a_votes a_choices a_votes_cells v_p1_pile_size v_p1_pile_counties v_p1_pile_states v_p1_reading_dimples v_p1_reading_states v_base v_favoured v_standing v_winners v_lead v_fewest v_votes) H → va_D A (w_X0_learn cB cI cJ a_p1 a_p1_pile a_p1_orders a_p1_reading a_p1_later a_p1_pile_counties a_p1_pile_states a_p1_pile_counties_cells a_p1_pile_states_cells a_p1_reading_states a_p1_reading_dimples a_p1_reading_dimples_cells a_p1_reading_states_cells a_this a_votes a_choices a_votes_cells v_p1_pile_size v_p1_pile_counties v_p1_pile_states v_p1_reading_dimples v_p1_reading_states v_base v_favoured v_standing v_winners v_lead v_fewest v_votes) → va_S A s.heap H locs → lv_has ls 5 [(0, .ref a_this), (1, .ref a_p1), (2, .int x2), (3, .int x3)] → W p l e rm_X0_learn s m args below meth c H locs 0 0 Q (F0 m 7 ls [])) (by intro v_p1_reading_dimples v_p1_reading_states v_votes x2 x3 hf; exact wk_no hf) (by
    intro k7 ih7
    have L20 := wk_loopI (F := (fun k20 : (Nat → Int32) → (Nat → Int32) → (Nat → Int32) → Int32 → Int32 → Int32 → Option ((Nat → Int32) × (Nat → Int32) × (Nat → Int32)) => B_X0_learn_20 N v_p1_pile_size v_p1_pile_counties v_p1_pile_states k7 k20)) (bot := fun _ _ _ _ _ _ => none) (fun k20 : (Nat → Int32) → (Nat → Int32) → (Nat → Int32) → Int32 → Int32 → Int32 → Option ((Nat → Int32) × (Nat → Int32) × (Nat → Int32)) => ∀ (v_p1_reading_dimples : Nat → Int32) (v_p1_reading_states : Nat → Int32) (v_votes : Nat → Int32) (x2 : Int32) (x3 : Int32) (x4 : Int32), k20 v_p1_reading_dimples v_p1_reading_states v_votes x2 x3 x4 = some (o_p1_reading_dimples, o_p1_reading_states, o_votes) → ∀ (H : Heap) (locs : List Loc) (ls : Array Slot), va_P D vwCl (w_X0_learn cB cI cJ a_p1 a_p1_pile a_p1_orders a_p1_reading a_p1_later a_p1_pile_counties a_p1_pile_states a_p1_pile_counties_cells a_p1_pile_states_cells a_p1_reading_states a_p1_reading_dimples a_p1_reading_dimples_cells a_p1_reading_states_cells a_this a_votes a_choices a_votes_cells v_p1_pile_size v_p1_pile_counties v_p1_pile_states v_p1_reading_dimples v_p1_reading_states v_base v_favoured v_standing v_winners v_lead v_fewest v_votes) H → va_D A (w_X0_learn cB cI cJ a_p1 a_p1_pile a_p1_orders a_p1_reading a_p1_later a_p1_pile_counties a_p1_pile_states a_p1_pile_counties_cells a_p1_pile_states_cells a_p1_reading_states a_p1_reading_dimples a_p1_reading_dimples_cells a_p1_reading_states_cells a_this a_votes a_choices a_votes_cells v_p1_pile_size v_p1_pile_counties v_p1_pile_states v_p1_reading_dimples v_p1_reading_states v_base v_favoured v_standing v_winners v_lead v_fewest v_votes) → va_S A s.heap H locs → lv_has ls 5 [(0, .ref a_this), (1, .ref a_p1), (2, .int x2), (3, .int x3), (4, .int x4)] → W p l e rm_X0_learn s m args below meth c H locs 0 0 Q (F0 m 20 ls [])) (by intro v_p1_reading_dimples v_p1_reading_states v_votes x2 x3 x4 hf; exact wk_no hf) (by
      intro k20 ih20
      intro v_p1_reading_dimples v_p1_reading_states v_votes x2 x3 x4 hf H locs ls hP hD hS hl
      have hf : B_X0_learn_20 N v_p1_pile_size v_p1_pile_counties v_p1_pile_states k7 k20 v_p1_reading_dimples v_p1_reading_states v_votes x2 x3 x4 = some (o_p1_reading_dimples, o_p1_reading_states, o_votes) := hf
      unfold B_X0_learn_20 at hf
      refine lv_iload hx hb dX0_learn_20 (lv_at hl 4 rfl) ?_
      refine lv_iconst (v := (5 : Int32)) hx hb dX0_learn_22 (by decide) ?_
      refine lv_icmp_ge (tgt := 52) hx hb dX0_learn_23 (by decide) (fun c1 => ?_) (fun c1 => ?_)
      · have hf := wk_itT hf c1
        obtain ⟨y2, ey2⟩ : ∃ y : Int32, y = x3 + (1 : Int32) := ⟨_, rfl⟩
        have hf := wk_nmE hf ey2
        refine lv_iinc (v := y2) (lv' := [(3, .int y2), (0, .ref a_this), (1, .ref a_p1), (2, .int x2), (4, .int x4)]) hx hb dX0_learn_52 hl (k := 3) rfl (by rw [ey2]; rfl) (by decide) rfl (fun ls hl => ?_)
        refine lv_goto (tgt := 7) hx hb dX0_learn_55 (by decide) ?_
        exact ih7 _ _ _ _ _ hf _ _ _ hP hD hS (lv_sub hl [1, 2, 3, 0] rfl)
      · have hf := wk_itF hf c1
        refine lv_aload_n hx hb dX0_learn_26 rfl (lv_at hl 0 rfl) ?_
        refine va_get (D := D) (ci := 0) (v := .ref a_votes) (C := RX0) (T := TX0) (N := 8) hx hb hts in_X0_learn_X0 hown hK hP 11 rfl rfl 0 (by decide) (hts (.fieldLink RX0 14 "HangingCards$Mixtures" "votes" "LHangingCards$Row;") (List.mem_of_getElem? (i := 1) rfl)) (fun _ h9 => h9) rfl dX0_learn_27 ?_
        refine lv_iload hx hb dX0_learn_30 (lv_at hl 4 rfl) ?_
        refine lv_iload_n hx hb dX0_learn_32 rfl (lv_at hl 3 rfl) ?_
        obtain ⟨r3, hc3, hf⟩ := wk_b1E hf
        refine wk_callSi2 C hP hD hS (c_X0_place l D cB cI cJ N x4 x3 hc3) (va_cwS 2 hts gX0_learn_X0_place rfl rfl rfl hd_X0_place.2 ⟨Nat.le_of_ble_eq_true rfl, Nat.le_of_ble_eq_true rfl⟩) hl.1 ⟨Nat.zero_le _, Nat.zero_le _⟩ [] [0, 1, 2, 3, 4, 5, 6, 7, 8, 9, 10, 11, 12, 13] 14 (by decide +kernel) rfl (Wn := w_X0_learn cB cI cJ a_p1 a_p1_pile a_p1_orders a_p1_reading a_p1_later a_p1_pile_counties a_p1_pile_states a_p1_pile_counties_cells a_p1_pile_states_cells a_p1_reading_states a_p1_reading_dimples a_p1_reading_dimples_cells a_p1_reading_states_cells a_this a_votes a_choices a_votes_cells v_p1_pile_size v_p1_pile_counties v_p1_pile_states v_p1_reading_dimples v_p1_reading_states v_base v_favoured v_standing v_winners v_lead v_fewest v_votes) rfl rfl rfl rfl rfl rfl rfl rfl (Nat.le_of_ble_eq_true rfl) dX0_learn_33 (fun H locs hP hD hS => ?_)
        refine lv_aload_n hx hb dX0_learn_36 rfl (lv_at hl 1 rfl) ?_
        refine lv_iload hx hb dX0_learn_37 (lv_at hl 4 rfl) ?_
        refine lv_iload_n hx hb dX0_learn_39 rfl (lv_at hl 2 rfl) ?_
        obtain ⟨r4, hc4, hf⟩ := wk_b1E hf
        refine wk_callVi2 C hP hD hS (c_X8_sum l D cB cI cJ N a_p1 a_p1_pile a_p1_orders a_p1_reading a_p1_later a_p1_pile_counties a_p1_pile_states a_p1_pile_counties_cells a_p1_pile_states_cells a_p1_reading_states a_p1_reading_dimples a_p1_reading_dimples_cells a_p1_reading_states_cells v_p1_pile_size v_p1_pile_counties v_p1_pile_states v_p1_reading_dimples v_p1_reading_states x4 x2 hc4) (cwV 2 hts gX0_learn_X8_sum rfl rfl rfl hd_X8_sum ⟨Nat.le_of_ble_eq_true rfl, Nat.le_of_ble_eq_true rfl⟩) hl.1 ⟨Nat.zero_le _, Nat.zero_le _⟩ [0, 1, 2, 3, 4, 5, 6, 7, 8, 9, 10] [11, 12, 13] 14 (by decide +kernel) rfl (Wn := w_X0_learn cB cI cJ a_p1 a_p1_pile a_p1_orders a_p1_reading a_p1_later a_p1_pile_counties a_p1_pile_states a_p1_pile_counties_cells a_p1_pile_states_cells a_p1_reading_states a_p1_reading_dimples a_p1_reading_dimples_cells a_p1_reading_states_cells a_this a_votes a_choices a_votes_cells v_p1_pile_size v_p1_pile_counties v_p1_pile_states v_p1_reading_dimples v_p1_reading_states v_base v_favoured v_standing v_winners v_lead v_fewest v_votes) rfl rfl rfl rfl rfl rfl (ci := 8) rfl rfl (q0 := 0) rfl rfl rfl (Nat.le_of_ble_eq_true rfl) dX0_learn_40 (fun H locs hP hD hS => ?_)
        obtain ⟨o5_0, hc5, hf⟩ := wk_b1E hf
        refine wk_callVv2 C hP hD hS (c_X6_set l D cB cI cJ N a_votes a_votes_cells 25 v_votes r3 r4 hc5) (cwV 2 hts gX0_learn_X6_set rfl rfl rfl hd_X6_set ⟨Nat.le_of_ble_eq_true rfl, Nat.le_of_ble_eq_true rfl⟩) hl.1 ⟨Nat.zero_le _, Nat.zero_le _⟩ [12, 13] [0, 1, 2, 3, 4, 5, 6, 7, 8, 9, 10, 11] 14 (by decide +kernel) rfl (Wn := w_X0_learn cB cI cJ a_p1 a_p1_pile a_p1_orders a_p1_reading a_p1_later a_p1_pile_counties a_p1_pile_states a_p1_pile_counties_cells a_p1_pile_states_cells a_p1_reading_states a_p1_reading_dimples a_p1_reading_dimples_cells a_p1_reading_states_cells a_this a_votes a_choices a_votes_cells v_p1_pile_size v_p1_pile_counties v_p1_pile_states v_p1_reading_dimples v_p1_reading_states v_base v_favoured v_standing v_winners v_lead v_fewest o5_0) rfl rfl rfl rfl rfl rfl (ci := 6) rfl rfl (q0 := 12) rfl rfl rfl (Nat.le_of_ble_eq_true rfl) dX0_learn_43 (fun H locs hP hD hS => ?_)
        obtain ⟨y6, ey6⟩ : ∃ y : Int32, y = x4 + (1 : Int32) := ⟨_, rfl⟩
        have hf := wk_nmE hf ey6
        refine lv_iinc (v := y6) (lv' := [(4, .int y6), (0, .ref a_this), (1, .ref a_p1), (2, .int x2), (3, .int x3)]) hx hb dX0_learn_46 hl (k := 4) rfl (by rw [ey6]; rfl) (by decide) rfl (fun ls hl => ?_)
        refine lv_goto (tgt := 20) hx hb dX0_learn_49 (by decide) ?_
        exact ih20 _ _ _ _ _ _ hf _ _ _ hP hD hS (lv_sub hl [1, 2, 3, 4, 0] rfl))
    intro v_p1_reading_dimples v_p1_reading_states v_votes x2 x3 hf H locs ls hP hD hS hl
    have hf : B_X0_learn_7 N v_p1_pile_size v_p1_pile_counties v_p1_pile_states k7 v_p1_reading_dimples v_p1_reading_states v_votes x2 x3 = some (o_p1_reading_dimples, o_p1_reading_states, o_votes) := hf
    unfold B_X0_learn_7 at hf
    refine lv_iload_n hx hb dX0_learn_7 rfl (lv_at hl 3 rfl) ?_
    refine lv_iconst (v := (5 : Int32)) hx hb dX0_learn_8 (by decide) ?_
    refine lv_icmp_gt (tgt := 58) hx hb dX0_learn_9 (by decide) (fun c7 => ?_) (fun c7 => ?_)
    · have hf := wk_itT hf c7
      exact hret _ _ _ _ _ dX0_learn_58 (wk_rt hf (fun z => w_X0_learn cB cI cJ a_p1 a_p1_pile a_p1_orders a_p1_reading a_p1_later a_p1_pile_counties a_p1_pile_states a_p1_pile_counties_cells a_p1_pile_states_cells a_p1_reading_states a_p1_reading_dimples a_p1_reading_dimples_cells a_p1_reading_states_cells a_this a_votes a_choices a_votes_cells v_p1_pile_size v_p1_pile_counties v_p1_pile_states (z.1) (z.2.1) v_base v_favoured v_standing v_winners v_lead v_fewest (z.2.2))) hP hD hS
    · have hf := wk_itF hf c7
      refine lv_aload_n hx hb dX0_learn_12 rfl (lv_at hl 1 rfl) ?_
      refine lv_iload_n hx hb dX0_learn_13 rfl (lv_at hl 3 rfl) ?_
      obtain ⟨o8_0, o8_1, hc8, hf⟩ := wk_b2E hf
      refine wk_callVv2 C hP hD hS (c_X8_readBy l D cB cI cJ N a_p1 a_p1_pile a_p1_orders a_p1_reading a_p1_later a_p1_reading_states a_p1_reading_dimples a_p1_reading_dimples_cells a_p1_reading_states_cells v_p1_reading_dimples v_p1_reading_states x3 hc8) (cwV 1 hts gX0_learn_X8_readBy rfl rfl rfl hd_X8_readBy ⟨Nat.le_of_ble_eq_true rfl, Nat.le_of_ble_eq_true rfl⟩) hl.1 ⟨Nat.zero_le _, Nat.zero_le _⟩ [0, 6, 7, 8, 9, 10] [1, 2, 3, 4, 5, 11, 12, 13] 14 (by decide +kernel) rfl (Wn := w_X0_learn cB cI cJ a_p1 a_p1_pile a_p1_orders a_p1_reading a_p1_later a_p1_pile_counties a_p1_pile_states a_p1_pile_counties_cells a_p1_pile_states_cells a_p1_reading_states a_p1_reading_dimples a_p1_reading_dimples_cells a_p1_reading_states_cells a_this a_votes a_choices a_votes_cells v_p1_pile_size v_p1_pile_counties v_p1_pile_states o8_0 o8_1 v_base v_favoured v_standing v_winners v_lead v_fewest v_votes) rfl rfl rfl rfl rfl rfl (ci := 8) rfl rfl (q0 := 0) rfl rfl rfl (Nat.le_of_ble_eq_true rfl) dX0_learn_14 (fun H locs hP hD hS => ?_)
      refine lv_iconst (v := (0 : Int32)) hx hb dX0_learn_17 (by decide) ?_
      refine lv_istore (lv' := [(4, .int (0 : Int32)), (0, .ref a_this), (1, .ref a_p1), (2, .int x2), (3, .int x3)]) hx hb dX0_learn_18 hl (by decide) rfl (fun ls hl => ?_)
      exact L20 N _ _ _ _ _ _ hf _ _ _ hP hD hS (lv_sub hl [1, 2, 3, 4, 0] rfl))
  unfold f_X0_learn at hf
  refine lv_aload_n hx hb dX0_learn_0 rfl (lv_at hl 1 rfl) ?_
  refine lv_ifnonnull (tgt := 5) hx hb dX0_learn_1 (by decide) ?_
  refine lv_iconst (v := (1 : Int32)) hx hb dX0_learn_5 (by decide) ?_
  refine lv_istore_n (lv' := [(3, .int (1 : Int32)), (0, .ref a_this), (1, .ref a_p1), (2, .int x2)]) hx hb dX0_learn_6 rfl hl (by decide) rfl (fun ls hl => ?_)
  exact L7 N _ _ _ _ _ hf _ _ _ hP hD hS (lv_sub hl [1, 2, 3, 0] rfl)
abbrev w_X0_winners (cB cI cJ : ClassId) (a_this : Nat) (a_votes : Nat) (a_choices : Nat) (v_base : Int32) (v_favoured : Int32) (v_standing : Int32) (v_winners : Int32) (v_lead : Int32) (v_fewest : Int32) : va_W := [(a_this, .inr (0, [.ref a_votes, .ref a_choices, .int v_base, .int v_favoured, .int v_standing, .int v_winners, .int v_lead, .int v_fewest]))]
theorem hd_X0_winners : yX0_winners.cls = RX0 ∧ yX0_winners.cls ≠ "java/lang/invoke/MethodHandle" ∧ yX0_winners.cls ≠ "java/lang/invoke/VarHandle" ∧ (parseMethodDescriptor yX0_winners.desc).map (fun d => d.parameters.length) = some 0 := by decide +kernel
abbrev rm_X0_winners : Room := { frames := 0, cells := 0, slots := 0, locals := 0 }
theorem in_X0_winners_X0 : ∀ w ∈ wsX00, w ∈ wsX0_winners := fun w h => List.mem_cons_of_mem _ (List.mem_append_right _ h)
set_option maxHeartbeats 4000000 in
set_option maxRecDepth 100000 in
theorem c_X0_winners (l : Launch) (D : va_G) (cB cI cJ : ClassId) (N : Nat) (a_this : Nat) (a_votes : Nat) (a_choices : Nat) (v_base : Int32) (v_favoured : Int32) (v_standing : Int32) (v_winners : Int32) (v_lead : Int32) (v_fewest : Int32) {r : Int32} (hf : f_X0_winners N v_winners = some r) : MTi l yX0_winners wsX0_winners rm_X0_winners D (wk_T cB cI cJ) [.ref a_this] (w_X0_winners cB cI cJ a_this a_votes a_choices v_base v_favoured v_standing v_winners v_lead v_fewest) (w_X0_winners cB cI cJ a_this a_votes a_choices v_base v_favoured v_standing v_winners v_lead v_fewest) r := by
  refine MTi.of (cc := cX0_winners) (nL := 1) (rt := .int) (own := RX0) pn_X0 rfl rfl (Nat.le_of_ble_eq_true rfl) rfl ?_
  intro p e s m args below meth c A ls Q C hP hD hS hl hret
  obtain ⟨hx, hb, hml, hts, hown, hK, hN, hA, hlk⟩ := id C
  have hl : lv_has ls 1 [(0, .ref a_this)] := hl
  unfold f_X0_winners at hf
  refine lv_aload_n hx hb dX0_winners_0 rfl (lv_at hl 0 rfl) ?_
  refine va_get (D := D) (ci := 0) (v := .int v_winners) (C := RX0) (T := TX0) (N := 8) hx hb hts in_X0_winners_X0 hown hK hP 0 rfl rfl 5 (by decide) (hts (.fieldLink RX0 33 "HangingCards$Mixtures" "winners" "I") (List.mem_of_getElem? (i := 1) rfl)) (fun _ h9 => h9) rfl dX0_winners_1 ?_
  exact hret _ _ _ _ _ _ dX0_winners_4 (wk_rt hf (fun z => z)) rfl hP hD hS
abbrev w_X0_lead (cB cI cJ : ClassId) (a_this : Nat) (a_votes : Nat) (a_choices : Nat) (v_base : Int32) (v_favoured : Int32) (v_standing : Int32) (v_winners : Int32) (v_lead : Int32) (v_fewest : Int32) : va_W := [(a_this, .inr (0, [.ref a_votes, .ref a_choices, .int v_base, .int v_favoured, .int v_standing, .int v_winners, .int v_lead, .int v_fewest]))]
theorem hd_X0_lead : yX0_lead.cls = RX0 ∧ yX0_lead.cls ≠ "java/lang/invoke/MethodHandle" ∧ yX0_lead.cls ≠ "java/lang/invoke/VarHandle" ∧ (parseMethodDescriptor yX0_lead.desc).map (fun d => d.parameters.length) = some 0 := by decide +kernel
abbrev rm_X0_lead : Room := { frames := 0, cells := 0, slots := 0, locals := 0 }
theorem in_X0_lead_X0 : ∀ w ∈ wsX00, w ∈ wsX0_lead := fun w h => List.mem_cons_of_mem _ (List.mem_append_right _ h)
set_option maxHeartbeats 4000000 in
set_option maxRecDepth 100000 in
theorem c_X0_lead (l : Launch) (D : va_G) (cB cI cJ : ClassId) (N : Nat) (a_this : Nat) (a_votes : Nat) (a_choices : Nat) (v_base : Int32) (v_favoured : Int32) (v_standing : Int32) (v_winners : Int32) (v_lead : Int32) (v_fewest : Int32) {r : Int32} (hf : f_X0_lead N v_lead = some r) : MTi l yX0_lead wsX0_lead rm_X0_lead D (wk_T cB cI cJ) [.ref a_this] (w_X0_lead cB cI cJ a_this a_votes a_choices v_base v_favoured v_standing v_winners v_lead v_fewest) (w_X0_lead cB cI cJ a_this a_votes a_choices v_base v_favoured v_standing v_winners v_lead v_fewest) r := by
  refine MTi.of (cc := cX0_lead) (nL := 1) (rt := .int) (own := RX0) pn_X0 rfl rfl (Nat.le_of_ble_eq_true rfl) rfl ?_
  intro p e s m args below meth c A ls Q C hP hD hS hl hret
  obtain ⟨hx, hb, hml, hts, hown, hK, hN, hA, hlk⟩ := id C
  have hl : lv_has ls 1 [(0, .ref a_this)] := hl
  unfold f_X0_lead at hf
  refine lv_aload_n hx hb dX0_lead_0 rfl (lv_at hl 0 rfl) ?_
  refine va_get (D := D) (ci := 0) (v := .int v_lead) (C := RX0) (T := TX0) (N := 8) hx hb hts in_X0_lead_X0 hown hK hP 0 rfl rfl 6 (by decide) (hts (.fieldLink RX0 36 "HangingCards$Mixtures" "lead" "I") (List.mem_of_getElem? (i := 1) rfl)) (fun _ h9 => h9) rfl dX0_lead_1 ?_
  exact hret _ _ _ _ _ _ dX0_lead_4 (wk_rt hf (fun z => z)) rfl hP hD hS
abbrev w_X0_fewest (cB cI cJ : ClassId) (a_this : Nat) (a_votes : Nat) (a_choices : Nat) (v_base : Int32) (v_favoured : Int32) (v_standing : Int32) (v_winners : Int32) (v_lead : Int32) (v_fewest : Int32) : va_W := [(a_this, .inr (0, [.ref a_votes, .ref a_choices, .int v_base, .int v_favoured, .int v_standing, .int v_winners, .int v_lead, .int v_fewest]))]
theorem hd_X0_fewest : yX0_fewest.cls = RX0 ∧ yX0_fewest.cls ≠ "java/lang/invoke/MethodHandle" ∧ yX0_fewest.cls ≠ "java/lang/invoke/VarHandle" ∧ (parseMethodDescriptor yX0_fewest.desc).map (fun d => d.parameters.length) = some 0 := by decide +kernel
abbrev rm_X0_fewest : Room := { frames := 0, cells := 0, slots := 0, locals := 0 }
theorem in_X0_fewest_X0 : ∀ w ∈ wsX00, w ∈ wsX0_fewest := fun w h => List.mem_cons_of_mem _ (List.mem_append_right _ h)
set_option maxHeartbeats 4000000 in
set_option maxRecDepth 100000 in
theorem c_X0_fewest (l : Launch) (D : va_G) (cB cI cJ : ClassId) (N : Nat) (a_this : Nat) (a_votes : Nat) (a_choices : Nat) (v_base : Int32) (v_favoured : Int32) (v_standing : Int32) (v_winners : Int32) (v_lead : Int32) (v_fewest : Int32) {r : Int32} (hf : f_X0_fewest N v_fewest = some r) : MTi l yX0_fewest wsX0_fewest rm_X0_fewest D (wk_T cB cI cJ) [.ref a_this] (w_X0_fewest cB cI cJ a_this a_votes a_choices v_base v_favoured v_standing v_winners v_lead v_fewest) (w_X0_fewest cB cI cJ a_this a_votes a_choices v_base v_favoured v_standing v_winners v_lead v_fewest) r := by
  refine MTi.of (cc := cX0_fewest) (nL := 1) (rt := .int) (own := RX0) pn_X0 rfl rfl (Nat.le_of_ble_eq_true rfl) rfl ?_
  intro p e s m args below meth c A ls Q C hP hD hS hl hret
  obtain ⟨hx, hb, hml, hts, hown, hK, hN, hA, hlk⟩ := id C
  have hl : lv_has ls 1 [(0, .ref a_this)] := hl
  unfold f_X0_fewest at hf
  refine lv_aload_n hx hb dX0_fewest_0 rfl (lv_at hl 0 rfl) ?_
  refine va_get (D := D) (ci := 0) (v := .int v_fewest) (C := RX0) (T := TX0) (N := 8) hx hb hts in_X0_fewest_X0 hown hK hP 0 rfl rfl 7 (by decide) (hts (.fieldLink RX0 39 "HangingCards$Mixtures" "fewest" "I") (List.mem_of_getElem? (i := 1) rfl)) (fun _ h9 => h9) rfl dX0_fewest_1 ?_
  exact hret _ _ _ _ _ _ dX0_fewest_4 (wk_rt hf (fun z => z)) rfl hP hD hS
abbrev w_X0_winnerBy (cB cI cJ : ClassId) (a_this : Nat) (a_votes : Nat) (a_choices : Nat) (a_votes_cells : Nat) (v_base : Int32) (v_favoured : Int32) (v_standing : Int32) (v_winners : Int32) (v_lead : Int32) (v_fewest : Int32) (v_votes : Nat → Int32) : va_W := [(a_this, .inr (0, [.ref a_votes, .ref a_choices, .int v_base, .int v_favoured, .int v_standing, .int v_winners, .int v_lead, .int v_fewest])), (a_votes, .inr (6, [.ref a_votes_cells])), (a_votes_cells, .inl (cI, 25, .inl v_votes))]
theorem hd_X0_winnerBy : yX0_winnerBy.cls = RX0 ∧ yX0_winnerBy.cls ≠ "java/lang/invoke/MethodHandle" ∧ yX0_winnerBy.cls ≠ "java/lang/invoke/VarHandle" ∧ (parseMethodDescriptor yX0_winnerBy.desc).map (fun d => d.parameters.length) = some 1 := by decide +kernel
abbrev rm_X0_winnerBy : Room := { frames := 3, cells := 0, slots := 0, locals := 65 }
theorem in_X0_winnerBy_X0 : ∀ w ∈ wsX00, w ∈ wsX0_winnerBy := fun w h => List.mem_cons_of_mem _ (List.mem_append_left _ (List.mem_append_right _ h))
set_option maxHeartbeats 4000000 in
set_option maxRecDepth 100000 in
theorem c_X0_winnerBy (l : Launch) (D : va_G) (cB cI cJ : ClassId) (N : Nat) (a_this : Nat) (a_votes : Nat) (a_choices : Nat) (a_votes_cells : Nat) (v_base : Int32) (v_favoured : Int32) (v_standing : Int32) (v_winners : Int32) (v_lead : Int32) (v_fewest : Int32) (v_votes : Nat → Int32) (x1 : Int32) {r : Int32} (hf : f_X0_winnerBy N v_votes x1 = some r) : MTi l yX0_winnerBy wsX0_winnerBy rm_X0_winnerBy D (wk_T cB cI cJ) [.ref a_this, .int x1] (w_X0_winnerBy cB cI cJ a_this a_votes a_choices a_votes_cells v_base v_favoured v_standing v_winners v_lead v_fewest v_votes) (w_X0_winnerBy cB cI cJ a_this a_votes a_choices a_votes_cells v_base v_favoured v_standing v_winners v_lead v_fewest v_votes) r := by
  refine MTi.of (cc := cX0_winnerBy) (nL := 4) (rt := .int) (own := RX0) pn_X0 rfl rfl (Nat.le_of_ble_eq_true rfl) rfl ?_
  intro p e s m args below meth c A ls Q C hP hD hS hl hret
  obtain ⟨hx, hb, hml, hts, hown, hK, hN, hA, hlk⟩ := id C
  have hl : lv_has ls 4 [(0, .ref a_this), (1, .int x1)] := hl
  have L4 := wk_loopI (F := (fun k4 : Int32 → Int32 → Int32 → Option Int32 => B_X0_winnerBy_4 N v_votes k4)) (bot := fun _ _ _ => none) (fun k4 : Int32 → Int32 → Int32 → Option Int32 => ∀ (x1 : Int32) (x2 : Int32) (x3 : Int32), k4 x1 x2 x3 = some r → ∀ (H : Heap) (locs : List Loc) (ls : Array Slot), va_P D vwCl (w_X0_winnerBy cB cI cJ a_this a_votes a_choices a_votes_cells v_base v_favoured v_standing v_winners v_lead v_fewest v_votes) H → va_D A (w_X0_winnerBy cB cI cJ a_this a_votes a_choices a_votes_cells v_base v_favoured v_standing v_winners v_lead v_fewest v_votes) → va_S A s.heap H locs → lv_has ls 4 [(0, .ref a_this), (1, .int x1), (2, .int x2), (3, .int x3)] → W p l e rm_X0_winnerBy s m args below meth c H locs 0 0 Q (F0 m 4 ls [])) (by intro x1 x2 x3 hf; exact wk_no hf) (by
    intro k4 ih4
    intro x1 x2 x3 hf H locs ls hP hD hS hl
    have hf : B_X0_winnerBy_4 N v_votes k4 x1 x2 x3 = some r := hf
    unfold B_X0_winnerBy_4 at hf
    refine lv_iload_n hx hb dX0_winnerBy_4 rfl (lv_at hl 3 rfl) ?_
    refine lv_iconst (v := (5 : Int32)) hx hb dX0_winnerBy_5 (by decide) ?_
    refine lv_icmp_ge (tgt := 30) hx hb dX0_winnerBy_6 (by decide) (fun c1 => ?_) (fun c1 => ?_)
    · have hf := wk_itT hf c1
      refine lv_iload_n hx hb dX0_winnerBy_30 rfl (lv_at hl 2 rfl) ?_
      obtain ⟨r2, hc2, hf⟩ := wk_b1E hf
      refine wk_callNi2 C hP hD hS (c_X10_winnerOf l D cB cI cJ N x2 hc2) ⟨va_cnB 1 hts gX0_winnerBy_X10_winnerOf_n62 rfl rfl rfl hN.2.1 (hts (.initialized RX10) (List.mem_of_getElem? (i := 13) rfl)) hd_X10_winnerOf.2 ⟨Nat.le_of_ble_eq_true rfl, Nat.le_of_ble_eq_true rfl⟩, (hts (.static yX10_winnerOf) (List.mem_of_getElem? (i := 12) rfl)), trivial⟩ hl.1 ⟨Nat.zero_le _, Nat.zero_le _⟩ [] [0, 1, 2] 3 (by decide +kernel) rfl (Wn := w_X0_winnerBy cB cI cJ a_this a_votes a_choices a_votes_cells v_base v_favoured v_standing v_winners v_lead v_fewest v_votes) rfl rfl rfl rfl rfl rfl rfl rfl (Nat.le_of_ble_eq_true rfl) dX0_winnerBy_31 (fun H locs hP hD hS => ?_)
      exact hret _ _ _ _ _ _ dX0_winnerBy_34 (wk_rt hf (fun z => z)) rfl hP hD hS
    · have hf := wk_itF hf c1
      refine lv_iload_n hx hb dX0_winnerBy_9 rfl (lv_at hl 2 rfl) ?_
      refine lv_aload_n hx hb dX0_winnerBy_10 rfl (lv_at hl 0 rfl) ?_
      refine va_get (D := D) (ci := 0) (v := .ref a_votes) (C := RX0) (T := TX0) (N := 8) hx hb hts in_X0_winnerBy_X0 hown hK hP 0 rfl rfl 0 (by decide) (hts (.fieldLink RX0 14 "HangingCards$Mixtures" "votes" "LHangingCards$Row;") (List.mem_of_getElem? (i := 1) rfl)) (fun _ h9 => h9) rfl dX0_winnerBy_11 ?_
      refine lv_iload_n hx hb dX0_winnerBy_14 rfl (lv_at hl 3 rfl) ?_
      refine lv_iload_n hx hb dX0_winnerBy_15 rfl (lv_at hl 1 rfl) ?_
      obtain ⟨r3, hc3, hf⟩ := wk_b1E hf
      refine wk_callSi2 C hP hD hS (c_X0_place l D cB cI cJ N x3 x1 hc3) (va_cwS 2 hts gX0_winnerBy_X0_place rfl rfl rfl hd_X0_place.2 ⟨Nat.le_of_ble_eq_true rfl, Nat.le_of_ble_eq_true rfl⟩) hl.1 ⟨Nat.zero_le _, Nat.zero_le _⟩ [] [0, 1, 2] 3 (by decide +kernel) rfl (Wn := w_X0_winnerBy cB cI cJ a_this a_votes a_choices a_votes_cells v_base v_favoured v_standing v_winners v_lead v_fewest v_votes) rfl rfl rfl rfl rfl rfl rfl rfl (Nat.le_of_ble_eq_true rfl) dX0_winnerBy_16 (fun H locs hP hD hS => ?_)
      obtain ⟨r4, hc4, hf⟩ := wk_b1E hf
      refine wk_callVi2 C hP hD hS (c_X6_get l D cB cI cJ N a_votes a_votes_cells 25 v_votes r3 hc4) (cwV 1 hts gX0_winnerBy_X6_get rfl rfl rfl hd_X6_get ⟨Nat.le_of_ble_eq_true rfl, Nat.le_of_ble_eq_true rfl⟩) hl.1 ⟨Nat.zero_le _, Nat.zero_le _⟩ [1, 2] [0] 3 (by decide +kernel) rfl (Wn := w_X0_winnerBy cB cI cJ a_this a_votes a_choices a_votes_cells v_base v_favoured v_standing v_winners v_lead v_fewest v_votes) rfl rfl rfl rfl rfl rfl (ci := 6) rfl rfl (q0 := 1) rfl rfl rfl (Nat.le_of_ble_eq_true rfl) dX0_winnerBy_19 (fun H locs hP hD hS => ?_)
      refine lv_iadd hx hb dX0_winnerBy_22 ?_
      refine lv_topi (fun y5 ey5 => ?_)
      have hf := wk_nmE hf ey5
      refine lv_istore_n (lv' := [(2, .int y5), (0, .ref a_this), (1, .int x1), (3, .int x3)]) hx hb dX0_winnerBy_23 rfl hl (by decide) rfl (fun ls hl => ?_)
      obtain ⟨y6, ey6⟩ : ∃ y : Int32, y = x3 + (1 : Int32) := ⟨_, rfl⟩
      have hf := wk_nmE hf ey6
      refine lv_iinc (v := y6) (lv' := [(3, .int y6), (2, .int y5), (0, .ref a_this), (1, .int x1)]) hx hb dX0_winnerBy_24 hl (k := 3) rfl (by rw [ey6]; rfl) (by decide) rfl (fun ls hl => ?_)
      refine lv_goto (tgt := 4) hx hb dX0_winnerBy_27 (by decide) ?_
      exact ih4 _ _ _ hf _ _ _ hP hD hS (lv_sub hl [2, 3, 1, 0] rfl))
  unfold f_X0_winnerBy at hf
  refine lv_iconst (v := (0 : Int32)) hx hb dX0_winnerBy_0 (by decide) ?_
  refine lv_istore_n (lv' := [(2, .int (0 : Int32)), (0, .ref a_this), (1, .int x1)]) hx hb dX0_winnerBy_1 rfl hl (by decide) rfl (fun ls hl => ?_)
  refine lv_iconst (v := (0 : Int32)) hx hb dX0_winnerBy_2 (by decide) ?_
  refine lv_istore_n (lv' := [(3, .int (0 : Int32)), (2, .int (0 : Int32)), (0, .ref a_this), (1, .int x1)]) hx hb dX0_winnerBy_3 rfl hl (by decide) rfl (fun ls hl => ?_)
  exact L4 N _ _ _ hf _ _ _ hP hD hS (lv_sub hl [2, 3, 1, 0] rfl)
abbrev w_X0_isCountedAlready (cB cI cJ : ClassId) (a_this : Nat) (a_votes : Nat) (a_choices : Nat) (a_votes_cells : Nat) (v_base : Int32) (v_favoured : Int32) (v_standing : Int32) (v_winners : Int32) (v_lead : Int32) (v_fewest : Int32) (v_votes : Nat → Int32) : va_W := [(a_this, .inr (0, [.ref a_votes, .ref a_choices, .int v_base, .int v_favoured, .int v_standing, .int v_winners, .int v_lead, .int v_fewest])), (a_votes, .inr (6, [.ref a_votes_cells])), (a_votes_cells, .inl (cI, 25, .inl v_votes))]
theorem hd_X0_isCountedAlready : yX0_isCountedAlready.cls = RX0 ∧ yX0_isCountedAlready.cls ≠ "java/lang/invoke/MethodHandle" ∧ yX0_isCountedAlready.cls ≠ "java/lang/invoke/VarHandle" ∧ (parseMethodDescriptor yX0_isCountedAlready.desc).map (fun d => d.parameters.length) = some 3 := by decide +kernel
abbrev rm_X0_isCountedAlready : Room := { frames := 1, cells := 0, slots := 0, locals := 21 }
theorem in_X0_isCountedAlready_X0 : ∀ w ∈ wsX00, w ∈ wsX0_isCountedAlready := fun w h => List.mem_cons_of_mem _ (List.mem_append_left _ (List.mem_append_right _ h))
set_option maxHeartbeats 4000000 in
set_option maxRecDepth 100000 in
theorem c_X0_isCountedAlready (l : Launch) (D : va_G) (cB cI cJ : ClassId) (N : Nat) (a_this : Nat) (a_votes : Nat) (a_choices : Nat) (a_votes_cells : Nat) (v_base : Int32) (v_favoured : Int32) (v_standing : Int32) (v_winners : Int32) (v_lead : Int32) (v_fewest : Int32) (v_votes : Nat → Int32) (x1 : Int32) (x2 : Int32) (x3 : Int32) {r : Bool} (hf : f_X0_isCountedAlready N v_votes x1 x2 x3 = some r) : MTi l yX0_isCountedAlready wsX0_isCountedAlready rm_X0_isCountedAlready D (wk_T cB cI cJ) [.ref a_this, .int x1, .int x2, .int x3] (w_X0_isCountedAlready cB cI cJ a_this a_votes a_choices a_votes_cells v_base v_favoured v_standing v_winners v_lead v_fewest v_votes) (w_X0_isCountedAlready cB cI cJ a_this a_votes a_choices a_votes_cells v_base v_favoured v_standing v_winners v_lead v_fewest v_votes) (wk_bI r) := by
  refine MTi.of (cc := cX0_isCountedAlready) (nL := 6) (rt := .boolean) (own := RX0) pn_X0 rfl rfl (Nat.le_of_ble_eq_true rfl) (wk_nz r) ?_
  intro p e s m args below meth c A ls Q C hP hD hS hl hret
  obtain ⟨hx, hb, hml, hts, hown, hK, hN, hA, hlk⟩ := id C
  have hl : lv_has ls 6 [(0, .ref a_this), (1, .int x1), (2, .int x2), (3, .int x3)] := hl
  have L3 := wk_loopI (F := (fun k3 : Int32 → Int32 → Int32 → Int32 → Option Bool => B_X0_isCountedAlready_3 N v_votes k3)) (bot := fun _ _ _ _ => none) (fun k3 : Int32 → Int32 → Int32 → Int32 → Option Bool => ∀ (x1 : Int32) (x2 : Int32) (x3 : Int32) (x4 : Int32), k3 x1 x2 x3 x4 = some r → ∀ (H : Heap) (locs : List Loc) (ls : Array Slot), va_P D vwCl (w_X0_isCountedAlready cB cI cJ a_this a_votes a_choices a_votes_cells v_base v_favoured v_standing v_winners v_lead v_fewest v_votes) H → va_D A (w_X0_isCountedAlready cB cI cJ a_this a_votes a_choices a_votes_cells v_base v_favoured v_standing v_winners v_lead v_fewest v_votes) → va_S A s.heap H locs → lv_has ls 6 [(0, .ref a_this), (1, .int x1), (2, .int x2), (3, .int x3), (4, .int x4)] → W p l e rm_X0_isCountedAlready s m args below meth c H locs 0 0 Q (F0 m 3 ls [])) (by intro x1 x2 x3 x4 hf; exact wk_no hf) (by
    intro k3 ih3
    have J42 : ∀ (x1 : Int32) (x2 : Int32) (x3 : Int32) (x4 : Int32) (s0 : Int32), B_X0_isCountedAlready_42 N v_votes k3 x1 x2 x3 x4 s0 = some r → ∀ (H : Heap) (locs : List Loc) (ls : Array Slot), va_P D vwCl (w_X0_isCountedAlready cB cI cJ a_this a_votes a_choices a_votes_cells v_base v_favoured v_standing v_winners v_lead v_fewest v_votes) H → va_D A (w_X0_isCountedAlready cB cI cJ a_this a_votes a_choices a_votes_cells v_base v_favoured v_standing v_winners v_lead v_fewest v_votes) → va_S A s.heap H locs → lv_has ls 6 [(0, .ref a_this), (1, .int x1), (2, .int x2), (3, .int x3), (4, .int x4)] → W p l e rm_X0_isCountedAlready s m args below meth c H locs 0 0 Q (F0 m 42 ls [.int s0]) := by
      intro x1 x2 x3 x4 s0 hf H locs ls hP hD hS hl
      unfold B_X0_isCountedAlready_42 at hf
      refine lv_istore (lv' := [(5, .int s0), (0, .ref a_this), (1, .int x1), (2, .int x2), (3, .int x3), (4, .int x4)]) hx hb dX0_isCountedAlready_42 hl (by decide) rfl (fun ls hl => ?_)
      refine lv_iload hx hb dX0_isCountedAlready_44 (lv_at hl 0 rfl) ?_
      refine lv_if_eq (tgt := 62) hx hb dX0_isCountedAlready_46 (by decide) (fun c1 => ?_) (fun c1 => ?_)
      · have hf := wk_itT hf c1
        obtain ⟨y2, ey2⟩ : ∃ y : Int32, y = x4 + (1 : Int32) := ⟨_, rfl⟩
        have hf := wk_nmE hf ey2
        refine lv_iinc (v := y2) (lv' := [(4, .int y2), (5, .int s0), (0, .ref a_this), (1, .int x1), (2, .int x2), (3, .int x3)]) hx hb dX0_isCountedAlready_62 hl (k := 5) rfl (by rw [ey2]; rfl) (by decide) rfl (fun ls hl => ?_)
        refine lv_goto (tgt := 3) hx hb dX0_isCountedAlready_65 (by decide) ?_
        exact ih3 _ _ _ _ hf _ _ _ hP hD hS (lv_sub hl [2, 3, 4, 5, 0] rfl)
      · have hf := wk_itF hf c1
        refine lv_iload_n hx hb dX0_isCountedAlready_49 rfl (lv_at hl 4 rfl) ?_
        refine lv_iload hx hb dX0_isCountedAlready_50 (lv_at hl 5 rfl) ?_
        refine lv_iconst (v := (1 : Int32)) hx hb dX0_isCountedAlready_52 (by decide) ?_
        refine lv_isub hx hb dX0_isCountedAlready_53 ?_
        obtain ⟨r3, hc3, hf⟩ := wk_b1E hf
        refine wk_callNi2 C hP hD hS (c_X10_hasBit l D cB cI cJ N x3 (x4 - (1 : Int32)) hc3) ⟨va_cnB 2 hts gX0_isCountedAlready_X10_hasBit_n75 rfl rfl rfl hN.2.2.1 (hts (.initialized RX10) (List.mem_of_getElem? (i := 13) rfl)) hd_X10_hasBit.2 ⟨Nat.le_of_ble_eq_true rfl, Nat.le_of_ble_eq_true rfl⟩, (hts (.static yX10_hasBit) (List.mem_of_getElem? (i := 12) rfl)), trivial⟩ hl.1 ⟨Nat.zero_le _, Nat.zero_le _⟩ [] [0, 1, 2] 3 (by decide +kernel) rfl (Wn := w_X0_isCountedAlready cB cI cJ a_this a_votes a_choices a_votes_cells v_base v_favoured v_standing v_winners v_lead v_fewest v_votes) rfl rfl rfl rfl rfl rfl rfl rfl (Nat.le_of_ble_eq_true rfl) dX0_isCountedAlready_54 (fun H locs hP hD hS => ?_)
        refine lv_if_eq (tgt := 62) hx hb dX0_isCountedAlready_57 (by decide) (fun c4 => ?_) (fun c4 => ?_)
        · have hf := wk_itT hf c4
          obtain ⟨y5, ey5⟩ : ∃ y : Int32, y = x4 + (1 : Int32) := ⟨_, rfl⟩
          have hf := wk_nmE hf ey5
          refine lv_iinc (v := y5) (lv' := [(4, .int y5), (5, .int s0), (0, .ref a_this), (1, .int x1), (2, .int x2), (3, .int x3)]) hx hb dX0_isCountedAlready_62 hl (k := 5) rfl (by rw [ey5]; rfl) (by decide) rfl (fun ls hl => ?_)
          refine lv_goto (tgt := 3) hx hb dX0_isCountedAlready_65 (by decide) ?_
          exact ih3 _ _ _ _ hf _ _ _ hP hD hS (lv_sub hl [2, 3, 4, 5, 0] rfl)
        · have hf := wk_itF hf c4
          refine lv_iconst (v := (1 : Int32)) hx hb dX0_isCountedAlready_60 (by decide) ?_
          exact hret _ _ _ _ _ _ dX0_isCountedAlready_61 (wk_rt hf (fun z => wk_bI z)) rfl hP hD hS
    intro x1 x2 x3 x4 hf H locs ls hP hD hS hl
    have hf : B_X0_isCountedAlready_3 N v_votes k3 x1 x2 x3 x4 = some r := hf
    unfold B_X0_isCountedAlready_3 at hf
    refine lv_iload hx hb dX0_isCountedAlready_3 (lv_at hl 4 rfl) ?_
    refine lv_iconst (v := (5 : Int32)) hx hb dX0_isCountedAlready_5 (by decide) ?_
    refine lv_icmp_gt (tgt := 68) hx hb dX0_isCountedAlready_6 (by decide) (fun c6 => ?_) (fun c6 => ?_)
    · have hf := wk_itT hf c6
      refine lv_iconst (v := (0 : Int32)) hx hb dX0_isCountedAlready_68 (by decide) ?_
      exact hret _ _ _ _ _ _ dX0_isCountedAlready_69 (wk_rt hf (fun z => wk_bI z)) rfl hP hD hS
    · have hf := wk_itF hf c6
      refine lv_aload_n hx hb dX0_isCountedAlready_9 rfl (lv_at hl 0 rfl) ?_
      refine va_get (D := D) (ci := 0) (v := .ref a_votes) (C := RX0) (T := TX0) (N := 8) hx hb hts in_X0_isCountedAlready_X0 hown hK hP 0 rfl rfl 0 (by decide) (hts (.fieldLink RX0 14 "HangingCards$Mixtures" "votes" "LHangingCards$Row;") (List.mem_of_getElem? (i := 1) rfl)) (fun _ h9 => h9) rfl dX0_isCountedAlready_10 ?_
      refine lv_iload_n hx hb dX0_isCountedAlready_13 rfl (lv_at hl 1 rfl) ?_
      refine lv_iload_n hx hb dX0_isCountedAlready_14 rfl (lv_at hl 2 rfl) ?_
      obtain ⟨r7, hc7, hf⟩ := wk_b1E hf
      refine wk_callSi2 C hP hD hS (c_X0_place l D cB cI cJ N x1 x2 hc7) (va_cwS 2 hts gX0_isCountedAlready_X0_place rfl rfl rfl hd_X0_place.2 ⟨Nat.le_of_ble_eq_true rfl, Nat.le_of_ble_eq_true rfl⟩) hl.1 ⟨Nat.zero_le _, Nat.zero_le _⟩ [] [0, 1, 2] 3 (by decide +kernel) rfl (Wn := w_X0_isCountedAlready cB cI cJ a_this a_votes a_choices a_votes_cells v_base v_favoured v_standing v_winners v_lead v_fewest v_votes) rfl rfl rfl rfl rfl rfl rfl rfl (Nat.le_of_ble_eq_true rfl) dX0_isCountedAlready_15 (fun H locs hP hD hS => ?_)
      obtain ⟨r8, hc8, hf⟩ := wk_b1E hf
      refine wk_callVi2 C hP hD hS (c_X6_get l D cB cI cJ N a_votes a_votes_cells 25 v_votes r7 hc8) (cwV 1 hts gX0_isCountedAlready_X6_get rfl rfl rfl hd_X6_get ⟨Nat.le_of_ble_eq_true rfl, Nat.le_of_ble_eq_true rfl⟩) hl.1 ⟨Nat.zero_le _, Nat.zero_le _⟩ [1, 2] [0] 3 (by decide +kernel) rfl (Wn := w_X0_isCountedAlready cB cI cJ a_this a_votes a_choices a_votes_cells v_base v_favoured v_standing v_winners v_lead v_fewest v_votes) rfl rfl rfl rfl rfl rfl (ci := 6) rfl rfl (q0 := 1) rfl rfl rfl (Nat.le_of_ble_eq_true rfl) dX0_isCountedAlready_18 (fun H locs hP hD hS => ?_)
      refine lv_aload_n hx hb dX0_isCountedAlready_21 rfl (lv_at hl 0 rfl) ?_
      refine va_get (D := D) (ci := 0) (v := .ref a_votes) (C := RX0) (T := TX0) (N := 8) hx hb hts in_X0_isCountedAlready_X0 hown hK hP 0 rfl rfl 0 (by decide) (hts (.fieldLink RX0 14 "HangingCards$Mixtures" "votes" "LHangingCards$Row;") (List.mem_of_getElem? (i := 1) rfl)) (fun _ h9 => h9) rfl dX0_isCountedAlready_22 ?_
      refine lv_iload_n hx hb dX0_isCountedAlready_25 rfl (lv_at hl 1 rfl) ?_
      refine lv_iload hx hb dX0_isCountedAlready_26 (lv_at hl 4 rfl) ?_
      obtain ⟨r9, hc9, hf⟩ := wk_b1E hf
      refine wk_callSi2 C hP hD hS (c_X0_place l D cB cI cJ N x1 x4 hc9) (va_cwS 2 hts gX0_isCountedAlready_X0_place rfl rfl rfl hd_X0_place.2 ⟨Nat.le_of_ble_eq_true rfl, Nat.le_of_ble_eq_true rfl⟩) hl.1 ⟨Nat.zero_le _, Nat.zero_le _⟩ [] [0, 1, 2] 3 (by decide +kernel) rfl (Wn := w_X0_isCountedAlready cB cI cJ a_this a_votes a_choices a_votes_cells v_base v_favoured v_standing v_winners v_lead v_fewest v_votes) rfl rfl rfl rfl rfl rfl rfl rfl (Nat.le_of_ble_eq_true rfl) dX0_isCountedAlready_28 (fun H locs hP hD hS => ?_)
      obtain ⟨r10, hc10, hf⟩ := wk_b1E hf
      refine wk_callVi2 C hP hD hS (c_X6_get l D cB cI cJ N a_votes a_votes_cells 25 v_votes r9 hc10) (cwV 1 hts gX0_isCountedAlready_X6_get rfl rfl rfl hd_X6_get ⟨Nat.le_of_ble_eq_true rfl, Nat.le_of_ble_eq_true rfl⟩) hl.1 ⟨Nat.zero_le _, Nat.zero_le _⟩ [1, 2] [0] 3 (by decide +kernel) rfl (Wn := w_X0_isCountedAlready cB cI cJ a_this a_votes a_choices a_votes_cells v_base v_favoured v_standing v_winners v_lead v_fewest v_votes) rfl rfl rfl rfl rfl rfl (ci := 6) rfl rfl (q0 := 1) rfl rfl rfl (Nat.le_of_ble_eq_true rfl) dX0_isCountedAlready_31 (fun H locs hP hD hS => ?_)
      refine lv_icmp_ne (tgt := 41) hx hb dX0_isCountedAlready_34 (by decide) (fun c11 => ?_) (fun c11 => ?_)
      · have hf := wk_itF hf c11
        refine lv_iconst (v := (0 : Int32)) hx hb dX0_isCountedAlready_41 (by decide) ?_
        exact J42 _ _ _ _ _ hf _ _ _ hP hD hS (lv_sub hl [0, 1, 2, 3, 4] rfl)
      · have hf := wk_itT hf c11
        refine lv_iconst (v := (1 : Int32)) hx hb dX0_isCountedAlready_37 (by decide) ?_
        refine lv_goto (tgt := 42) hx hb dX0_isCountedAlready_38 (by decide) ?_
        exact J42 _ _ _ _ _ hf _ _ _ hP hD hS (lv_sub hl [0, 1, 2, 3, 4] rfl))
  unfold f_X0_isCountedAlready at hf
  refine lv_iconst (v := (1 : Int32)) hx hb dX0_isCountedAlready_0 (by decide) ?_
  refine lv_istore (lv' := [(4, .int (1 : Int32)), (0, .ref a_this), (1, .int x1), (2, .int x2), (3, .int x3)]) hx hb dX0_isCountedAlready_1 hl (by decide) rfl (fun ls hl => ?_)
  exact L3 N _ _ _ _ hf _ _ _ hP hD hS (lv_sub hl [1, 2, 3, 4, 0] rfl)
abbrev w_X0_unlikeChoices (cB cI cJ : ClassId) (a_this : Nat) (a_votes : Nat) (a_choices : Nat) (a_votes_cells : Nat) (v_base : Int32) (v_favoured : Int32) (v_standing : Int32) (v_winners : Int32) (v_lead : Int32) (v_fewest : Int32) (v_votes : Nat → Int32) : va_W := [(a_this, .inr (0, [.ref a_votes, .ref a_choices, .int v_base, .int v_favoured, .int v_standing, .int v_winners, .int v_lead, .int v_fewest])), (a_votes, .inr (6, [.ref a_votes_cells])), (a_votes_cells, .inl (cI, 25, .inl v_votes))]
theorem hd_X0_unlikeChoices : yX0_unlikeChoices.cls = RX0 ∧ yX0_unlikeChoices.cls ≠ "java/lang/invoke/MethodHandle" ∧ yX0_unlikeChoices.cls ≠ "java/lang/invoke/VarHandle" ∧ (parseMethodDescriptor yX0_unlikeChoices.desc).map (fun d => d.parameters.length) = some 2 := by decide +kernel
abbrev rm_X0_unlikeChoices : Room := { frames := 2, cells := 0, slots := 0, locals := 46 }
theorem in_X0_unlikeChoices_X0 : ∀ w ∈ wsX00, w ∈ wsX0_unlikeChoices := fun w h => List.mem_cons_of_mem _ (List.mem_append_left _ (List.mem_append_right _ h))
set_option maxHeartbeats 4000000 in
set_option maxRecDepth 100000 in
theorem c_X0_unlikeChoices (l : Launch) (D : va_G) (cB cI cJ : ClassId) (N : Nat) (a_this : Nat) (a_votes : Nat) (a_choices : Nat) (a_votes_cells : Nat) (v_base : Int32) (v_favoured : Int32) (v_standing : Int32) (v_winners : Int32) (v_lead : Int32) (v_fewest : Int32) (v_votes : Nat → Int32) (x1 : Int32) (x2 : Int32) {r : Int32} (hf : f_X0_unlikeChoices N v_base v_votes x1 x2 = some r) : MTi l yX0_unlikeChoices wsX0_unlikeChoices rm_X0_unlikeChoices D (wk_T cB cI cJ) [.ref a_this, .int x1, .int x2] (w_X0_unlikeChoices cB cI cJ a_this a_votes a_choices a_votes_cells v_base v_favoured v_standing v_winners v_lead v_fewest v_votes) (w_X0_unlikeChoices cB cI cJ a_this a_votes a_choices a_votes_cells v_base v_favoured v_standing v_winners v_lead v_fewest v_votes) r := by
  refine MTi.of (cc := cX0_unlikeChoices) (nL := 5) (rt := .int) (own := RX0) pn_X0 rfl rfl (Nat.le_of_ble_eq_true rfl) rfl ?_
  intro p e s m args below meth c A ls Q C hP hD hS hl hret
  obtain ⟨hx, hb, hml, hts, hown, hK, hN, hA, hlk⟩ := id C
  have hl : lv_has ls 5 [(0, .ref a_this), (1, .int x1), (2, .int x2)] := hl
  have L23 := wk_loopI (F := (fun k23 : Int32 → Int32 → Int32 → Int32 → Option Int32 => B_X0_unlikeChoices_23 N v_base v_votes k23)) (bot := fun _ _ _ _ => none) (fun k23 : Int32 → Int32 → Int32 → Int32 → Option Int32 => ∀ (x1 : Int32) (x2 : Int32) (x3 : Int32) (x4 : Int32), k23 x1 x2 x3 x4 = some r → ∀ (H : Heap) (locs : List Loc) (ls : Array Slot), va_P D vwCl (w_X0_unlikeChoices cB cI cJ a_this a_votes a_choices a_votes_cells v_base v_favoured v_standing v_winners v_lead v_fewest v_votes) H → va_D A (w_X0_unlikeChoices cB cI cJ a_this a_votes a_choices a_votes_cells v_base v_favoured v_standing v_winners v_lead v_fewest v_votes) → va_S A s.heap H locs → lv_has ls 5 [(0, .ref a_this), (1, .int x1), (2, .int x2), (3, .int x3), (4, .int x4)] → W p l e rm_X0_unlikeChoices s m args below meth c H locs 0 0 Q (F0 m 23 ls [])) (by intro x1 x2 x3 x4 hf; exact wk_no hf) (by
    intro k23 ih23
    intro x1 x2 x3 x4 hf H locs ls hP hD hS hl
    have hf : B_X0_unlikeChoices_23 N v_base v_votes k23 x1 x2 x3 x4 = some r := hf
    unfold B_X0_unlikeChoices_23 at hf
    refine lv_iload hx hb dX0_unlikeChoices_23 (lv_at hl 4 rfl) ?_
    refine lv_iconst (v := (5 : Int32)) hx hb dX0_unlikeChoices_25 (by decide) ?_
    refine lv_icmp_gt (tgt := 66) hx hb dX0_unlikeChoices_26 (by decide) (fun c1 => ?_) (fun c1 => ?_)
    · have hf := wk_itT hf c1
      refine lv_iload_n hx hb dX0_unlikeChoices_66 rfl (lv_at hl 3 rfl) ?_
      exact hret _ _ _ _ _ _ dX0_unlikeChoices_67 (wk_rt hf (fun z => z)) rfl hP hD hS
    · have hf := wk_itF hf c1
      refine lv_iload_n hx hb dX0_unlikeChoices_29 rfl (lv_at hl 2 rfl) ?_
      refine lv_iload hx hb dX0_unlikeChoices_30 (lv_at hl 4 rfl) ?_
      refine lv_iconst (v := (1 : Int32)) hx hb dX0_unlikeChoices_32 (by decide) ?_
      refine lv_isub hx hb dX0_unlikeChoices_33 ?_
      obtain ⟨r2, hc2, hf⟩ := wk_b1E hf
      refine wk_callNi2 C hP hD hS (c_X10_hasBit l D cB cI cJ N x2 (x4 - (1 : Int32)) hc2) ⟨va_cnB 2 hts gX0_unlikeChoices_X10_hasBit_n75 rfl rfl rfl hN.2.2.1 (hts (.initialized RX10) (List.mem_of_getElem? (i := 3) rfl)) hd_X10_hasBit.2 ⟨Nat.le_of_ble_eq_true rfl, Nat.le_of_ble_eq_true rfl⟩, (hts (.static yX10_hasBit) (List.mem_of_getElem? (i := 2) rfl)), trivial⟩ hl.1 ⟨Nat.zero_le _, Nat.zero_le _⟩ [] [0, 1, 2] 3 (by decide +kernel) rfl (Wn := w_X0_unlikeChoices cB cI cJ a_this a_votes a_choices a_votes_cells v_base v_favoured v_standing v_winners v_lead v_fewest v_votes) rfl rfl rfl rfl rfl rfl rfl rfl (Nat.le_of_ble_eq_true rfl) dX0_unlikeChoices_34 (fun H locs hP hD hS => ?_)
      refine lv_if_eq (tgt := 60) hx hb dX0_unlikeChoices_37 (by decide) (fun c3 => ?_) (fun c3 => ?_)
      · have hf := wk_itT hf c3
        obtain ⟨y4, ey4⟩ : ∃ y : Int32, y = x4 + (1 : Int32) := ⟨_, rfl⟩
        have hf := wk_nmE hf ey4
        refine lv_iinc (v := y4) (lv' := [(4, .int y4), (0, .ref a_this), (1, .int x1), (2, .int x2), (3, .int x3)]) hx hb dX0_unlikeChoices_60 hl (k := 4) rfl (by rw [ey4]; rfl) (by decide) rfl (fun ls hl => ?_)
        refine lv_goto (tgt := 23) hx hb dX0_unlikeChoices_63 (by decide) ?_
        exact ih23 _ _ _ _ hf _ _ _ hP hD hS (lv_sub hl [1, 2, 3, 4, 0] rfl)
      · have hf := wk_itF hf c3
        refine lv_aload_n hx hb dX0_unlikeChoices_40 rfl (lv_at hl 0 rfl) ?_
        refine lv_iload_n hx hb dX0_unlikeChoices_41 rfl (lv_at hl 1 rfl) ?_
        refine lv_iload hx hb dX0_unlikeChoices_42 (lv_at hl 4 rfl) ?_
        refine lv_iload_n hx hb dX0_unlikeChoices_44 rfl (lv_at hl 3 rfl) ?_
        obtain ⟨r5, hc5, hf⟩ := wk_b1E hf
        refine wk_callVi2 C hP hD hS (c_X0_isCountedAlready l D cB cI cJ N a_this a_votes a_choices a_votes_cells v_base v_favoured v_standing v_winners v_lead v_fewest v_votes x1 x4 x3 hc5) (cwV 3 hts gX0_unlikeChoices_X0_isCountedAlready rfl rfl rfl hd_X0_isCountedAlready ⟨Nat.le_of_ble_eq_true rfl, Nat.le_of_ble_eq_true rfl⟩) hl.1 ⟨Nat.zero_le _, Nat.zero_le _⟩ [0, 1, 2] [] 3 (by decide +kernel) rfl (Wn := w_X0_unlikeChoices cB cI cJ a_this a_votes a_choices a_votes_cells v_base v_favoured v_standing v_winners v_lead v_fewest v_votes) rfl rfl rfl rfl rfl rfl (ci := 0) rfl rfl (q0 := 0) rfl rfl rfl (Nat.le_of_ble_eq_true rfl) dX0_unlikeChoices_45 (fun H locs hP hD hS => ?_)
        refine lv_if_ne (tgt := 60) hx hb dX0_unlikeChoices_48 (by decide) (fun c6 => ?_) (fun c6 => ?_)
        · have hf := wk_itF hf c6
          obtain ⟨y7, ey7⟩ : ∃ y : Int32, y = x4 + (1 : Int32) := ⟨_, rfl⟩
          have hf := wk_nmE hf ey7
          refine lv_iinc (v := y7) (lv' := [(4, .int y7), (0, .ref a_this), (1, .int x1), (2, .int x2), (3, .int x3)]) hx hb dX0_unlikeChoices_60 hl (k := 4) rfl (by rw [ey7]; rfl) (by decide) rfl (fun ls hl => ?_)
          refine lv_goto (tgt := 23) hx hb dX0_unlikeChoices_63 (by decide) ?_
          exact ih23 _ _ _ _ hf _ _ _ hP hD hS (lv_sub hl [1, 2, 3, 4, 0] rfl)
        · have hf := wk_itT hf c6
          refine lv_iload_n hx hb dX0_unlikeChoices_51 rfl (lv_at hl 3 rfl) ?_
          refine lv_iconst (v := (1 : Int32)) hx hb dX0_unlikeChoices_52 (by decide) ?_
          refine lv_iload hx hb dX0_unlikeChoices_53 (lv_at hl 4 rfl) ?_
          refine lv_iconst (v := (1 : Int32)) hx hb dX0_unlikeChoices_55 (by decide) ?_
          refine lv_isub hx hb dX0_unlikeChoices_56 ?_
          refine lv_ishl hx hb dX0_unlikeChoices_57 ?_
          refine lv_ior hx hb dX0_unlikeChoices_58 ?_
          refine lv_topi (fun y8 ey8 => ?_)
          have hf := wk_nmE hf ey8
          refine lv_istore_n (lv' := [(3, .int y8), (0, .ref a_this), (1, .int x1), (2, .int x2), (4, .int x4)]) hx hb dX0_unlikeChoices_59 rfl hl (by decide) rfl (fun ls hl => ?_)
          obtain ⟨y9, ey9⟩ : ∃ y : Int32, y = x4 + (1 : Int32) := ⟨_, rfl⟩
          have hf := wk_nmE hf ey9
          refine lv_iinc (v := y9) (lv' := [(4, .int y9), (3, .int y8), (0, .ref a_this), (1, .int x1), (2, .int x2)]) hx hb dX0_unlikeChoices_60 hl (k := 4) rfl (by rw [ey9]; rfl) (by decide) rfl (fun ls hl => ?_)
          refine lv_goto (tgt := 23) hx hb dX0_unlikeChoices_63 (by decide) ?_
          exact ih23 _ _ _ _ hf _ _ _ hP hD hS (lv_sub hl [2, 3, 4, 1, 0] rfl))
  unfold f_X0_unlikeChoices at hf
  refine lv_aload_n hx hb dX0_unlikeChoices_0 rfl (lv_at hl 0 rfl) ?_
  refine va_get (D := D) (ci := 0) (v := .int v_base) (C := RX0) (T := TX0) (N := 8) hx hb hts in_X0_unlikeChoices_X0 hown hK hP 0 rfl rfl 2 (by decide) (hts (.fieldLink RX0 23 "HangingCards$Mixtures" "base" "I") (List.mem_of_getElem? (i := 1) rfl)) (fun _ h9 => h9) rfl dX0_unlikeChoices_1 ?_
  refine lv_if_ne (tgt := 11) hx hb dX0_unlikeChoices_4 (by decide) (fun c10 => ?_) (fun c10 => ?_)
  · have hf := wk_itF hf c10
    refine lv_iconst (v := (1 : Int32)) hx hb dX0_unlikeChoices_11 (by decide) ?_
    refine lv_aload_n hx hb dX0_unlikeChoices_12 rfl (lv_at hl 0 rfl) ?_
    refine va_get (D := D) (ci := 0) (v := .int v_base) (C := RX0) (T := TX0) (N := 8) hx hb hts in_X0_unlikeChoices_X0 hown hK hP 0 rfl rfl 2 (by decide) (hts (.fieldLink RX0 23 "HangingCards$Mixtures" "base" "I") (List.mem_of_getElem? (i := 1) rfl)) (fun _ h9 => h9) rfl dX0_unlikeChoices_13 ?_
    refine lv_iconst (v := (1 : Int32)) hx hb dX0_unlikeChoices_16 (by decide) ?_
    refine lv_isub hx hb dX0_unlikeChoices_17 ?_
    refine lv_ishl hx hb dX0_unlikeChoices_18 ?_
    refine lv_topi (fun y11 ey11 => ?_)
    have hf := wk_nmE hf ey11
    refine lv_istore_n (lv' := [(3, .int y11), (0, .ref a_this), (1, .int x1), (2, .int x2)]) hx hb dX0_unlikeChoices_19 rfl hl (by decide) rfl (fun ls hl => ?_)
    refine lv_iconst (v := (1 : Int32)) hx hb dX0_unlikeChoices_20 (by decide) ?_
    refine lv_istore (lv' := [(4, .int (1 : Int32)), (3, .int y11), (0, .ref a_this), (1, .int x1), (2, .int x2)]) hx hb dX0_unlikeChoices_21 hl (by decide) rfl (fun ls hl => ?_)
    exact L23 N _ _ _ _ hf _ _ _ hP hD hS (lv_sub hl [2, 3, 4, 1, 0] rfl)
  · have hf := wk_itT hf c10
    refine lv_iconst (v := (0 : Int32)) hx hb dX0_unlikeChoices_7 (by decide) ?_
    refine lv_goto (tgt := 19) hx hb dX0_unlikeChoices_8 (by decide) ?_
    refine lv_istore_n (lv' := [(3, .int (0 : Int32)), (0, .ref a_this), (1, .int x1), (2, .int x2)]) hx hb dX0_unlikeChoices_19 rfl hl (by decide) rfl (fun ls hl => ?_)
    refine lv_iconst (v := (1 : Int32)) hx hb dX0_unlikeChoices_20 (by decide) ?_
    refine lv_istore (lv' := [(4, .int (1 : Int32)), (3, .int (0 : Int32)), (0, .ref a_this), (1, .int x1), (2, .int x2)]) hx hb dX0_unlikeChoices_21 hl (by decide) rfl (fun ls hl => ?_)
    exact L23 N _ _ _ _ hf _ _ _ hP hD hS (lv_sub hl [2, 3, 4, 1, 0] rfl)
abbrev w_X0_isFewer (cB cI cJ : ClassId) (a_this : Nat) (a_votes : Nat) (a_choices : Nat) (v_base : Int32) (v_favoured : Int32) (v_standing : Int32) (v_winners : Int32) (v_lead : Int32) (v_fewest : Int32) : va_W := [(a_this, .inr (0, [.ref a_votes, .ref a_choices, .int v_base, .int v_favoured, .int v_standing, .int v_winners, .int v_lead, .int v_fewest]))]
theorem hd_X0_isFewer : yX0_isFewer.cls = RX0 ∧ yX0_isFewer.cls ≠ "java/lang/invoke/MethodHandle" ∧ yX0_isFewer.cls ≠ "java/lang/invoke/VarHandle" ∧ (parseMethodDescriptor yX0_isFewer.desc).map (fun d => d.parameters.length) = some 1 := by decide +kernel
abbrev rm_X0_isFewer : Room := { frames := 1, cells := 0, slots := 0, locals := 20 }
theorem in_X0_isFewer_X0 : ∀ w ∈ wsX00, w ∈ wsX0_isFewer := fun w h => List.mem_cons_of_mem _ (List.mem_append_right _ h)
set_option maxHeartbeats 4000000 in
set_option maxRecDepth 100000 in
theorem c_X0_isFewer (l : Launch) (D : va_G) (cB cI cJ : ClassId) (N : Nat) (a_this : Nat) (a_votes : Nat) (a_choices : Nat) (v_base : Int32) (v_favoured : Int32) (v_standing : Int32) (v_winners : Int32) (v_lead : Int32) (v_fewest : Int32) (x1 : Int32) {r : Bool} (hf : f_X0_isFewer N v_fewest x1 = some r) : MTi l yX0_isFewer wsX0_isFewer rm_X0_isFewer D (wk_T cB cI cJ) [.ref a_this, .int x1] (w_X0_isFewer cB cI cJ a_this a_votes a_choices v_base v_favoured v_standing v_winners v_lead v_fewest) (w_X0_isFewer cB cI cJ a_this a_votes a_choices v_base v_favoured v_standing v_winners v_lead v_fewest) (wk_bI r) := by
  refine MTi.of (cc := cX0_isFewer) (nL := 3) (rt := .boolean) (own := RX0) pn_X0 rfl rfl (Nat.le_of_ble_eq_true rfl) (wk_nz r) ?_
  intro p e s m args below meth c A ls Q C hP hD hS hl hret
  obtain ⟨hx, hb, hml, hts, hown, hK, hN, hA, hlk⟩ := id C
  have hl : lv_has ls 3 [(0, .ref a_this), (1, .int x1)] := hl
  unfold f_X0_isFewer at hf
  refine lv_aload_n hx hb dX0_isFewer_0 rfl (lv_at hl 0 rfl) ?_
  refine va_get (D := D) (ci := 0) (v := .int v_fewest) (C := RX0) (T := TX0) (N := 8) hx hb hts in_X0_isFewer_X0 hown hK hP 0 rfl rfl 7 (by decide) (hts (.fieldLink RX0 39 "HangingCards$Mixtures" "fewest" "I") (List.mem_of_getElem? (i := 1) rfl)) (fun _ h9 => h9) rfl dX0_isFewer_1 ?_
  refine lv_bipush (v := (-4 : Int32)) hx hb dX0_isFewer_4 (by decide) ?_
  refine lv_icmp_ne (tgt := 11) hx hb dX0_isFewer_6 (by decide) (fun c1 => ?_) (fun c1 => ?_)
  · have hf := wk_itF hf c1
    refine lv_iload_n hx hb dX0_isFewer_11 rfl (lv_at hl 1 rfl) ?_
    obtain ⟨r2, hc2, hf⟩ := wk_b1E hf
    refine wk_callSi2 C hP hD hS (c_J6_bitCount_0f7a4 l D cB cI cJ N x1 hc2) (va_cwS 1 hts gX0_isFewer_J6_bitCount_0f7a4 rfl rfl rfl hd_J6_bitCount_0f7a4.2 ⟨Nat.le_of_ble_eq_true rfl, Nat.le_of_ble_eq_true rfl⟩) hl.1 ⟨Nat.zero_le _, Nat.zero_le _⟩ [] [0] 1 (by decide +kernel) rfl (Wn := w_X0_isFewer cB cI cJ a_this a_votes a_choices v_base v_favoured v_standing v_winners v_lead v_fewest) rfl rfl rfl rfl rfl rfl rfl rfl (Nat.le_of_ble_eq_true rfl) dX0_isFewer_12 (fun H locs hP hD hS => ?_)
    refine lv_aload_n hx hb dX0_isFewer_15 rfl (lv_at hl 0 rfl) ?_
    refine va_get (D := D) (ci := 0) (v := .int v_fewest) (C := RX0) (T := TX0) (N := 8) hx hb hts in_X0_isFewer_X0 hown hK hP 0 rfl rfl 7 (by decide) (hts (.fieldLink RX0 39 "HangingCards$Mixtures" "fewest" "I") (List.mem_of_getElem? (i := 1) rfl)) (fun _ h9 => h9) rfl dX0_isFewer_16 ?_
    obtain ⟨r3, hc3, hf⟩ := wk_b1E hf
    refine wk_callSi2 C hP hD hS (c_J6_bitCount_0f7a4 l D cB cI cJ N v_fewest hc3) (va_cwS 1 hts gX0_isFewer_J6_bitCount_0f7a4 rfl rfl rfl hd_J6_bitCount_0f7a4.2 ⟨Nat.le_of_ble_eq_true rfl, Nat.le_of_ble_eq_true rfl⟩) hl.1 ⟨Nat.zero_le _, Nat.zero_le _⟩ [] [0] 1 (by decide +kernel) rfl (Wn := w_X0_isFewer cB cI cJ a_this a_votes a_choices v_base v_favoured v_standing v_winners v_lead v_fewest) rfl rfl rfl rfl rfl rfl rfl rfl (Nat.le_of_ble_eq_true rfl) dX0_isFewer_19 (fun H locs hP hD hS => ?_)
    refine lv_isub hx hb dX0_isFewer_22 ?_
    refine lv_topi (fun y4 ey4 => ?_)
    have hf := wk_nmE hf ey4
    refine lv_istore_n (lv' := [(2, .int y4), (0, .ref a_this), (1, .int x1)]) hx hb dX0_isFewer_23 rfl hl (by decide) rfl (fun ls hl => ?_)
    refine lv_iload_n hx hb dX0_isFewer_24 rfl (lv_at hl 0 rfl) ?_
    refine lv_if_lt (tgt := 40) hx hb dX0_isFewer_25 (by decide) (fun c5 => ?_) (fun c5 => ?_)
    · have hf := wk_itT hf c5
      refine lv_iconst (v := (1 : Int32)) hx hb dX0_isFewer_40 (by decide) ?_
      refine lv_goto (tgt := 45) hx hb dX0_isFewer_41 (by decide) ?_
      exact hret _ _ _ _ _ _ dX0_isFewer_45 (wk_rt hf (fun z => wk_bI z)) rfl hP hD hS
    · have hf := wk_itF hf c5
      refine lv_iload_n hx hb dX0_isFewer_28 rfl (lv_at hl 0 rfl) ?_
      refine lv_if_ne (tgt := 44) hx hb dX0_isFewer_29 (by decide) (fun c6 => ?_) (fun c6 => ?_)
      · have hf := wk_itF hf c6
        refine lv_iconst (v := (0 : Int32)) hx hb dX0_isFewer_44 (by decide) ?_
        exact hret _ _ _ _ _ _ dX0_isFewer_45 (wk_rt hf (fun z => wk_bI z)) rfl hP hD hS
      · have hf := wk_itT hf c6
        refine lv_iload_n hx hb dX0_isFewer_32 rfl (lv_at hl 2 rfl) ?_
        refine lv_aload_n hx hb dX0_isFewer_33 rfl (lv_at hl 1 rfl) ?_
        refine va_get (D := D) (ci := 0) (v := .int v_fewest) (C := RX0) (T := TX0) (N := 8) hx hb hts in_X0_isFewer_X0 hown hK hP 0 rfl rfl 7 (by decide) (hts (.fieldLink RX0 39 "HangingCards$Mixtures" "fewest" "I") (List.mem_of_getElem? (i := 1) rfl)) (fun _ h9 => h9) rfl dX0_isFewer_34 ?_
        refine lv_icmp_ge (tgt := 44) hx hb dX0_isFewer_37 (by decide) (fun c7 => ?_) (fun c7 => ?_)
        · have hf := wk_itT hf c7
          refine lv_iconst (v := (0 : Int32)) hx hb dX0_isFewer_44 (by decide) ?_
          exact hret _ _ _ _ _ _ dX0_isFewer_45 (wk_rt hf (fun z => wk_bI z)) rfl hP hD hS
        · have hf := wk_itF hf c7
          refine lv_iconst (v := (1 : Int32)) hx hb dX0_isFewer_40 (by decide) ?_
          refine lv_goto (tgt := 45) hx hb dX0_isFewer_41 (by decide) ?_
          exact hret _ _ _ _ _ _ dX0_isFewer_45 (wk_rt hf (fun z => wk_bI z)) rfl hP hD hS
  · have hf := wk_itT hf c1
    refine lv_iconst (v := (1 : Int32)) hx hb dX0_isFewer_9 (by decide) ?_
    exact hret _ _ _ _ _ _ dX0_isFewer_10 (wk_rt hf (fun z => wk_bI z)) rfl hP hD hS
abbrev w_X0_weigh (cB cI cJ : ClassId) (a_this : Nat) (a_votes : Nat) (a_choices : Nat) (v_base : Int32) (v_favoured : Int32) (v_standing : Int32) (v_winners : Int32) (v_lead : Int32) (v_fewest : Int32) : va_W := [(a_this, .inr (0, [.ref a_votes, .ref a_choices, .int v_base, .int v_favoured, .int v_standing, .int v_winners, .int v_lead, .int v_fewest]))]
theorem hd_X0_weigh : yX0_weigh.cls = RX0 ∧ yX0_weigh.cls ≠ "java/lang/invoke/MethodHandle" ∧ yX0_weigh.cls ≠ "java/lang/invoke/VarHandle" ∧ (parseMethodDescriptor yX0_weigh.desc).map (fun d => d.parameters.length) = some 2 := by decide +kernel
abbrev rm_X0_weigh : Room := { frames := 3, cells := 0, slots := 0, locals := 65 }
theorem in_X0_weigh_X0 : ∀ w ∈ wsX00, w ∈ wsX0_weigh := fun w h => List.mem_cons_of_mem _ (List.mem_append_right _ h)
set_option maxHeartbeats 4000000 in
set_option maxRecDepth 100000 in
theorem c_X0_weigh (l : Launch) (D : va_G) (cB cI cJ : ClassId) (N : Nat) (a_this : Nat) (a_votes : Nat) (a_choices : Nat) (v_base : Int32) (v_favoured : Int32) (v_standing : Int32) (v_winners : Int32) (v_lead : Int32) (v_fewest : Int32) (x1 : Int32) (x2 : Int32) {o_winners : Int32} {o_lead : Int32} {o_fewest : Int32} (hf : f_X0_weigh N v_favoured v_standing v_winners v_lead v_fewest x1 x2 = some (o_winners, o_lead, o_fewest)) : MTv l yX0_weigh wsX0_weigh rm_X0_weigh D (wk_T cB cI cJ) [.ref a_this, .int x1, .int x2] (w_X0_weigh cB cI cJ a_this a_votes a_choices v_base v_favoured v_standing v_winners v_lead v_fewest) (w_X0_weigh cB cI cJ a_this a_votes a_choices v_base v_favoured v_standing o_winners o_lead o_fewest) := by
  refine MTv.of (cc := cX0_weigh) (nL := 4) (own := RX0) pn_X0 rfl rfl (Nat.le_of_ble_eq_true rfl) ?_
  intro p e s m args below meth c A ls Q C hP hD hS hl hret
  obtain ⟨hx, hb, hml, hts, hown, hK, hN, hA, hlk⟩ := id C
  have hl : lv_has ls 4 [(0, .ref a_this), (1, .int x1), (2, .int x2)] := hl
  unfold f_X0_weigh at hf
  refine lv_aload_n hx hb dX0_weigh_0 rfl (lv_at hl 0 rfl) ?_
  refine lv_aload_n hx hb dX0_weigh_1 rfl (lv_at hl 0 rfl) ?_
  refine va_get (D := D) (ci := 0) (v := .int v_lead) (C := RX0) (T := TX0) (N := 8) hx hb hts in_X0_weigh_X0 hown hK hP 0 rfl rfl 6 (by decide) (hts (.fieldLink RX0 36 "HangingCards$Mixtures" "lead" "I") (List.mem_of_getElem? (i := 1) rfl)) (fun _ h9 => h9) rfl dX0_weigh_2 ?_
  refine lv_aload_n hx hb dX0_weigh_5 rfl (lv_at hl 0 rfl) ?_
  refine va_get (D := D) (ci := 0) (v := .int v_favoured) (C := RX0) (T := TX0) (N := 8) hx hb hts in_X0_weigh_X0 hown hK hP 0 rfl rfl 3 (by decide) (hts (.fieldLink RX0 27 "HangingCards$Mixtures" "favoured" "I") (List.mem_of_getElem? (i := 2) rfl)) (fun _ h9 => h9) rfl dX0_weigh_6 ?_
  refine lv_iload_n hx hb dX0_weigh_9 rfl (lv_at hl 2 rfl) ?_
  obtain ⟨r1, hc1, hf⟩ := wk_b1E hf
  refine wk_callNi2 C hP hD hS (c_X10_leadOf l D cB cI cJ N v_favoured x2 hc1) ⟨va_cnB 2 hts gX0_weigh_X10_leadOf_n86 rfl rfl rfl hN.2.2.2.1 (hts (.initialized RX10) (List.mem_of_getElem? (i := 11) rfl)) hd_X10_leadOf.2 ⟨Nat.le_of_ble_eq_true rfl, Nat.le_of_ble_eq_true rfl⟩, (hts (.static yX10_leadOf) (List.mem_of_getElem? (i := 10) rfl)), trivial⟩ hl.1 ⟨Nat.zero_le _, Nat.zero_le _⟩ [] [0] 1 (by decide +kernel) rfl (Wn := w_X0_weigh cB cI cJ a_this a_votes a_choices v_base v_favoured v_standing v_winners v_lead v_fewest) rfl rfl rfl rfl rfl rfl rfl rfl (Nat.le_of_ble_eq_true rfl) dX0_weigh_10 (fun H locs hP hD hS => ?_)
  refine va_mmax hx hb (hml.trans hl.1.symm) hown (hts (.methodLink RX0 89 Lib.Math.max.name) (List.mem_of_getElem? (i := 3) rfl)) (hts (.static Lib.Math.max.name) (List.mem_of_getElem? (i := 4) rfl)) (hts (.initialized "java/lang/Math") (List.mem_of_getElem? (i := 5) rfl)) (hts (.code Lib.Math.max.name Lib.Math.max.code 2 (some .int)) (List.mem_of_getElem? (i := 6) rfl)) (Nat.le_of_ble_eq_true rfl) (Nat.le_of_ble_eq_true rfl) (Nat.zero_le _) (Nat.zero_le _) dX0_weigh_13 ?_
  refine va_put (D := D) (ci := 0) (v := .int (if v_lead < r1 then r1 else v_lead)) (ty := .int) (C := RX0) (T := TX0) (N := 8) hx hb hts in_X0_weigh_X0 tyX0 tyX0_ok nmX0 hown hK hP hD hS 0 rfl rfl 6 (by decide) (hts (.fieldLink RX0 36 "HangingCards$Mixtures" "lead" "I") (List.mem_of_getElem? (i := 1) rfl)) (fun _ h9 => h9) rfl (by decide +kernel) rfl rfl (Nat.le_of_ble_eq_true rfl) dX0_weigh_16 (fun H locs hP hD hS => ?_)
  have hP : va_P D vwCl (w_X0_weigh cB cI cJ a_this a_votes a_choices v_base v_favoured v_standing v_winners (if v_lead < r1 then r1 else v_lead) v_fewest) H := hP
  have hD : va_D A (w_X0_weigh cB cI cJ a_this a_votes a_choices v_base v_favoured v_standing v_winners (if v_lead < r1 then r1 else v_lead) v_fewest) := hD
  refine lv_iload_n hx hb dX0_weigh_19 rfl (lv_at hl 2 rfl) ?_
  obtain ⟨r2, hc2, hf⟩ := wk_b1E hf
  refine wk_callNi2 C hP hD hS (c_X10_winnerOf l D cB cI cJ N x2 hc2) ⟨va_cnB 1 hts gX0_weigh_X10_winnerOf_n62 rfl rfl rfl hN.2.1 (hts (.initialized RX10) (List.mem_of_getElem? (i := 11) rfl)) hd_X10_winnerOf.2 ⟨Nat.le_of_ble_eq_true rfl, Nat.le_of_ble_eq_true rfl⟩, (hts (.static yX10_winnerOf) (List.mem_of_getElem? (i := 17) rfl)), trivial⟩ hl.1 ⟨Nat.zero_le _, Nat.zero_le _⟩ [] [0] 1 (by decide +kernel) rfl (Wn := w_X0_weigh cB cI cJ a_this a_votes a_choices v_base v_favoured v_standing v_winners (if v_lead < r1 then r1 else v_lead) v_fewest) rfl rfl rfl rfl rfl rfl rfl rfl (Nat.le_of_ble_eq_true rfl) dX0_weigh_20 (fun H locs hP hD hS => ?_)
  refine lv_istore_n (lv' := [(3, .int r2), (0, .ref a_this), (1, .int x1), (2, .int x2)]) hx hb dX0_weigh_23 rfl hl (by decide) rfl (fun ls hl => ?_)
  refine lv_iload_n hx hb dX0_weigh_24 rfl (lv_at hl 0 rfl) ?_
  refine lv_bipush (v := (-4 : Int32)) hx hb dX0_weigh_25 (by decide) ?_
  refine lv_icmp_ne (tgt := 31) hx hb dX0_weigh_27 (by decide) (fun c3 => ?_) (fun c3 => ?_)
  · have hf := wk_itF hf c3
    refine lv_aload_n hx hb dX0_weigh_31 rfl (lv_at hl 1 rfl) ?_
    refine lv_dup hx hb dX0_weigh_32 rfl ?_
    refine va_get (D := D) (ci := 0) (v := .int v_winners) (C := RX0) (T := TX0) (N := 8) hx hb hts in_X0_weigh_X0 hown hK hP 0 rfl rfl 5 (by decide) (hts (.fieldLink RX0 33 "HangingCards$Mixtures" "winners" "I") (List.mem_of_getElem? (i := 7) rfl)) (fun _ h9 => h9) rfl dX0_weigh_33 ?_
    refine lv_iconst (v := (1 : Int32)) hx hb dX0_weigh_36 (by decide) ?_
    refine lv_iload_n hx hb dX0_weigh_37 rfl (lv_at hl 0 rfl) ?_
    refine lv_ishl hx hb dX0_weigh_38 ?_
    refine lv_ior hx hb dX0_weigh_39 ?_
    refine va_put (D := D) (ci := 0) (v := .int (v_winners ||| ((1 : Int32) <<< (r2 &&& 31)))) (ty := .int) (C := RX0) (T := TX0) (N := 8) hx hb hts in_X0_weigh_X0 tyX0 tyX0_ok nmX0 hown hK hP hD hS 0 rfl rfl 5 (by decide) (hts (.fieldLink RX0 33 "HangingCards$Mixtures" "winners" "I") (List.mem_of_getElem? (i := 7) rfl)) (fun _ h9 => h9) rfl (by decide +kernel) rfl rfl (Nat.le_of_ble_eq_true rfl) dX0_weigh_40 (fun H locs hP hD hS => ?_)
    have hP : va_P D vwCl (w_X0_weigh cB cI cJ a_this a_votes a_choices v_base v_favoured v_standing (v_winners ||| ((1 : Int32) <<< (r2 &&& 31))) (if v_lead < r1 then r1 else v_lead) v_fewest) H := hP
    have hD : va_D A (w_X0_weigh cB cI cJ a_this a_votes a_choices v_base v_favoured v_standing (v_winners ||| ((1 : Int32) <<< (r2 &&& 31))) (if v_lead < r1 then r1 else v_lead) v_fewest) := hD
    refine lv_iload_n hx hb dX0_weigh_43 rfl (lv_at hl 0 rfl) ?_
    refine lv_aload_n hx hb dX0_weigh_44 rfl (lv_at hl 1 rfl) ?_
    refine va_get (D := D) (ci := 0) (v := .int v_standing) (C := RX0) (T := TX0) (N := 8) hx hb hts in_X0_weigh_X0 hown hK hP 0 rfl rfl 4 (by decide) (hts (.fieldLink RX0 30 "HangingCards$Mixtures" "standing" "I") (List.mem_of_getElem? (i := 8) rfl)) (fun _ h9 => h9) rfl dX0_weigh_45 ?_
    refine lv_icmp_eq (tgt := 64) hx hb dX0_weigh_48 (by decide) (fun c4 => ?_) (fun c4 => ?_)
    · have hf := wk_itT hf c4
      exact hret _ _ _ _ _ dX0_weigh_64 (wk_rt hf (fun z => w_X0_weigh cB cI cJ a_this a_votes a_choices v_base v_favoured v_standing (z.1) (z.2.1) (z.2.2))) hP hD hS
    · have hf := wk_itF hf c4
      refine lv_aload_n hx hb dX0_weigh_51 rfl (lv_at hl 1 rfl) ?_
      refine lv_iload_n hx hb dX0_weigh_52 rfl (lv_at hl 2 rfl) ?_
      obtain ⟨r5, hc5, hf⟩ := wk_b1E hf
      refine wk_callVi2 C hP hD hS (c_X0_isFewer l D cB cI cJ N a_this a_votes a_choices v_base v_favoured v_standing (v_winners ||| ((1 : Int32) <<< (r2 &&& 31))) (if v_lead < r1 then r1 else v_lead) v_fewest x1 hc5) (cwV 1 hts gX0_weigh_X0_isFewer rfl rfl rfl hd_X0_isFewer ⟨Nat.le_of_ble_eq_true rfl, Nat.le_of_ble_eq_true rfl⟩) hl.1 ⟨Nat.zero_le _, Nat.zero_le _⟩ [0] [] 1 (by decide +kernel) rfl (Wn := w_X0_weigh cB cI cJ a_this a_votes a_choices v_base v_favoured v_standing (v_winners ||| ((1 : Int32) <<< (r2 &&& 31))) (if v_lead < r1 then r1 else v_lead) v_fewest) rfl rfl rfl rfl rfl rfl (ci := 0) rfl rfl (q0 := 0) rfl rfl rfl (Nat.le_of_ble_eq_true rfl) dX0_weigh_53 (fun H locs hP hD hS => ?_)
      refine lv_if_eq (tgt := 64) hx hb dX0_weigh_56 (by decide) (fun c6 => ?_) (fun c6 => ?_)
      · have hf := wk_itT hf c6
        exact hret _ _ _ _ _ dX0_weigh_64 (wk_rt hf (fun z => w_X0_weigh cB cI cJ a_this a_votes a_choices v_base v_favoured v_standing (z.1) (z.2.1) (z.2.2))) hP hD hS
      · have hf := wk_itF hf c6
        refine lv_aload_n hx hb dX0_weigh_59 rfl (lv_at hl 1 rfl) ?_
        refine lv_iload_n hx hb dX0_weigh_60 rfl (lv_at hl 2 rfl) ?_
        refine va_put (D := D) (ci := 0) (v := .int x1) (ty := .int) (C := RX0) (T := TX0) (N := 8) hx hb hts in_X0_weigh_X0 tyX0 tyX0_ok nmX0 hown hK hP hD hS 0 rfl rfl 7 (by decide) (hts (.fieldLink RX0 39 "HangingCards$Mixtures" "fewest" "I") (List.mem_of_getElem? (i := 9) rfl)) (fun _ h9 => h9) rfl (by decide +kernel) rfl rfl (Nat.le_of_ble_eq_true rfl) dX0_weigh_61 (fun H locs hP hD hS => ?_)
        have hP : va_P D vwCl (w_X0_weigh cB cI cJ a_this a_votes a_choices v_base v_favoured v_standing (v_winners ||| ((1 : Int32) <<< (r2 &&& 31))) (if v_lead < r1 then r1 else v_lead) x1) H := hP
        have hD : va_D A (w_X0_weigh cB cI cJ a_this a_votes a_choices v_base v_favoured v_standing (v_winners ||| ((1 : Int32) <<< (r2 &&& 31))) (if v_lead < r1 then r1 else v_lead) x1) := hD
        exact hret _ _ _ _ _ dX0_weigh_64 (wk_rt hf (fun z => w_X0_weigh cB cI cJ a_this a_votes a_choices v_base v_favoured v_standing (z.1) (z.2.1) (z.2.2))) hP hD hS
  · have hf := wk_itT hf c3
    exact hret _ _ _ _ _ dX0_weigh_30 (wk_rt hf (fun z => w_X0_weigh cB cI cJ a_this a_votes a_choices v_base v_favoured v_standing (z.1) (z.2.1) (z.2.2))) hP hD hS
abbrev w_X0_mix (cB cI cJ : ClassId) (a_this : Nat) (a_votes : Nat) (a_choices : Nat) (a_choices_cells : Nat) (a_votes_cells : Nat) (v_base : Int32) (v_favoured : Int32) (v_standing : Int32) (v_winners : Int32) (v_lead : Int32) (v_fewest : Int32) (v_choices : Nat → Int32) (v_votes : Nat → Int32) : va_W := [(a_this, .inr (0, [.ref a_votes, .ref a_choices, .int v_base, .int v_favoured, .int v_standing, .int v_winners, .int v_lead, .int v_fewest])), (a_choices, .inr (6, [.ref a_choices_cells])), (a_choices_cells, .inl (cI, 5, .inl v_choices)), (a_votes, .inr (6, [.ref a_votes_cells])), (a_votes_cells, .inl (cI, 25, .inl v_votes))]
theorem hd_X0_mix : yX0_mix.cls = RX0 ∧ yX0_mix.cls ≠ "java/lang/invoke/MethodHandle" ∧ yX0_mix.cls ≠ "java/lang/invoke/VarHandle" ∧ (parseMethodDescriptor yX0_mix.desc).map (fun d => d.parameters.length) = some 3 := by decide +kernel
abbrev rm_X0_mix_0 : Room := { frames := 4, cells := 0, slots := 0, locals := 88 }
theorem in_X0_mix_X0 : ∀ w ∈ wsX00, w ∈ wsX0_mix := fun w h => List.mem_cons_of_mem _ (List.mem_append_left _ (List.mem_append_right _ h))
set_option maxHeartbeats 4000000 in
set_option maxRecDepth 100000 in
theorem c_X0_mix_0 (l : Launch) (D : va_G) (cB cI cJ : ClassId) (N : Nat) (a_this : Nat) (a_votes : Nat) (a_choices : Nat) (a_choices_cells : Nat) (a_votes_cells : Nat) (v_base : Int32) (v_favoured : Int32) (v_standing : Int32) (v_winners : Int32) (v_lead : Int32) (v_fewest : Int32) (v_choices : Nat → Int32) (v_votes : Nat → Int32) (x1 : Int32) (x2 : Int32) (x3 : Int32) {o_winners : Int32} {o_lead : Int32} {o_fewest : Int32} (hf : f_X0_mix N 0 v_base v_favoured v_standing v_choices v_votes v_winners v_lead v_fewest x1 x2 x3 = some (o_winners, o_lead, o_fewest)) : MTv l yX0_mix wsX0_mix rm_X0_mix_0 D (wk_T cB cI cJ) [.ref a_this, .int x1, .int x2, .int x3] (w_X0_mix cB cI cJ a_this a_votes a_choices a_choices_cells a_votes_cells v_base v_favoured v_standing v_winners v_lead v_fewest v_choices v_votes) (w_X0_mix cB cI cJ a_this a_votes a_choices a_choices_cells a_votes_cells v_base v_favoured v_standing o_winners o_lead o_fewest v_choices v_votes) := by
  exact wk_no hf
abbrev rm_X0_mix_1 : Room := { frames := 5, cells := 0, slots := 0, locals := 113 }
set_option maxHeartbeats 4000000 in
set_option maxRecDepth 100000 in
theorem c_X0_mix_1 (l : Launch) (D : va_G) (cB cI cJ : ClassId) (N : Nat) (a_this : Nat) (a_votes : Nat) (a_choices : Nat) (a_choices_cells : Nat) (a_votes_cells : Nat) (v_base : Int32) (v_favoured : Int32) (v_standing : Int32) (v_winners : Int32) (v_lead : Int32) (v_fewest : Int32) (v_choices : Nat → Int32) (v_votes : Nat → Int32) (x1 : Int32) (x2 : Int32) (x3 : Int32) {o_winners : Int32} {o_lead : Int32} {o_fewest : Int32} (hf : f_X0_mix N 1 v_base v_favoured v_standing v_choices v_votes v_winners v_lead v_fewest x1 x2 x3 = some (o_winners, o_lead, o_fewest)) : MTv l yX0_mix wsX0_mix rm_X0_mix_1 D (wk_T cB cI cJ) [.ref a_this, .int x1, .int x2, .int x3] (w_X0_mix cB cI cJ a_this a_votes a_choices a_choices_cells a_votes_cells v_base v_favoured v_standing v_winners v_lead v_fewest v_choices v_votes) (w_X0_mix cB cI cJ a_this a_votes a_choices a_choices_cells a_votes_cells v_base v_favoured v_standing o_winners o_lead o_fewest v_choices v_votes) := by
  refine MTv.of (cc := cX0_mix) (nL := 6) (own := RX0) pn_X0 rfl rfl (Nat.le_of_ble_eq_true rfl) ?_
  intro p e s m args below meth c A ls Q C hP hD hS hl hret
  obtain ⟨hx, hb, hml, hts, hown, hK, hN, hA, hlk⟩ := id C
  have hl : lv_has ls 6 [(0, .ref a_this), (1, .int x1), (2, .int x2), (3, .int x3)] := hl
  obtain ⟨krec, hkr⟩ : ∃ krec : Int32 → Int32 → Int32 → Int32 → Int32 → Int32 → Option (Int32 × Int32 × Int32), krec = f_X0_mix N 0 v_base v_favoured v_standing v_choices v_votes := ⟨_, rfl⟩
  have hf : F_X0_mix N v_base v_favoured v_standing v_choices v_votes krec v_winners v_lead v_fewest x1 x2 x3 = some (o_winners, o_lead, o_fewest) := by rw [hkr]; exact hf
  unfold F_X0_mix at hf
  have L15 := wk_loopI (F := (fun k15 : Int32 → Int32 → Int32 → Int32 → Int32 → Int32 → Int32 → Option (Int32 × Int32 × Int32) => B_X0_mix_15 N v_base v_favoured v_standing v_choices v_votes krec k15)) (bot := fun _ _ _ _ _ _ _ => none) (fun k15 : Int32 → Int32 → Int32 → Int32 → Int32 → Int32 → Int32 → Option (Int32 × Int32 × Int32) => ∀ (v_winners : Int32) (v_lead : Int32) (v_fewest : Int32) (x1 : Int32) (x2 : Int32) (x3 : Int32) (x4 : Int32), k15 v_winners v_lead v_fewest x1 x2 x3 x4 = some (o_winners, o_lead, o_fewest) → ∀ (H : Heap) (locs : List Loc) (ls : Array Slot), va_P D vwCl (w_X0_mix cB cI cJ a_this a_votes a_choices a_choices_cells a_votes_cells v_base v_favoured v_standing v_winners v_lead v_fewest v_choices v_votes) H → va_D A (w_X0_mix cB cI cJ a_this a_votes a_choices a_choices_cells a_votes_cells v_base v_favoured v_standing v_winners v_lead v_fewest v_choices v_votes) → va_S A s.heap H locs → lv_has ls 6 [(0, .ref a_this), (1, .int x1), (2, .int x2), (3, .int x3), (4, .int x4)] → W p l e rm_X0_mix_1 s m args below meth c H locs 0 0 Q (F0 m 15 ls [])) (by intro v_winners v_lead v_fewest x1 x2 x3 x4 hf; exact wk_no hf) (by
    intro k15 ih15
    have J57 : ∀ (v_winners : Int32) (v_lead : Int32) (v_fewest : Int32) (x1 : Int32) (x2 : Int32) (x3 : Int32) (x4 : Int32) (s0 : Int32), B_X0_mix_57 N v_base v_favoured v_standing v_choices v_votes krec k15 v_winners v_lead v_fewest x1 x2 x3 x4 s0 = some (o_winners, o_lead, o_fewest) → ∀ (H : Heap) (locs : List Loc) (ls : Array Slot), va_P D vwCl (w_X0_mix cB cI cJ a_this a_votes a_choices a_choices_cells a_votes_cells v_base v_favoured v_standing v_winners v_lead v_fewest v_choices v_votes) H → va_D A (w_X0_mix cB cI cJ a_this a_votes a_choices a_choices_cells a_votes_cells v_base v_favoured v_standing v_winners v_lead v_fewest v_choices v_votes) → va_S A s.heap H locs → lv_has ls 6 [(0, .ref a_this), (1, .int x1), (2, .int x2), (3, .int x3), (4, .int x4)] → W p l e rm_X0_mix_1 s m args below meth c H locs 0 0 Q (F0 m 57 ls [.int s0]) := by
      intro v_winners v_lead v_fewest x1 x2 x3 x4 s0 hf H locs ls hP hD hS hl
      unfold B_X0_mix_57 at hf
      refine lv_istore (lv' := [(5, .int s0), (0, .ref a_this), (1, .int x1), (2, .int x2), (3, .int x3), (4, .int x4)]) hx hb dX0_mix_57 hl (by decide) rfl (fun ls hl => ?_)
      refine lv_aload_n hx hb dX0_mix_59 rfl (lv_at hl 1 rfl) ?_
      refine lv_iload_n hx hb dX0_mix_60 rfl (lv_at hl 2 rfl) ?_
      refine lv_iconst (v := (1 : Int32)) hx hb dX0_mix_61 (by decide) ?_
      refine lv_iadd hx hb dX0_mix_62 ?_
      refine lv_iload hx hb dX0_mix_63 (lv_at hl 0 rfl) ?_
      refine lv_iload_n hx hb dX0_mix_65 rfl (lv_at hl 4 rfl) ?_
      refine lv_aload_n hx hb dX0_mix_66 rfl (lv_at hl 1 rfl) ?_
      refine va_get (D := D) (ci := 0) (v := .ref a_votes) (C := RX0) (T := TX0) (N := 8) hx hb hts in_X0_mix_X0 hown hK hP 0 rfl rfl 0 (by decide) (hts (.fieldLink RX0 14 "HangingCards$Mixtures" "votes" "LHangingCards$Row;") (List.mem_of_getElem? (i := 3) rfl)) (fun _ h9 => h9) rfl dX0_mix_67 ?_
      refine lv_iload_n hx hb dX0_mix_70 rfl (lv_at hl 2 rfl) ?_
      refine lv_iload hx hb dX0_mix_71 (lv_at hl 5 rfl) ?_
      obtain ⟨r1, hc1, hf⟩ := wk_b1E hf
      refine wk_callSi2 C hP hD hS (c_X0_place l D cB cI cJ N x1 x4 hc1) (va_cwS 2 hts gX0_mix_X0_place rfl rfl rfl hd_X0_place.2 ⟨Nat.le_of_ble_eq_true rfl, Nat.le_of_ble_eq_true rfl⟩) hl.1 ⟨Nat.zero_le _, Nat.zero_le _⟩ [] [0, 1, 2, 3, 4] 5 (by decide +kernel) rfl (Wn := w_X0_mix cB cI cJ a_this a_votes a_choices a_choices_cells a_votes_cells v_base v_favoured v_standing v_winners v_lead v_fewest v_choices v_votes) rfl rfl rfl rfl rfl rfl rfl rfl (Nat.le_of_ble_eq_true rfl) dX0_mix_73 (fun H locs hP hD hS => ?_)
      obtain ⟨r2, hc2, hf⟩ := wk_b1E hf
      refine wk_callVi2 C hP hD hS (c_X6_get l D cB cI cJ N a_votes a_votes_cells 25 v_votes r1 hc2) (cwV 1 hts gX0_mix_X6_get rfl rfl rfl hd_X6_get ⟨Nat.le_of_ble_eq_true rfl, Nat.le_of_ble_eq_true rfl⟩) hl.1 ⟨Nat.zero_le _, Nat.zero_le _⟩ [3, 4] [0, 1, 2] 5 (by decide +kernel) rfl (Wn := w_X0_mix cB cI cJ a_this a_votes a_choices a_choices_cells a_votes_cells v_base v_favoured v_standing v_winners v_lead v_fewest v_choices v_votes) rfl rfl rfl rfl rfl rfl (ci := 6) rfl rfl (q0 := 3) rfl rfl rfl (Nat.le_of_ble_eq_true rfl) dX0_mix_76 (fun H locs hP hD hS => ?_)
      refine lv_iadd hx hb dX0_mix_79 ?_
      obtain ⟨o3_0, o3_1, o3_2, hc3, hf⟩ := wk_b3E hf
      rw [hkr] at hc3
      refine wk_callVv2 C hP hD hS (c_X0_mix_0 l D cB cI cJ N a_this a_votes a_choices a_choices_cells a_votes_cells v_base v_favoured v_standing v_winners v_lead v_fewest v_choices v_votes (x1 + (1 : Int32)) s0 (x3 + r2) hc3) (cwV 3 hts gX0_mix_X0_mix rfl rfl rfl hd_X0_mix ⟨Nat.le_of_ble_eq_true rfl, Nat.le_of_ble_eq_true rfl⟩) hl.1 ⟨Nat.zero_le _, Nat.zero_le _⟩ [0, 1, 2, 3, 4] [] 5 (by decide +kernel) rfl (Wn := w_X0_mix cB cI cJ a_this a_votes a_choices a_choices_cells a_votes_cells v_base v_favoured v_standing o3_0 o3_1 o3_2 v_choices v_votes) rfl rfl rfl rfl rfl rfl (ci := 0) rfl rfl (q0 := 0) rfl rfl rfl (Nat.le_of_ble_eq_true rfl) dX0_mix_80 (fun H locs hP hD hS => ?_)
      obtain ⟨y4, ey4⟩ : ∃ y : Int32, y = x4 + (1 : Int32) := ⟨_, rfl⟩
      have hf := wk_nmE hf ey4
      refine lv_iinc (v := y4) (lv' := [(4, .int y4), (5, .int s0), (0, .ref a_this), (1, .int x1), (2, .int x2), (3, .int x3)]) hx hb dX0_mix_83 hl (k := 5) rfl (by rw [ey4]; rfl) (by decide) rfl (fun ls hl => ?_)
      refine lv_goto (tgt := 15) hx hb dX0_mix_86 (by decide) ?_
      exact ih15 _ _ _ _ _ _ _ hf _ _ _ hP hD hS (lv_sub hl [2, 3, 4, 5, 0] rfl)
    intro v_winners v_lead v_fewest x1 x2 x3 x4 hf H locs ls hP hD hS hl
    have hf : B_X0_mix_15 N v_base v_favoured v_standing v_choices v_votes krec k15 v_winners v_lead v_fewest x1 x2 x3 x4 = some (o_winners, o_lead, o_fewest) := hf
    unfold B_X0_mix_15 at hf
    refine lv_iload hx hb dX0_mix_15 (lv_at hl 4 rfl) ?_
    refine lv_iconst (v := (5 : Int32)) hx hb dX0_mix_17 (by decide) ?_
    refine lv_icmp_gt (tgt := 89) hx hb dX0_mix_18 (by decide) (fun c5 => ?_) (fun c5 => ?_)
    · have hf := wk_itT hf c5
      exact hret _ _ _ _ _ dX0_mix_89 (wk_rt hf (fun z => w_X0_mix cB cI cJ a_this a_votes a_choices a_choices_cells a_votes_cells v_base v_favoured v_standing (z.1) (z.2.1) (z.2.2) v_choices v_votes)) hP hD hS
    · have hf := wk_itF hf c5
      refine lv_aload_n hx hb dX0_mix_21 rfl (lv_at hl 0 rfl) ?_
      refine va_get (D := D) (ci := 0) (v := .ref a_choices) (C := RX0) (T := TX0) (N := 8) hx hb hts in_X0_mix_X0 hown hK hP 0 rfl rfl 1 (by decide) (hts (.fieldLink RX0 20 "HangingCards$Mixtures" "choices" "LHangingCards$Row;") (List.mem_of_getElem? (i := 1) rfl)) (fun _ h9 => h9) rfl dX0_mix_22 ?_
      refine lv_iload_n hx hb dX0_mix_25 rfl (lv_at hl 1 rfl) ?_
      obtain ⟨r6, hc6, hf⟩ := wk_b1E hf
      refine wk_callVi2 C hP hD hS (c_X6_get l D cB cI cJ N a_choices a_choices_cells 5 v_choices x1 hc6) (cwV 1 hts gX0_mix_X6_get rfl rfl rfl hd_X6_get ⟨Nat.le_of_ble_eq_true rfl, Nat.le_of_ble_eq_true rfl⟩) hl.1 ⟨Nat.zero_le _, Nat.zero_le _⟩ [1, 2] [0, 3, 4] 5 (by decide +kernel) rfl (Wn := w_X0_mix cB cI cJ a_this a_votes a_choices a_choices_cells a_votes_cells v_base v_favoured v_standing v_winners v_lead v_fewest v_choices v_votes) rfl rfl rfl rfl rfl rfl (ci := 6) rfl rfl (q0 := 1) rfl rfl rfl (Nat.le_of_ble_eq_true rfl) dX0_mix_26 (fun H locs hP hD hS => ?_)
      refine lv_iload hx hb dX0_mix_29 (lv_at hl 4 rfl) ?_
      refine lv_iconst (v := (1 : Int32)) hx hb dX0_mix_31 (by decide) ?_
      refine lv_isub hx hb dX0_mix_32 ?_
      obtain ⟨r7, hc7, hf⟩ := wk_b1E hf
      refine wk_callNi2 C hP hD hS (c_X10_hasBit l D cB cI cJ N r6 (x4 - (1 : Int32)) hc7) ⟨va_cnB 2 hts gX0_mix_X10_hasBit_n75 rfl rfl rfl hN.2.2.1 (hts (.initialized RX10) (List.mem_of_getElem? (i := 19) rfl)) hd_X10_hasBit.2 ⟨Nat.le_of_ble_eq_true rfl, Nat.le_of_ble_eq_true rfl⟩, (hts (.static yX10_hasBit) (List.mem_of_getElem? (i := 45) rfl)), trivial⟩ hl.1 ⟨Nat.zero_le _, Nat.zero_le _⟩ [] [0, 1, 2, 3, 4] 5 (by decide +kernel) rfl (Wn := w_X0_mix cB cI cJ a_this a_votes a_choices a_choices_cells a_votes_cells v_base v_favoured v_standing v_winners v_lead v_fewest v_choices v_votes) rfl rfl rfl rfl rfl rfl rfl rfl (Nat.le_of_ble_eq_true rfl) dX0_mix_33 (fun H locs hP hD hS => ?_)
      refine lv_if_eq (tgt := 83) hx hb dX0_mix_36 (by decide) (fun c8 => ?_) (fun c8 => ?_)
      · have hf := wk_itT hf c8
        obtain ⟨y9, ey9⟩ : ∃ y : Int32, y = x4 + (1 : Int32) := ⟨_, rfl⟩
        have hf := wk_nmE hf ey9
        refine lv_iinc (v := y9) (lv' := [(4, .int y9), (0, .ref a_this), (1, .int x1), (2, .int x2), (3, .int x3)]) hx hb dX0_mix_83 hl (k := 4) rfl (by rw [ey9]; rfl) (by decide) rfl (fun ls hl => ?_)
        refine lv_goto (tgt := 15) hx hb dX0_mix_86 (by decide) ?_
        exact ih15 _ _ _ _ _ _ _ hf _ _ _ hP hD hS (lv_sub hl [1, 2, 3, 4, 0] rfl)
      · have hf := wk_itF hf c8
        refine lv_iload hx hb dX0_mix_39 (lv_at hl 4 rfl) ?_
        refine lv_aload_n hx hb dX0_mix_41 rfl (lv_at hl 0 rfl) ?_
        refine va_get (D := D) (ci := 0) (v := .int v_base) (C := RX0) (T := TX0) (N := 8) hx hb hts in_X0_mix_X0 hown hK hP 0 rfl rfl 2 (by decide) (hts (.fieldLink RX0 23 "HangingCards$Mixtures" "base" "I") (List.mem_of_getElem? (i := 2) rfl)) (fun _ h9 => h9) rfl dX0_mix_42 ?_
        refine lv_icmp_ne (tgt := 52) hx hb dX0_mix_45 (by decide) (fun c10 => ?_) (fun c10 => ?_)
        · have hf := wk_itF hf c10
          refine lv_iload_n hx hb dX0_mix_52 rfl (lv_at hl 2 rfl) ?_
          refine lv_iconst (v := (1 : Int32)) hx hb dX0_mix_53 (by decide) ?_
          refine lv_iload_n hx hb dX0_mix_54 rfl (lv_at hl 1 rfl) ?_
          refine lv_ishl hx hb dX0_mix_55 ?_
          refine lv_ior hx hb dX0_mix_56 ?_
          exact J57 _ _ _ _ _ _ _ _ hf _ _ _ hP hD hS (lv_sub hl [0, 1, 2, 3, 4] rfl)
        · have hf := wk_itT hf c10
          refine lv_iload_n hx hb dX0_mix_48 rfl (lv_at hl 2 rfl) ?_
          refine lv_goto (tgt := 57) hx hb dX0_mix_49 (by decide) ?_
          exact J57 _ _ _ _ _ _ _ _ hf _ _ _ hP hD hS (lv_sub hl [0, 1, 2, 3, 4] rfl))
  refine lv_iload_n hx hb dX0_mix_0 rfl (lv_at hl 1 rfl) ?_
  refine lv_iconst (v := (5 : Int32)) hx hb dX0_mix_1 (by decide) ?_
  refine lv_icmp_lt (tgt := 12) hx hb dX0_mix_2 (by decide) (fun c11 => ?_) (fun c11 => ?_)
  · have hf := wk_itT hf c11
    refine lv_iconst (v := (1 : Int32)) hx hb dX0_mix_12 (by decide) ?_
    refine lv_istore (lv' := [(4, .int (1 : Int32)), (0, .ref a_this), (1, .int x1), (2, .int x2), (3, .int x3)]) hx hb dX0_mix_13 hl (by decide) rfl (fun ls hl => ?_)
    exact L15 N _ _ _ _ _ _ _ hf _ _ _ hP hD hS (lv_sub hl [1, 2, 3, 4, 0] rfl)
  · have hf := wk_itF hf c11
    refine lv_aload_n hx hb dX0_mix_5 rfl (lv_at hl 0 rfl) ?_
    refine lv_iload_n hx hb dX0_mix_6 rfl (lv_at hl 2 rfl) ?_
    refine lv_iload_n hx hb dX0_mix_7 rfl (lv_at hl 3 rfl) ?_
    obtain ⟨o12_0, o12_1, o12_2, hc12, hf⟩ := wk_b3E hf
    refine wk_callVv2 C hP hD hS (c_X0_weigh l D cB cI cJ N a_this a_votes a_choices v_base v_favoured v_standing v_winners v_lead v_fewest x2 x3 hc12) (cwV 2 hts gX0_mix_X0_weigh rfl rfl rfl hd_X0_weigh ⟨Nat.le_of_ble_eq_true rfl, Nat.le_of_ble_eq_true rfl⟩) hl.1 ⟨Nat.zero_le _, Nat.zero_le _⟩ [0] [1, 2, 3, 4] 5 (by decide +kernel) rfl (Wn := w_X0_mix cB cI cJ a_this a_votes a_choices a_choices_cells a_votes_cells v_base v_favoured v_standing o12_0 o12_1 o12_2 v_choices v_votes) rfl rfl rfl rfl rfl rfl (ci := 0) rfl rfl (q0 := 0) rfl rfl rfl (Nat.le_of_ble_eq_true rfl) dX0_mix_8 (fun H locs hP hD hS => ?_)
    exact hret _ _ _ _ _ dX0_mix_11 (wk_rt hf (fun z => w_X0_mix cB cI cJ a_this a_votes a_choices a_choices_cells a_votes_cells v_base v_favoured v_standing (z.1) (z.2.1) (z.2.2) v_choices v_votes)) hP hD hS
abbrev rm_X0_mix_2 : Room := { frames := 6, cells := 0, slots := 0, locals := 138 }
set_option maxHeartbeats 4000000 in
set_option maxRecDepth 100000 in
theorem c_X0_mix_2 (l : Launch) (D : va_G) (cB cI cJ : ClassId) (N : Nat) (a_this : Nat) (a_votes : Nat) (a_choices : Nat) (a_choices_cells : Nat) (a_votes_cells : Nat) (v_base : Int32) (v_favoured : Int32) (v_standing : Int32) (v_winners : Int32) (v_lead : Int32) (v_fewest : Int32) (v_choices : Nat → Int32) (v_votes : Nat → Int32) (x1 : Int32) (x2 : Int32) (x3 : Int32) {o_winners : Int32} {o_lead : Int32} {o_fewest : Int32} (hf : f_X0_mix N 2 v_base v_favoured v_standing v_choices v_votes v_winners v_lead v_fewest x1 x2 x3 = some (o_winners, o_lead, o_fewest)) : MTv l yX0_mix wsX0_mix rm_X0_mix_2 D (wk_T cB cI cJ) [.ref a_this, .int x1, .int x2, .int x3] (w_X0_mix cB cI cJ a_this a_votes a_choices a_choices_cells a_votes_cells v_base v_favoured v_standing v_winners v_lead v_fewest v_choices v_votes) (w_X0_mix cB cI cJ a_this a_votes a_choices a_choices_cells a_votes_cells v_base v_favoured v_standing o_winners o_lead o_fewest v_choices v_votes) := by
  refine MTv.of (cc := cX0_mix) (nL := 6) (own := RX0) pn_X0 rfl rfl (Nat.le_of_ble_eq_true rfl) ?_
  intro p e s m args below meth c A ls Q C hP hD hS hl hret
  obtain ⟨hx, hb, hml, hts, hown, hK, hN, hA, hlk⟩ := id C
  have hl : lv_has ls 6 [(0, .ref a_this), (1, .int x1), (2, .int x2), (3, .int x3)] := hl
  obtain ⟨krec, hkr⟩ : ∃ krec : Int32 → Int32 → Int32 → Int32 → Int32 → Int32 → Option (Int32 × Int32 × Int32), krec = f_X0_mix N 1 v_base v_favoured v_standing v_choices v_votes := ⟨_, rfl⟩
  have hf : F_X0_mix N v_base v_favoured v_standing v_choices v_votes krec v_winners v_lead v_fewest x1 x2 x3 = some (o_winners, o_lead, o_fewest) := by rw [hkr]; exact hf
  unfold F_X0_mix at hf
  have L15 := wk_loopI (F := (fun k15 : Int32 → Int32 → Int32 → Int32 → Int32 → Int32 → Int32 → Option (Int32 × Int32 × Int32) => B_X0_mix_15 N v_base v_favoured v_standing v_choices v_votes krec k15)) (bot := fun _ _ _ _ _ _ _ => none) (fun k15 : Int32 → Int32 → Int32 → Int32 → Int32 → Int32 → Int32 → Option (Int32 × Int32 × Int32) => ∀ (v_winners : Int32) (v_lead : Int32) (v_fewest : Int32) (x1 : Int32) (x2 : Int32) (x3 : Int32) (x4 : Int32), k15 v_winners v_lead v_fewest x1 x2 x3 x4 = some (o_winners, o_lead, o_fewest) → ∀ (H : Heap) (locs : List Loc) (ls : Array Slot), va_P D vwCl (w_X0_mix cB cI cJ a_this a_votes a_choices a_choices_cells a_votes_cells v_base v_favoured v_standing v_winners v_lead v_fewest v_choices v_votes) H → va_D A (w_X0_mix cB cI cJ a_this a_votes a_choices a_choices_cells a_votes_cells v_base v_favoured v_standing v_winners v_lead v_fewest v_choices v_votes) → va_S A s.heap H locs → lv_has ls 6 [(0, .ref a_this), (1, .int x1), (2, .int x2), (3, .int x3), (4, .int x4)] → W p l e rm_X0_mix_2 s m args below meth c H locs 0 0 Q (F0 m 15 ls [])) (by intro v_winners v_lead v_fewest x1 x2 x3 x4 hf; exact wk_no hf) (by
    intro k15 ih15
    have J57 : ∀ (v_winners : Int32) (v_lead : Int32) (v_fewest : Int32) (x1 : Int32) (x2 : Int32) (x3 : Int32) (x4 : Int32) (s0 : Int32), B_X0_mix_57 N v_base v_favoured v_standing v_choices v_votes krec k15 v_winners v_lead v_fewest x1 x2 x3 x4 s0 = some (o_winners, o_lead, o_fewest) → ∀ (H : Heap) (locs : List Loc) (ls : Array Slot), va_P D vwCl (w_X0_mix cB cI cJ a_this a_votes a_choices a_choices_cells a_votes_cells v_base v_favoured v_standing v_winners v_lead v_fewest v_choices v_votes) H → va_D A (w_X0_mix cB cI cJ a_this a_votes a_choices a_choices_cells a_votes_cells v_base v_favoured v_standing v_winners v_lead v_fewest v_choices v_votes) → va_S A s.heap H locs → lv_has ls 6 [(0, .ref a_this), (1, .int x1), (2, .int x2), (3, .int x3), (4, .int x4)] → W p l e rm_X0_mix_2 s m args below meth c H locs 0 0 Q (F0 m 57 ls [.int s0]) := by
      intro v_winners v_lead v_fewest x1 x2 x3 x4 s0 hf H locs ls hP hD hS hl
      unfold B_X0_mix_57 at hf
      refine lv_istore (lv' := [(5, .int s0), (0, .ref a_this), (1, .int x1), (2, .int x2), (3, .int x3), (4, .int x4)]) hx hb dX0_mix_57 hl (by decide) rfl (fun ls hl => ?_)
      refine lv_aload_n hx hb dX0_mix_59 rfl (lv_at hl 1 rfl) ?_
      refine lv_iload_n hx hb dX0_mix_60 rfl (lv_at hl 2 rfl) ?_
      refine lv_iconst (v := (1 : Int32)) hx hb dX0_mix_61 (by decide) ?_
      refine lv_iadd hx hb dX0_mix_62 ?_
      refine lv_iload hx hb dX0_mix_63 (lv_at hl 0 rfl) ?_
      refine lv_iload_n hx hb dX0_mix_65 rfl (lv_at hl 4 rfl) ?_
      refine lv_aload_n hx hb dX0_mix_66 rfl (lv_at hl 1 rfl) ?_
      refine va_get (D := D) (ci := 0) (v := .ref a_votes) (C := RX0) (T := TX0) (N := 8) hx hb hts in_X0_mix_X0 hown hK hP 0 rfl rfl 0 (by decide) (hts (.fieldLink RX0 14 "HangingCards$Mixtures" "votes" "LHangingCards$Row;") (List.mem_of_getElem? (i := 3) rfl)) (fun _ h9 => h9) rfl dX0_mix_67 ?_
      refine lv_iload_n hx hb dX0_mix_70 rfl (lv_at hl 2 rfl) ?_
      refine lv_iload hx hb dX0_mix_71 (lv_at hl 5 rfl) ?_
      obtain ⟨r1, hc1, hf⟩ := wk_b1E hf
      refine wk_callSi2 C hP hD hS (c_X0_place l D cB cI cJ N x1 x4 hc1) (va_cwS 2 hts gX0_mix_X0_place rfl rfl rfl hd_X0_place.2 ⟨Nat.le_of_ble_eq_true rfl, Nat.le_of_ble_eq_true rfl⟩) hl.1 ⟨Nat.zero_le _, Nat.zero_le _⟩ [] [0, 1, 2, 3, 4] 5 (by decide +kernel) rfl (Wn := w_X0_mix cB cI cJ a_this a_votes a_choices a_choices_cells a_votes_cells v_base v_favoured v_standing v_winners v_lead v_fewest v_choices v_votes) rfl rfl rfl rfl rfl rfl rfl rfl (Nat.le_of_ble_eq_true rfl) dX0_mix_73 (fun H locs hP hD hS => ?_)
      obtain ⟨r2, hc2, hf⟩ := wk_b1E hf
      refine wk_callVi2 C hP hD hS (c_X6_get l D cB cI cJ N a_votes a_votes_cells 25 v_votes r1 hc2) (cwV 1 hts gX0_mix_X6_get rfl rfl rfl hd_X6_get ⟨Nat.le_of_ble_eq_true rfl, Nat.le_of_ble_eq_true rfl⟩) hl.1 ⟨Nat.zero_le _, Nat.zero_le _⟩ [3, 4] [0, 1, 2] 5 (by decide +kernel) rfl (Wn := w_X0_mix cB cI cJ a_this a_votes a_choices a_choices_cells a_votes_cells v_base v_favoured v_standing v_winners v_lead v_fewest v_choices v_votes) rfl rfl rfl rfl rfl rfl (ci := 6) rfl rfl (q0 := 3) rfl rfl rfl (Nat.le_of_ble_eq_true rfl) dX0_mix_76 (fun H locs hP hD hS => ?_)
      refine lv_iadd hx hb dX0_mix_79 ?_
      obtain ⟨o3_0, o3_1, o3_2, hc3, hf⟩ := wk_b3E hf
      rw [hkr] at hc3
      refine wk_callVv2 C hP hD hS (c_X0_mix_1 l D cB cI cJ N a_this a_votes a_choices a_choices_cells a_votes_cells v_base v_favoured v_standing v_winners v_lead v_fewest v_choices v_votes (x1 + (1 : Int32)) s0 (x3 + r2) hc3) (cwV 3 hts gX0_mix_X0_mix rfl rfl rfl hd_X0_mix ⟨Nat.le_of_ble_eq_true rfl, Nat.le_of_ble_eq_true rfl⟩) hl.1 ⟨Nat.zero_le _, Nat.zero_le _⟩ [0, 1, 2, 3, 4] [] 5 (by decide +kernel) rfl (Wn := w_X0_mix cB cI cJ a_this a_votes a_choices a_choices_cells a_votes_cells v_base v_favoured v_standing o3_0 o3_1 o3_2 v_choices v_votes) rfl rfl rfl rfl rfl rfl (ci := 0) rfl rfl (q0 := 0) rfl rfl rfl (Nat.le_of_ble_eq_true rfl) dX0_mix_80 (fun H locs hP hD hS => ?_)
      obtain ⟨y4, ey4⟩ : ∃ y : Int32, y = x4 + (1 : Int32) := ⟨_, rfl⟩
      have hf := wk_nmE hf ey4
      refine lv_iinc (v := y4) (lv' := [(4, .int y4), (5, .int s0), (0, .ref a_this), (1, .int x1), (2, .int x2), (3, .int x3)]) hx hb dX0_mix_83 hl (k := 5) rfl (by rw [ey4]; rfl) (by decide) rfl (fun ls hl => ?_)
      refine lv_goto (tgt := 15) hx hb dX0_mix_86 (by decide) ?_
      exact ih15 _ _ _ _ _ _ _ hf _ _ _ hP hD hS (lv_sub hl [2, 3, 4, 5, 0] rfl)
    intro v_winners v_lead v_fewest x1 x2 x3 x4 hf H locs ls hP hD hS hl
    have hf : B_X0_mix_15 N v_base v_favoured v_standing v_choices v_votes krec k15 v_winners v_lead v_fewest x1 x2 x3 x4 = some (o_winners, o_lead, o_fewest) := hf
    unfold B_X0_mix_15 at hf
    refine lv_iload hx hb dX0_mix_15 (lv_at hl 4 rfl) ?_
    refine lv_iconst (v := (5 : Int32)) hx hb dX0_mix_17 (by decide) ?_
    refine lv_icmp_gt (tgt := 89) hx hb dX0_mix_18 (by decide) (fun c5 => ?_) (fun c5 => ?_)
    · have hf := wk_itT hf c5
      exact hret _ _ _ _ _ dX0_mix_89 (wk_rt hf (fun z => w_X0_mix cB cI cJ a_this a_votes a_choices a_choices_cells a_votes_cells v_base v_favoured v_standing (z.1) (z.2.1) (z.2.2) v_choices v_votes)) hP hD hS
    · have hf := wk_itF hf c5
      refine lv_aload_n hx hb dX0_mix_21 rfl (lv_at hl 0 rfl) ?_
      refine va_get (D := D) (ci := 0) (v := .ref a_choices) (C := RX0) (T := TX0) (N := 8) hx hb hts in_X0_mix_X0 hown hK hP 0 rfl rfl 1 (by decide) (hts (.fieldLink RX0 20 "HangingCards$Mixtures" "choices" "LHangingCards$Row;") (List.mem_of_getElem? (i := 1) rfl)) (fun _ h9 => h9) rfl dX0_mix_22 ?_
      refine lv_iload_n hx hb dX0_mix_25 rfl (lv_at hl 1 rfl) ?_
      obtain ⟨r6, hc6, hf⟩ := wk_b1E hf
      refine wk_callVi2 C hP hD hS (c_X6_get l D cB cI cJ N a_choices a_choices_cells 5 v_choices x1 hc6) (cwV 1 hts gX0_mix_X6_get rfl rfl rfl hd_X6_get ⟨Nat.le_of_ble_eq_true rfl, Nat.le_of_ble_eq_true rfl⟩) hl.1 ⟨Nat.zero_le _, Nat.zero_le _⟩ [1, 2] [0, 3, 4] 5 (by decide +kernel) rfl (Wn := w_X0_mix cB cI cJ a_this a_votes a_choices a_choices_cells a_votes_cells v_base v_favoured v_standing v_winners v_lead v_fewest v_choices v_votes) rfl rfl rfl rfl rfl rfl (ci := 6) rfl rfl (q0 := 1) rfl rfl rfl (Nat.le_of_ble_eq_true rfl) dX0_mix_26 (fun H locs hP hD hS => ?_)
      refine lv_iload hx hb dX0_mix_29 (lv_at hl 4 rfl) ?_
      refine lv_iconst (v := (1 : Int32)) hx hb dX0_mix_31 (by decide) ?_
      refine lv_isub hx hb dX0_mix_32 ?_
      obtain ⟨r7, hc7, hf⟩ := wk_b1E hf
      refine wk_callNi2 C hP hD hS (c_X10_hasBit l D cB cI cJ N r6 (x4 - (1 : Int32)) hc7) ⟨va_cnB 2 hts gX0_mix_X10_hasBit_n75 rfl rfl rfl hN.2.2.1 (hts (.initialized RX10) (List.mem_of_getElem? (i := 19) rfl)) hd_X10_hasBit.2 ⟨Nat.le_of_ble_eq_true rfl, Nat.le_of_ble_eq_true rfl⟩, (hts (.static yX10_hasBit) (List.mem_of_getElem? (i := 45) rfl)), trivial⟩ hl.1 ⟨Nat.zero_le _, Nat.zero_le _⟩ [] [0, 1, 2, 3, 4] 5 (by decide +kernel) rfl (Wn := w_X0_mix cB cI cJ a_this a_votes a_choices a_choices_cells a_votes_cells v_base v_favoured v_standing v_winners v_lead v_fewest v_choices v_votes) rfl rfl rfl rfl rfl rfl rfl rfl (Nat.le_of_ble_eq_true rfl) dX0_mix_33 (fun H locs hP hD hS => ?_)
      refine lv_if_eq (tgt := 83) hx hb dX0_mix_36 (by decide) (fun c8 => ?_) (fun c8 => ?_)
      · have hf := wk_itT hf c8
        obtain ⟨y9, ey9⟩ : ∃ y : Int32, y = x4 + (1 : Int32) := ⟨_, rfl⟩
        have hf := wk_nmE hf ey9
        refine lv_iinc (v := y9) (lv' := [(4, .int y9), (0, .ref a_this), (1, .int x1), (2, .int x2), (3, .int x3)]) hx hb dX0_mix_83 hl (k := 4) rfl (by rw [ey9]; rfl) (by decide) rfl (fun ls hl => ?_)
        refine lv_goto (tgt := 15) hx hb dX0_mix_86 (by decide) ?_
        exact ih15 _ _ _ _ _ _ _ hf _ _ _ hP hD hS (lv_sub hl [1, 2, 3, 4, 0] rfl)
      · have hf := wk_itF hf c8
        refine lv_iload hx hb dX0_mix_39 (lv_at hl 4 rfl) ?_
        refine lv_aload_n hx hb dX0_mix_41 rfl (lv_at hl 0 rfl) ?_
        refine va_get (D := D) (ci := 0) (v := .int v_base) (C := RX0) (T := TX0) (N := 8) hx hb hts in_X0_mix_X0 hown hK hP 0 rfl rfl 2 (by decide) (hts (.fieldLink RX0 23 "HangingCards$Mixtures" "base" "I") (List.mem_of_getElem? (i := 2) rfl)) (fun _ h9 => h9) rfl dX0_mix_42 ?_
        refine lv_icmp_ne (tgt := 52) hx hb dX0_mix_45 (by decide) (fun c10 => ?_) (fun c10 => ?_)
        · have hf := wk_itF hf c10
          refine lv_iload_n hx hb dX0_mix_52 rfl (lv_at hl 2 rfl) ?_
          refine lv_iconst (v := (1 : Int32)) hx hb dX0_mix_53 (by decide) ?_
          refine lv_iload_n hx hb dX0_mix_54 rfl (lv_at hl 1 rfl) ?_
          refine lv_ishl hx hb dX0_mix_55 ?_
          refine lv_ior hx hb dX0_mix_56 ?_
          exact J57 _ _ _ _ _ _ _ _ hf _ _ _ hP hD hS (lv_sub hl [0, 1, 2, 3, 4] rfl)
        · have hf := wk_itT hf c10
          refine lv_iload_n hx hb dX0_mix_48 rfl (lv_at hl 2 rfl) ?_
          refine lv_goto (tgt := 57) hx hb dX0_mix_49 (by decide) ?_
          exact J57 _ _ _ _ _ _ _ _ hf _ _ _ hP hD hS (lv_sub hl [0, 1, 2, 3, 4] rfl))
  refine lv_iload_n hx hb dX0_mix_0 rfl (lv_at hl 1 rfl) ?_
  refine lv_iconst (v := (5 : Int32)) hx hb dX0_mix_1 (by decide) ?_
  refine lv_icmp_lt (tgt := 12) hx hb dX0_mix_2 (by decide) (fun c11 => ?_) (fun c11 => ?_)
  · have hf := wk_itT hf c11
    refine lv_iconst (v := (1 : Int32)) hx hb dX0_mix_12 (by decide) ?_
    refine lv_istore (lv' := [(4, .int (1 : Int32)), (0, .ref a_this), (1, .int x1), (2, .int x2), (3, .int x3)]) hx hb dX0_mix_13 hl (by decide) rfl (fun ls hl => ?_)
    exact L15 N _ _ _ _ _ _ _ hf _ _ _ hP hD hS (lv_sub hl [1, 2, 3, 4, 0] rfl)
  · have hf := wk_itF hf c11
    refine lv_aload_n hx hb dX0_mix_5 rfl (lv_at hl 0 rfl) ?_
    refine lv_iload_n hx hb dX0_mix_6 rfl (lv_at hl 2 rfl) ?_
    refine lv_iload_n hx hb dX0_mix_7 rfl (lv_at hl 3 rfl) ?_
    obtain ⟨o12_0, o12_1, o12_2, hc12, hf⟩ := wk_b3E hf
    refine wk_callVv2 C hP hD hS (c_X0_weigh l D cB cI cJ N a_this a_votes a_choices v_base v_favoured v_standing v_winners v_lead v_fewest x2 x3 hc12) (cwV 2 hts gX0_mix_X0_weigh rfl rfl rfl hd_X0_weigh ⟨Nat.le_of_ble_eq_true rfl, Nat.le_of_ble_eq_true rfl⟩) hl.1 ⟨Nat.zero_le _, Nat.zero_le _⟩ [0] [1, 2, 3, 4] 5 (by decide +kernel) rfl (Wn := w_X0_mix cB cI cJ a_this a_votes a_choices a_choices_cells a_votes_cells v_base v_favoured v_standing o12_0 o12_1 o12_2 v_choices v_votes) rfl rfl rfl rfl rfl rfl (ci := 0) rfl rfl (q0 := 0) rfl rfl rfl (Nat.le_of_ble_eq_true rfl) dX0_mix_8 (fun H locs hP hD hS => ?_)
    exact hret _ _ _ _ _ dX0_mix_11 (wk_rt hf (fun z => w_X0_mix cB cI cJ a_this a_votes a_choices a_choices_cells a_votes_cells v_base v_favoured v_standing (z.1) (z.2.1) (z.2.2) v_choices v_votes)) hP hD hS
abbrev rm_X0_mix_3 : Room := { frames := 7, cells := 0, slots := 0, locals := 163 }
set_option maxHeartbeats 4000000 in
set_option maxRecDepth 100000 in
theorem c_X0_mix_3 (l : Launch) (D : va_G) (cB cI cJ : ClassId) (N : Nat) (a_this : Nat) (a_votes : Nat) (a_choices : Nat) (a_choices_cells : Nat) (a_votes_cells : Nat) (v_base : Int32) (v_favoured : Int32) (v_standing : Int32) (v_winners : Int32) (v_lead : Int32) (v_fewest : Int32) (v_choices : Nat → Int32) (v_votes : Nat → Int32) (x1 : Int32) (x2 : Int32) (x3 : Int32) {o_winners : Int32} {o_lead : Int32} {o_fewest : Int32} (hf : f_X0_mix N 3 v_base v_favoured v_standing v_choices v_votes v_winners v_lead v_fewest x1 x2 x3 = some (o_winners, o_lead, o_fewest)) : MTv l yX0_mix wsX0_mix rm_X0_mix_3 D (wk_T cB cI cJ) [.ref a_this, .int x1, .int x2, .int x3] (w_X0_mix cB cI cJ a_this a_votes a_choices a_choices_cells a_votes_cells v_base v_favoured v_standing v_winners v_lead v_fewest v_choices v_votes) (w_X0_mix cB cI cJ a_this a_votes a_choices a_choices_cells a_votes_cells v_base v_favoured v_standing o_winners o_lead o_fewest v_choices v_votes) := by
  refine MTv.of (cc := cX0_mix) (nL := 6) (own := RX0) pn_X0 rfl rfl (Nat.le_of_ble_eq_true rfl) ?_
  intro p e s m args below meth c A ls Q C hP hD hS hl hret
  obtain ⟨hx, hb, hml, hts, hown, hK, hN, hA, hlk⟩ := id C
  have hl : lv_has ls 6 [(0, .ref a_this), (1, .int x1), (2, .int x2), (3, .int x3)] := hl
  obtain ⟨krec, hkr⟩ : ∃ krec : Int32 → Int32 → Int32 → Int32 → Int32 → Int32 → Option (Int32 × Int32 × Int32), krec = f_X0_mix N 2 v_base v_favoured v_standing v_choices v_votes := ⟨_, rfl⟩
  have hf : F_X0_mix N v_base v_favoured v_standing v_choices v_votes krec v_winners v_lead v_fewest x1 x2 x3 = some (o_winners, o_lead, o_fewest) := by rw [hkr]; exact hf
  unfold F_X0_mix at hf
  have L15 := wk_loopI (F := (fun k15 : Int32 → Int32 → Int32 → Int32 → Int32 → Int32 → Int32 → Option (Int32 × Int32 × Int32) => B_X0_mix_15 N v_base v_favoured v_standing v_choices v_votes krec k15)) (bot := fun _ _ _ _ _ _ _ => none) (fun k15 : Int32 → Int32 → Int32 → Int32 → Int32 → Int32 → Int32 → Option (Int32 × Int32 × Int32) => ∀ (v_winners : Int32) (v_lead : Int32) (v_fewest : Int32) (x1 : Int32) (x2 : Int32) (x3 : Int32) (x4 : Int32), k15 v_winners v_lead v_fewest x1 x2 x3 x4 = some (o_winners, o_lead, o_fewest) → ∀ (H : Heap) (locs : List Loc) (ls : Array Slot), va_P D vwCl (w_X0_mix cB cI cJ a_this a_votes a_choices a_choices_cells a_votes_cells v_base v_favoured v_standing v_winners v_lead v_fewest v_choices v_votes) H → va_D A (w_X0_mix cB cI cJ a_this a_votes a_choices a_choices_cells a_votes_cells v_base v_favoured v_standing v_winners v_lead v_fewest v_choices v_votes) → va_S A s.heap H locs → lv_has ls 6 [(0, .ref a_this), (1, .int x1), (2, .int x2), (3, .int x3), (4, .int x4)] → W p l e rm_X0_mix_3 s m args below meth c H locs 0 0 Q (F0 m 15 ls [])) (by intro v_winners v_lead v_fewest x1 x2 x3 x4 hf; exact wk_no hf) (by
    intro k15 ih15
    have J57 : ∀ (v_winners : Int32) (v_lead : Int32) (v_fewest : Int32) (x1 : Int32) (x2 : Int32) (x3 : Int32) (x4 : Int32) (s0 : Int32), B_X0_mix_57 N v_base v_favoured v_standing v_choices v_votes krec k15 v_winners v_lead v_fewest x1 x2 x3 x4 s0 = some (o_winners, o_lead, o_fewest) → ∀ (H : Heap) (locs : List Loc) (ls : Array Slot), va_P D vwCl (w_X0_mix cB cI cJ a_this a_votes a_choices a_choices_cells a_votes_cells v_base v_favoured v_standing v_winners v_lead v_fewest v_choices v_votes) H → va_D A (w_X0_mix cB cI cJ a_this a_votes a_choices a_choices_cells a_votes_cells v_base v_favoured v_standing v_winners v_lead v_fewest v_choices v_votes) → va_S A s.heap H locs → lv_has ls 6 [(0, .ref a_this), (1, .int x1), (2, .int x2), (3, .int x3), (4, .int x4)] → W p l e rm_X0_mix_3 s m args below meth c H locs 0 0 Q (F0 m 57 ls [.int s0]) := by
      intro v_winners v_lead v_fewest x1 x2 x3 x4 s0 hf H locs ls hP hD hS hl
      unfold B_X0_mix_57 at hf
      refine lv_istore (lv' := [(5, .int s0), (0, .ref a_this), (1, .int x1), (2, .int x2), (3, .int x3), (4, .int x4)]) hx hb dX0_mix_57 hl (by decide) rfl (fun ls hl => ?_)
      refine lv_aload_n hx hb dX0_mix_59 rfl (lv_at hl 1 rfl) ?_
      refine lv_iload_n hx hb dX0_mix_60 rfl (lv_at hl 2 rfl) ?_
      refine lv_iconst (v := (1 : Int32)) hx hb dX0_mix_61 (by decide) ?_
      refine lv_iadd hx hb dX0_mix_62 ?_
      refine lv_iload hx hb dX0_mix_63 (lv_at hl 0 rfl) ?_
      refine lv_iload_n hx hb dX0_mix_65 rfl (lv_at hl 4 rfl) ?_
      refine lv_aload_n hx hb dX0_mix_66 rfl (lv_at hl 1 rfl) ?_
      refine va_get (D := D) (ci := 0) (v := .ref a_votes) (C := RX0) (T := TX0) (N := 8) hx hb hts in_X0_mix_X0 hown hK hP 0 rfl rfl 0 (by decide) (hts (.fieldLink RX0 14 "HangingCards$Mixtures" "votes" "LHangingCards$Row;") (List.mem_of_getElem? (i := 3) rfl)) (fun _ h9 => h9) rfl dX0_mix_67 ?_
      refine lv_iload_n hx hb dX0_mix_70 rfl (lv_at hl 2 rfl) ?_
      refine lv_iload hx hb dX0_mix_71 (lv_at hl 5 rfl) ?_
      obtain ⟨r1, hc1, hf⟩ := wk_b1E hf
      refine wk_callSi2 C hP hD hS (c_X0_place l D cB cI cJ N x1 x4 hc1) (va_cwS 2 hts gX0_mix_X0_place rfl rfl rfl hd_X0_place.2 ⟨Nat.le_of_ble_eq_true rfl, Nat.le_of_ble_eq_true rfl⟩) hl.1 ⟨Nat.zero_le _, Nat.zero_le _⟩ [] [0, 1, 2, 3, 4] 5 (by decide +kernel) rfl (Wn := w_X0_mix cB cI cJ a_this a_votes a_choices a_choices_cells a_votes_cells v_base v_favoured v_standing v_winners v_lead v_fewest v_choices v_votes) rfl rfl rfl rfl rfl rfl rfl rfl (Nat.le_of_ble_eq_true rfl) dX0_mix_73 (fun H locs hP hD hS => ?_)
      obtain ⟨r2, hc2, hf⟩ := wk_b1E hf
      refine wk_callVi2 C hP hD hS (c_X6_get l D cB cI cJ N a_votes a_votes_cells 25 v_votes r1 hc2) (cwV 1 hts gX0_mix_X6_get rfl rfl rfl hd_X6_get ⟨Nat.le_of_ble_eq_true rfl, Nat.le_of_ble_eq_true rfl⟩) hl.1 ⟨Nat.zero_le _, Nat.zero_le _⟩ [3, 4] [0, 1, 2] 5 (by decide +kernel) rfl (Wn := w_X0_mix cB cI cJ a_this a_votes a_choices a_choices_cells a_votes_cells v_base v_favoured v_standing v_winners v_lead v_fewest v_choices v_votes) rfl rfl rfl rfl rfl rfl (ci := 6) rfl rfl (q0 := 3) rfl rfl rfl (Nat.le_of_ble_eq_true rfl) dX0_mix_76 (fun H locs hP hD hS => ?_)
      refine lv_iadd hx hb dX0_mix_79 ?_
      obtain ⟨o3_0, o3_1, o3_2, hc3, hf⟩ := wk_b3E hf
      rw [hkr] at hc3
      refine wk_callVv2 C hP hD hS (c_X0_mix_2 l D cB cI cJ N a_this a_votes a_choices a_choices_cells a_votes_cells v_base v_favoured v_standing v_winners v_lead v_fewest v_choices v_votes (x1 + (1 : Int32)) s0 (x3 + r2) hc3) (cwV 3 hts gX0_mix_X0_mix rfl rfl rfl hd_X0_mix ⟨Nat.le_of_ble_eq_true rfl, Nat.le_of_ble_eq_true rfl⟩) hl.1 ⟨Nat.zero_le _, Nat.zero_le _⟩ [0, 1, 2, 3, 4] [] 5 (by decide +kernel) rfl (Wn := w_X0_mix cB cI cJ a_this a_votes a_choices a_choices_cells a_votes_cells v_base v_favoured v_standing o3_0 o3_1 o3_2 v_choices v_votes) rfl rfl rfl rfl rfl rfl (ci := 0) rfl rfl (q0 := 0) rfl rfl rfl (Nat.le_of_ble_eq_true rfl) dX0_mix_80 (fun H locs hP hD hS => ?_)
      obtain ⟨y4, ey4⟩ : ∃ y : Int32, y = x4 + (1 : Int32) := ⟨_, rfl⟩
      have hf := wk_nmE hf ey4
      refine lv_iinc (v := y4) (lv' := [(4, .int y4), (5, .int s0), (0, .ref a_this), (1, .int x1), (2, .int x2), (3, .int x3)]) hx hb dX0_mix_83 hl (k := 5) rfl (by rw [ey4]; rfl) (by decide) rfl (fun ls hl => ?_)
      refine lv_goto (tgt := 15) hx hb dX0_mix_86 (by decide) ?_
      exact ih15 _ _ _ _ _ _ _ hf _ _ _ hP hD hS (lv_sub hl [2, 3, 4, 5, 0] rfl)
    intro v_winners v_lead v_fewest x1 x2 x3 x4 hf H locs ls hP hD hS hl
    have hf : B_X0_mix_15 N v_base v_favoured v_standing v_choices v_votes krec k15 v_winners v_lead v_fewest x1 x2 x3 x4 = some (o_winners, o_lead, o_fewest) := hf
    unfold B_X0_mix_15 at hf
    refine lv_iload hx hb dX0_mix_15 (lv_at hl 4 rfl) ?_
    refine lv_iconst (v := (5 : Int32)) hx hb dX0_mix_17 (by decide) ?_
    refine lv_icmp_gt (tgt := 89) hx hb dX0_mix_18 (by decide) (fun c5 => ?_) (fun c5 => ?_)
    · have hf := wk_itT hf c5
      exact hret _ _ _ _ _ dX0_mix_89 (wk_rt hf (fun z => w_X0_mix cB cI cJ a_this a_votes a_choices a_choices_cells a_votes_cells v_base v_favoured v_standing (z.1) (z.2.1) (z.2.2) v_choices v_votes)) hP hD hS
    · have hf := wk_itF hf c5
      refine lv_aload_n hx hb dX0_mix_21 rfl (lv_at hl 0 rfl) ?_
      refine va_get (D := D) (ci := 0) (v := .ref a_choices) (C := RX0) (T := TX0) (N := 8) hx hb hts in_X0_mix_X0 hown hK hP 0 rfl rfl 1 (by decide) (hts (.fieldLink RX0 20 "HangingCards$Mixtures" "choices" "LHangingCards$Row;") (List.mem_of_getElem? (i := 1) rfl)) (fun _ h9 => h9) rfl dX0_mix_22 ?_
      refine lv_iload_n hx hb dX0_mix_25 rfl (lv_at hl 1 rfl) ?_
      obtain ⟨r6, hc6, hf⟩ := wk_b1E hf
      refine wk_callVi2 C hP hD hS (c_X6_get l D cB cI cJ N a_choices a_choices_cells 5 v_choices x1 hc6) (cwV 1 hts gX0_mix_X6_get rfl rfl rfl hd_X6_get ⟨Nat.le_of_ble_eq_true rfl, Nat.le_of_ble_eq_true rfl⟩) hl.1 ⟨Nat.zero_le _, Nat.zero_le _⟩ [1, 2] [0, 3, 4] 5 (by decide +kernel) rfl (Wn := w_X0_mix cB cI cJ a_this a_votes a_choices a_choices_cells a_votes_cells v_base v_favoured v_standing v_winners v_lead v_fewest v_choices v_votes) rfl rfl rfl rfl rfl rfl (ci := 6) rfl rfl (q0 := 1) rfl rfl rfl (Nat.le_of_ble_eq_true rfl) dX0_mix_26 (fun H locs hP hD hS => ?_)
      refine lv_iload hx hb dX0_mix_29 (lv_at hl 4 rfl) ?_
      refine lv_iconst (v := (1 : Int32)) hx hb dX0_mix_31 (by decide) ?_
      refine lv_isub hx hb dX0_mix_32 ?_
      obtain ⟨r7, hc7, hf⟩ := wk_b1E hf
      refine wk_callNi2 C hP hD hS (c_X10_hasBit l D cB cI cJ N r6 (x4 - (1 : Int32)) hc7) ⟨va_cnB 2 hts gX0_mix_X10_hasBit_n75 rfl rfl rfl hN.2.2.1 (hts (.initialized RX10) (List.mem_of_getElem? (i := 19) rfl)) hd_X10_hasBit.2 ⟨Nat.le_of_ble_eq_true rfl, Nat.le_of_ble_eq_true rfl⟩, (hts (.static yX10_hasBit) (List.mem_of_getElem? (i := 45) rfl)), trivial⟩ hl.1 ⟨Nat.zero_le _, Nat.zero_le _⟩ [] [0, 1, 2, 3, 4] 5 (by decide +kernel) rfl (Wn := w_X0_mix cB cI cJ a_this a_votes a_choices a_choices_cells a_votes_cells v_base v_favoured v_standing v_winners v_lead v_fewest v_choices v_votes) rfl rfl rfl rfl rfl rfl rfl rfl (Nat.le_of_ble_eq_true rfl) dX0_mix_33 (fun H locs hP hD hS => ?_)
      refine lv_if_eq (tgt := 83) hx hb dX0_mix_36 (by decide) (fun c8 => ?_) (fun c8 => ?_)
      · have hf := wk_itT hf c8
        obtain ⟨y9, ey9⟩ : ∃ y : Int32, y = x4 + (1 : Int32) := ⟨_, rfl⟩
        have hf := wk_nmE hf ey9
        refine lv_iinc (v := y9) (lv' := [(4, .int y9), (0, .ref a_this), (1, .int x1), (2, .int x2), (3, .int x3)]) hx hb dX0_mix_83 hl (k := 4) rfl (by rw [ey9]; rfl) (by decide) rfl (fun ls hl => ?_)
        refine lv_goto (tgt := 15) hx hb dX0_mix_86 (by decide) ?_
        exact ih15 _ _ _ _ _ _ _ hf _ _ _ hP hD hS (lv_sub hl [1, 2, 3, 4, 0] rfl)
      · have hf := wk_itF hf c8
        refine lv_iload hx hb dX0_mix_39 (lv_at hl 4 rfl) ?_
        refine lv_aload_n hx hb dX0_mix_41 rfl (lv_at hl 0 rfl) ?_
        refine va_get (D := D) (ci := 0) (v := .int v_base) (C := RX0) (T := TX0) (N := 8) hx hb hts in_X0_mix_X0 hown hK hP 0 rfl rfl 2 (by decide) (hts (.fieldLink RX0 23 "HangingCards$Mixtures" "base" "I") (List.mem_of_getElem? (i := 2) rfl)) (fun _ h9 => h9) rfl dX0_mix_42 ?_
        refine lv_icmp_ne (tgt := 52) hx hb dX0_mix_45 (by decide) (fun c10 => ?_) (fun c10 => ?_)
        · have hf := wk_itF hf c10
          refine lv_iload_n hx hb dX0_mix_52 rfl (lv_at hl 2 rfl) ?_
          refine lv_iconst (v := (1 : Int32)) hx hb dX0_mix_53 (by decide) ?_
          refine lv_iload_n hx hb dX0_mix_54 rfl (lv_at hl 1 rfl) ?_
          refine lv_ishl hx hb dX0_mix_55 ?_
          refine lv_ior hx hb dX0_mix_56 ?_
          exact J57 _ _ _ _ _ _ _ _ hf _ _ _ hP hD hS (lv_sub hl [0, 1, 2, 3, 4] rfl)
        · have hf := wk_itT hf c10
          refine lv_iload_n hx hb dX0_mix_48 rfl (lv_at hl 2 rfl) ?_
          refine lv_goto (tgt := 57) hx hb dX0_mix_49 (by decide) ?_
          exact J57 _ _ _ _ _ _ _ _ hf _ _ _ hP hD hS (lv_sub hl [0, 1, 2, 3, 4] rfl))
  refine lv_iload_n hx hb dX0_mix_0 rfl (lv_at hl 1 rfl) ?_
  refine lv_iconst (v := (5 : Int32)) hx hb dX0_mix_1 (by decide) ?_
  refine lv_icmp_lt (tgt := 12) hx hb dX0_mix_2 (by decide) (fun c11 => ?_) (fun c11 => ?_)
  · have hf := wk_itT hf c11
    refine lv_iconst (v := (1 : Int32)) hx hb dX0_mix_12 (by decide) ?_
    refine lv_istore (lv' := [(4, .int (1 : Int32)), (0, .ref a_this), (1, .int x1), (2, .int x2), (3, .int x3)]) hx hb dX0_mix_13 hl (by decide) rfl (fun ls hl => ?_)
    exact L15 N _ _ _ _ _ _ _ hf _ _ _ hP hD hS (lv_sub hl [1, 2, 3, 4, 0] rfl)
  · have hf := wk_itF hf c11
    refine lv_aload_n hx hb dX0_mix_5 rfl (lv_at hl 0 rfl) ?_
    refine lv_iload_n hx hb dX0_mix_6 rfl (lv_at hl 2 rfl) ?_
    refine lv_iload_n hx hb dX0_mix_7 rfl (lv_at hl 3 rfl) ?_
    obtain ⟨o12_0, o12_1, o12_2, hc12, hf⟩ := wk_b3E hf
    refine wk_callVv2 C hP hD hS (c_X0_weigh l D cB cI cJ N a_this a_votes a_choices v_base v_favoured v_standing v_winners v_lead v_fewest x2 x3 hc12) (cwV 2 hts gX0_mix_X0_weigh rfl rfl rfl hd_X0_weigh ⟨Nat.le_of_ble_eq_true rfl, Nat.le_of_ble_eq_true rfl⟩) hl.1 ⟨Nat.zero_le _, Nat.zero_le _⟩ [0] [1, 2, 3, 4] 5 (by decide +kernel) rfl (Wn := w_X0_mix cB cI cJ a_this a_votes a_choices a_choices_cells a_votes_cells v_base v_favoured v_standing o12_0 o12_1 o12_2 v_choices v_votes) rfl rfl rfl rfl rfl rfl (ci := 0) rfl rfl (q0 := 0) rfl rfl rfl (Nat.le_of_ble_eq_true rfl) dX0_mix_8 (fun H locs hP hD hS => ?_)
    exact hret _ _ _ _ _ dX0_mix_11 (wk_rt hf (fun z => w_X0_mix cB cI cJ a_this a_votes a_choices a_choices_cells a_votes_cells v_base v_favoured v_standing (z.1) (z.2.1) (z.2.2) v_choices v_votes)) hP hD hS
abbrev rm_X0_mix_4 : Room := { frames := 8, cells := 0, slots := 0, locals := 188 }
set_option maxHeartbeats 4000000 in
set_option maxRecDepth 100000 in
theorem c_X0_mix_4 (l : Launch) (D : va_G) (cB cI cJ : ClassId) (N : Nat) (a_this : Nat) (a_votes : Nat) (a_choices : Nat) (a_choices_cells : Nat) (a_votes_cells : Nat) (v_base : Int32) (v_favoured : Int32) (v_standing : Int32) (v_winners : Int32) (v_lead : Int32) (v_fewest : Int32) (v_choices : Nat → Int32) (v_votes : Nat → Int32) (x1 : Int32) (x2 : Int32) (x3 : Int32) {o_winners : Int32} {o_lead : Int32} {o_fewest : Int32} (hf : f_X0_mix N 4 v_base v_favoured v_standing v_choices v_votes v_winners v_lead v_fewest x1 x2 x3 = some (o_winners, o_lead, o_fewest)) : MTv l yX0_mix wsX0_mix rm_X0_mix_4 D (wk_T cB cI cJ) [.ref a_this, .int x1, .int x2, .int x3] (w_X0_mix cB cI cJ a_this a_votes a_choices a_choices_cells a_votes_cells v_base v_favoured v_standing v_winners v_lead v_fewest v_choices v_votes) (w_X0_mix cB cI cJ a_this a_votes a_choices a_choices_cells a_votes_cells v_base v_favoured v_standing o_winners o_lead o_fewest v_choices v_votes) := by
  refine MTv.of (cc := cX0_mix) (nL := 6) (own := RX0) pn_X0 rfl rfl (Nat.le_of_ble_eq_true rfl) ?_
  intro p e s m args below meth c A ls Q C hP hD hS hl hret
  obtain ⟨hx, hb, hml, hts, hown, hK, hN, hA, hlk⟩ := id C
  have hl : lv_has ls 6 [(0, .ref a_this), (1, .int x1), (2, .int x2), (3, .int x3)] := hl
  obtain ⟨krec, hkr⟩ : ∃ krec : Int32 → Int32 → Int32 → Int32 → Int32 → Int32 → Option (Int32 × Int32 × Int32), krec = f_X0_mix N 3 v_base v_favoured v_standing v_choices v_votes := ⟨_, rfl⟩
  have hf : F_X0_mix N v_base v_favoured v_standing v_choices v_votes krec v_winners v_lead v_fewest x1 x2 x3 = some (o_winners, o_lead, o_fewest) := by rw [hkr]; exact hf
  unfold F_X0_mix at hf
  have L15 := wk_loopI (F := (fun k15 : Int32 → Int32 → Int32 → Int32 → Int32 → Int32 → Int32 → Option (Int32 × Int32 × Int32) => B_X0_mix_15 N v_base v_favoured v_standing v_choices v_votes krec k15)) (bot := fun _ _ _ _ _ _ _ => none) (fun k15 : Int32 → Int32 → Int32 → Int32 → Int32 → Int32 → Int32 → Option (Int32 × Int32 × Int32) => ∀ (v_winners : Int32) (v_lead : Int32) (v_fewest : Int32) (x1 : Int32) (x2 : Int32) (x3 : Int32) (x4 : Int32), k15 v_winners v_lead v_fewest x1 x2 x3 x4 = some (o_winners, o_lead, o_fewest) → ∀ (H : Heap) (locs : List Loc) (ls : Array Slot), va_P D vwCl (w_X0_mix cB cI cJ a_this a_votes a_choices a_choices_cells a_votes_cells v_base v_favoured v_standing v_winners v_lead v_fewest v_choices v_votes) H → va_D A (w_X0_mix cB cI cJ a_this a_votes a_choices a_choices_cells a_votes_cells v_base v_favoured v_standing v_winners v_lead v_fewest v_choices v_votes) → va_S A s.heap H locs → lv_has ls 6 [(0, .ref a_this), (1, .int x1), (2, .int x2), (3, .int x3), (4, .int x4)] → W p l e rm_X0_mix_4 s m args below meth c H locs 0 0 Q (F0 m 15 ls [])) (by intro v_winners v_lead v_fewest x1 x2 x3 x4 hf; exact wk_no hf) (by
    intro k15 ih15
    have J57 : ∀ (v_winners : Int32) (v_lead : Int32) (v_fewest : Int32) (x1 : Int32) (x2 : Int32) (x3 : Int32) (x4 : Int32) (s0 : Int32), B_X0_mix_57 N v_base v_favoured v_standing v_choices v_votes krec k15 v_winners v_lead v_fewest x1 x2 x3 x4 s0 = some (o_winners, o_lead, o_fewest) → ∀ (H : Heap) (locs : List Loc) (ls : Array Slot), va_P D vwCl (w_X0_mix cB cI cJ a_this a_votes a_choices a_choices_cells a_votes_cells v_base v_favoured v_standing v_winners v_lead v_fewest v_choices v_votes) H → va_D A (w_X0_mix cB cI cJ a_this a_votes a_choices a_choices_cells a_votes_cells v_base v_favoured v_standing v_winners v_lead v_fewest v_choices v_votes) → va_S A s.heap H locs → lv_has ls 6 [(0, .ref a_this), (1, .int x1), (2, .int x2), (3, .int x3), (4, .int x4)] → W p l e rm_X0_mix_4 s m args below meth c H locs 0 0 Q (F0 m 57 ls [.int s0]) := by
      intro v_winners v_lead v_fewest x1 x2 x3 x4 s0 hf H locs ls hP hD hS hl
      unfold B_X0_mix_57 at hf
      refine lv_istore (lv' := [(5, .int s0), (0, .ref a_this), (1, .int x1), (2, .int x2), (3, .int x3), (4, .int x4)]) hx hb dX0_mix_57 hl (by decide) rfl (fun ls hl => ?_)
      refine lv_aload_n hx hb dX0_mix_59 rfl (lv_at hl 1 rfl) ?_
      refine lv_iload_n hx hb dX0_mix_60 rfl (lv_at hl 2 rfl) ?_
      refine lv_iconst (v := (1 : Int32)) hx hb dX0_mix_61 (by decide) ?_
      refine lv_iadd hx hb dX0_mix_62 ?_
      refine lv_iload hx hb dX0_mix_63 (lv_at hl 0 rfl) ?_
      refine lv_iload_n hx hb dX0_mix_65 rfl (lv_at hl 4 rfl) ?_
      refine lv_aload_n hx hb dX0_mix_66 rfl (lv_at hl 1 rfl) ?_
      refine va_get (D := D) (ci := 0) (v := .ref a_votes) (C := RX0) (T := TX0) (N := 8) hx hb hts in_X0_mix_X0 hown hK hP 0 rfl rfl 0 (by decide) (hts (.fieldLink RX0 14 "HangingCards$Mixtures" "votes" "LHangingCards$Row;") (List.mem_of_getElem? (i := 3) rfl)) (fun _ h9 => h9) rfl dX0_mix_67 ?_
      refine lv_iload_n hx hb dX0_mix_70 rfl (lv_at hl 2 rfl) ?_
      refine lv_iload hx hb dX0_mix_71 (lv_at hl 5 rfl) ?_
      obtain ⟨r1, hc1, hf⟩ := wk_b1E hf
      refine wk_callSi2 C hP hD hS (c_X0_place l D cB cI cJ N x1 x4 hc1) (va_cwS 2 hts gX0_mix_X0_place rfl rfl rfl hd_X0_place.2 ⟨Nat.le_of_ble_eq_true rfl, Nat.le_of_ble_eq_true rfl⟩) hl.1 ⟨Nat.zero_le _, Nat.zero_le _⟩ [] [0, 1, 2, 3, 4] 5 (by decide +kernel) rfl (Wn := w_X0_mix cB cI cJ a_this a_votes a_choices a_choices_cells a_votes_cells v_base v_favoured v_standing v_winners v_lead v_fewest v_choices v_votes) rfl rfl rfl rfl rfl rfl rfl rfl (Nat.le_of_ble_eq_true rfl) dX0_mix_73 (fun H locs hP hD hS => ?_)
      obtain ⟨r2, hc2, hf⟩ := wk_b1E hf
      refine wk_callVi2 C hP hD hS (c_X6_get l D cB cI cJ N a_votes a_votes_cells 25 v_votes r1 hc2) (cwV 1 hts gX0_mix_X6_get rfl rfl rfl hd_X6_get ⟨Nat.le_of_ble_eq_true rfl, Nat.le_of_ble_eq_true rfl⟩) hl.1 ⟨Nat.zero_le _, Nat.zero_le _⟩ [3, 4] [0, 1, 2] 5 (by decide +kernel) rfl (Wn := w_X0_mix cB cI cJ a_this a_votes a_choices a_choices_cells a_votes_cells v_base v_favoured v_standing v_winners v_lead v_fewest v_choices v_votes) rfl rfl rfl rfl rfl rfl (ci := 6) rfl rfl (q0 := 3) rfl rfl rfl (Nat.le_of_ble_eq_true rfl) dX0_mix_76 (fun H locs hP hD hS => ?_)
      refine lv_iadd hx hb dX0_mix_79 ?_
      obtain ⟨o3_0, o3_1, o3_2, hc3, hf⟩ := wk_b3E hf
      rw [hkr] at hc3
      refine wk_callVv2 C hP hD hS (c_X0_mix_3 l D cB cI cJ N a_this a_votes a_choices a_choices_cells a_votes_cells v_base v_favoured v_standing v_winners v_lead v_fewest v_choices v_votes (x1 + (1 : Int32)) s0 (x3 + r2) hc3) (cwV 3 hts gX0_mix_X0_mix rfl rfl rfl hd_X0_mix ⟨Nat.le_of_ble_eq_true rfl, Nat.le_of_ble_eq_true rfl⟩) hl.1 ⟨Nat.zero_le _, Nat.zero_le _⟩ [0, 1, 2, 3, 4] [] 5 (by decide +kernel) rfl (Wn := w_X0_mix cB cI cJ a_this a_votes a_choices a_choices_cells a_votes_cells v_base v_favoured v_standing o3_0 o3_1 o3_2 v_choices v_votes) rfl rfl rfl rfl rfl rfl (ci := 0) rfl rfl (q0 := 0) rfl rfl rfl (Nat.le_of_ble_eq_true rfl) dX0_mix_80 (fun H locs hP hD hS => ?_)
      obtain ⟨y4, ey4⟩ : ∃ y : Int32, y = x4 + (1 : Int32) := ⟨_, rfl⟩
      have hf := wk_nmE hf ey4
      refine lv_iinc (v := y4) (lv' := [(4, .int y4), (5, .int s0), (0, .ref a_this), (1, .int x1), (2, .int x2), (3, .int x3)]) hx hb dX0_mix_83 hl (k := 5) rfl (by rw [ey4]; rfl) (by decide) rfl (fun ls hl => ?_)
      refine lv_goto (tgt := 15) hx hb dX0_mix_86 (by decide) ?_
      exact ih15 _ _ _ _ _ _ _ hf _ _ _ hP hD hS (lv_sub hl [2, 3, 4, 5, 0] rfl)
    intro v_winners v_lead v_fewest x1 x2 x3 x4 hf H locs ls hP hD hS hl
    have hf : B_X0_mix_15 N v_base v_favoured v_standing v_choices v_votes krec k15 v_winners v_lead v_fewest x1 x2 x3 x4 = some (o_winners, o_lead, o_fewest) := hf
    unfold B_X0_mix_15 at hf
    refine lv_iload hx hb dX0_mix_15 (lv_at hl 4 rfl) ?_
    refine lv_iconst (v := (5 : Int32)) hx hb dX0_mix_17 (by decide) ?_
    refine lv_icmp_gt (tgt := 89) hx hb dX0_mix_18 (by decide) (fun c5 => ?_) (fun c5 => ?_)
    · have hf := wk_itT hf c5
      exact hret _ _ _ _ _ dX0_mix_89 (wk_rt hf (fun z => w_X0_mix cB cI cJ a_this a_votes a_choices a_choices_cells a_votes_cells v_base v_favoured v_standing (z.1) (z.2.1) (z.2.2) v_choices v_votes)) hP hD hS
    · have hf := wk_itF hf c5
      refine lv_aload_n hx hb dX0_mix_21 rfl (lv_at hl 0 rfl) ?_
      refine va_get (D := D) (ci := 0) (v := .ref a_choices) (C := RX0) (T := TX0) (N := 8) hx hb hts in_X0_mix_X0 hown hK hP 0 rfl rfl 1 (by decide) (hts (.fieldLink RX0 20 "HangingCards$Mixtures" "choices" "LHangingCards$Row;") (List.mem_of_getElem? (i := 1) rfl)) (fun _ h9 => h9) rfl dX0_mix_22 ?_
      refine lv_iload_n hx hb dX0_mix_25 rfl (lv_at hl 1 rfl) ?_
      obtain ⟨r6, hc6, hf⟩ := wk_b1E hf
      refine wk_callVi2 C hP hD hS (c_X6_get l D cB cI cJ N a_choices a_choices_cells 5 v_choices x1 hc6) (cwV 1 hts gX0_mix_X6_get rfl rfl rfl hd_X6_get ⟨Nat.le_of_ble_eq_true rfl, Nat.le_of_ble_eq_true rfl⟩) hl.1 ⟨Nat.zero_le _, Nat.zero_le _⟩ [1, 2] [0, 3, 4] 5 (by decide +kernel) rfl (Wn := w_X0_mix cB cI cJ a_this a_votes a_choices a_choices_cells a_votes_cells v_base v_favoured v_standing v_winners v_lead v_fewest v_choices v_votes) rfl rfl rfl rfl rfl rfl (ci := 6) rfl rfl (q0 := 1) rfl rfl rfl (Nat.le_of_ble_eq_true rfl) dX0_mix_26 (fun H locs hP hD hS => ?_)
      refine lv_iload hx hb dX0_mix_29 (lv_at hl 4 rfl) ?_
      refine lv_iconst (v := (1 : Int32)) hx hb dX0_mix_31 (by decide) ?_
      refine lv_isub hx hb dX0_mix_32 ?_
      obtain ⟨r7, hc7, hf⟩ := wk_b1E hf
      refine wk_callNi2 C hP hD hS (c_X10_hasBit l D cB cI cJ N r6 (x4 - (1 : Int32)) hc7) ⟨va_cnB 2 hts gX0_mix_X10_hasBit_n75 rfl rfl rfl hN.2.2.1 (hts (.initialized RX10) (List.mem_of_getElem? (i := 19) rfl)) hd_X10_hasBit.2 ⟨Nat.le_of_ble_eq_true rfl, Nat.le_of_ble_eq_true rfl⟩, (hts (.static yX10_hasBit) (List.mem_of_getElem? (i := 45) rfl)), trivial⟩ hl.1 ⟨Nat.zero_le _, Nat.zero_le _⟩ [] [0, 1, 2, 3, 4] 5 (by decide +kernel) rfl (Wn := w_X0_mix cB cI cJ a_this a_votes a_choices a_choices_cells a_votes_cells v_base v_favoured v_standing v_winners v_lead v_fewest v_choices v_votes) rfl rfl rfl rfl rfl rfl rfl rfl (Nat.le_of_ble_eq_true rfl) dX0_mix_33 (fun H locs hP hD hS => ?_)
      refine lv_if_eq (tgt := 83) hx hb dX0_mix_36 (by decide) (fun c8 => ?_) (fun c8 => ?_)
      · have hf := wk_itT hf c8
        obtain ⟨y9, ey9⟩ : ∃ y : Int32, y = x4 + (1 : Int32) := ⟨_, rfl⟩
        have hf := wk_nmE hf ey9
        refine lv_iinc (v := y9) (lv' := [(4, .int y9), (0, .ref a_this), (1, .int x1), (2, .int x2), (3, .int x3)]) hx hb dX0_mix_83 hl (k := 4) rfl (by rw [ey9]; rfl) (by decide) rfl (fun ls hl => ?_)
        refine lv_goto (tgt := 15) hx hb dX0_mix_86 (by decide) ?_
        exact ih15 _ _ _ _ _ _ _ hf _ _ _ hP hD hS (lv_sub hl [1, 2, 3, 4, 0] rfl)
      · have hf := wk_itF hf c8
        refine lv_iload hx hb dX0_mix_39 (lv_at hl 4 rfl) ?_
        refine lv_aload_n hx hb dX0_mix_41 rfl (lv_at hl 0 rfl) ?_
        refine va_get (D := D) (ci := 0) (v := .int v_base) (C := RX0) (T := TX0) (N := 8) hx hb hts in_X0_mix_X0 hown hK hP 0 rfl rfl 2 (by decide) (hts (.fieldLink RX0 23 "HangingCards$Mixtures" "base" "I") (List.mem_of_getElem? (i := 2) rfl)) (fun _ h9 => h9) rfl dX0_mix_42 ?_
        refine lv_icmp_ne (tgt := 52) hx hb dX0_mix_45 (by decide) (fun c10 => ?_) (fun c10 => ?_)
        · have hf := wk_itF hf c10
          refine lv_iload_n hx hb dX0_mix_52 rfl (lv_at hl 2 rfl) ?_
          refine lv_iconst (v := (1 : Int32)) hx hb dX0_mix_53 (by decide) ?_
          refine lv_iload_n hx hb dX0_mix_54 rfl (lv_at hl 1 rfl) ?_
          refine lv_ishl hx hb dX0_mix_55 ?_
          refine lv_ior hx hb dX0_mix_56 ?_
          exact J57 _ _ _ _ _ _ _ _ hf _ _ _ hP hD hS (lv_sub hl [0, 1, 2, 3, 4] rfl)
        · have hf := wk_itT hf c10
          refine lv_iload_n hx hb dX0_mix_48 rfl (lv_at hl 2 rfl) ?_
          refine lv_goto (tgt := 57) hx hb dX0_mix_49 (by decide) ?_
          exact J57 _ _ _ _ _ _ _ _ hf _ _ _ hP hD hS (lv_sub hl [0, 1, 2, 3, 4] rfl))
  refine lv_iload_n hx hb dX0_mix_0 rfl (lv_at hl 1 rfl) ?_
  refine lv_iconst (v := (5 : Int32)) hx hb dX0_mix_1 (by decide) ?_
  refine lv_icmp_lt (tgt := 12) hx hb dX0_mix_2 (by decide) (fun c11 => ?_) (fun c11 => ?_)
  · have hf := wk_itT hf c11
    refine lv_iconst (v := (1 : Int32)) hx hb dX0_mix_12 (by decide) ?_
    refine lv_istore (lv' := [(4, .int (1 : Int32)), (0, .ref a_this), (1, .int x1), (2, .int x2), (3, .int x3)]) hx hb dX0_mix_13 hl (by decide) rfl (fun ls hl => ?_)
    exact L15 N _ _ _ _ _ _ _ hf _ _ _ hP hD hS (lv_sub hl [1, 2, 3, 4, 0] rfl)
  · have hf := wk_itF hf c11
    refine lv_aload_n hx hb dX0_mix_5 rfl (lv_at hl 0 rfl) ?_
    refine lv_iload_n hx hb dX0_mix_6 rfl (lv_at hl 2 rfl) ?_
    refine lv_iload_n hx hb dX0_mix_7 rfl (lv_at hl 3 rfl) ?_
    obtain ⟨o12_0, o12_1, o12_2, hc12, hf⟩ := wk_b3E hf
    refine wk_callVv2 C hP hD hS (c_X0_weigh l D cB cI cJ N a_this a_votes a_choices v_base v_favoured v_standing v_winners v_lead v_fewest x2 x3 hc12) (cwV 2 hts gX0_mix_X0_weigh rfl rfl rfl hd_X0_weigh ⟨Nat.le_of_ble_eq_true rfl, Nat.le_of_ble_eq_true rfl⟩) hl.1 ⟨Nat.zero_le _, Nat.zero_le _⟩ [0] [1, 2, 3, 4] 5 (by decide +kernel) rfl (Wn := w_X0_mix cB cI cJ a_this a_votes a_choices a_choices_cells a_votes_cells v_base v_favoured v_standing o12_0 o12_1 o12_2 v_choices v_votes) rfl rfl rfl rfl rfl rfl (ci := 0) rfl rfl (q0 := 0) rfl rfl rfl (Nat.le_of_ble_eq_true rfl) dX0_mix_8 (fun H locs hP hD hS => ?_)
    exact hret _ _ _ _ _ dX0_mix_11 (wk_rt hf (fun z => w_X0_mix cB cI cJ a_this a_votes a_choices a_choices_cells a_votes_cells v_base v_favoured v_standing (z.1) (z.2.1) (z.2.2) v_choices v_votes)) hP hD hS
abbrev rm_X0_mix_5 : Room := { frames := 9, cells := 0, slots := 0, locals := 213 }
set_option maxHeartbeats 4000000 in
set_option maxRecDepth 100000 in
theorem c_X0_mix_5 (l : Launch) (D : va_G) (cB cI cJ : ClassId) (N : Nat) (a_this : Nat) (a_votes : Nat) (a_choices : Nat) (a_choices_cells : Nat) (a_votes_cells : Nat) (v_base : Int32) (v_favoured : Int32) (v_standing : Int32) (v_winners : Int32) (v_lead : Int32) (v_fewest : Int32) (v_choices : Nat → Int32) (v_votes : Nat → Int32) (x1 : Int32) (x2 : Int32) (x3 : Int32) {o_winners : Int32} {o_lead : Int32} {o_fewest : Int32} (hf : f_X0_mix N 5 v_base v_favoured v_standing v_choices v_votes v_winners v_lead v_fewest x1 x2 x3 = some (o_winners, o_lead, o_fewest)) : MTv l yX0_mix wsX0_mix rm_X0_mix_5 D (wk_T cB cI cJ) [.ref a_this, .int x1, .int x2, .int x3] (w_X0_mix cB cI cJ a_this a_votes a_choices a_choices_cells a_votes_cells v_base v_favoured v_standing v_winners v_lead v_fewest v_choices v_votes) (w_X0_mix cB cI cJ a_this a_votes a_choices a_choices_cells a_votes_cells v_base v_favoured v_standing o_winners o_lead o_fewest v_choices v_votes) := by
  refine MTv.of (cc := cX0_mix) (nL := 6) (own := RX0) pn_X0 rfl rfl (Nat.le_of_ble_eq_true rfl) ?_
  intro p e s m args below meth c A ls Q C hP hD hS hl hret
  obtain ⟨hx, hb, hml, hts, hown, hK, hN, hA, hlk⟩ := id C
  have hl : lv_has ls 6 [(0, .ref a_this), (1, .int x1), (2, .int x2), (3, .int x3)] := hl
  obtain ⟨krec, hkr⟩ : ∃ krec : Int32 → Int32 → Int32 → Int32 → Int32 → Int32 → Option (Int32 × Int32 × Int32), krec = f_X0_mix N 4 v_base v_favoured v_standing v_choices v_votes := ⟨_, rfl⟩
  have hf : F_X0_mix N v_base v_favoured v_standing v_choices v_votes krec v_winners v_lead v_fewest x1 x2 x3 = some (o_winners, o_lead, o_fewest) := by rw [hkr]; exact hf
  unfold F_X0_mix at hf
  have L15 := wk_loopI (F := (fun k15 : Int32 → Int32 → Int32 → Int32 → Int32 → Int32 → Int32 → Option (Int32 × Int32 × Int32) => B_X0_mix_15 N v_base v_favoured v_standing v_choices v_votes krec k15)) (bot := fun _ _ _ _ _ _ _ => none) (fun k15 : Int32 → Int32 → Int32 → Int32 → Int32 → Int32 → Int32 → Option (Int32 × Int32 × Int32) => ∀ (v_winners : Int32) (v_lead : Int32) (v_fewest : Int32) (x1 : Int32) (x2 : Int32) (x3 : Int32) (x4 : Int32), k15 v_winners v_lead v_fewest x1 x2 x3 x4 = some (o_winners, o_lead, o_fewest) → ∀ (H : Heap) (locs : List Loc) (ls : Array Slot), va_P D vwCl (w_X0_mix cB cI cJ a_this a_votes a_choices a_choices_cells a_votes_cells v_base v_favoured v_standing v_winners v_lead v_fewest v_choices v_votes) H → va_D A (w_X0_mix cB cI cJ a_this a_votes a_choices a_choices_cells a_votes_cells v_base v_favoured v_standing v_winners v_lead v_fewest v_choices v_votes) → va_S A s.heap H locs → lv_has ls 6 [(0, .ref a_this), (1, .int x1), (2, .int x2), (3, .int x3), (4, .int x4)] → W p l e rm_X0_mix_5 s m args below meth c H locs 0 0 Q (F0 m 15 ls [])) (by intro v_winners v_lead v_fewest x1 x2 x3 x4 hf; exact wk_no hf) (by
    intro k15 ih15
    have J57 : ∀ (v_winners : Int32) (v_lead : Int32) (v_fewest : Int32) (x1 : Int32) (x2 : Int32) (x3 : Int32) (x4 : Int32) (s0 : Int32), B_X0_mix_57 N v_base v_favoured v_standing v_choices v_votes krec k15 v_winners v_lead v_fewest x1 x2 x3 x4 s0 = some (o_winners, o_lead, o_fewest) → ∀ (H : Heap) (locs : List Loc) (ls : Array Slot), va_P D vwCl (w_X0_mix cB cI cJ a_this a_votes a_choices a_choices_cells a_votes_cells v_base v_favoured v_standing v_winners v_lead v_fewest v_choices v_votes) H → va_D A (w_X0_mix cB cI cJ a_this a_votes a_choices a_choices_cells a_votes_cells v_base v_favoured v_standing v_winners v_lead v_fewest v_choices v_votes) → va_S A s.heap H locs → lv_has ls 6 [(0, .ref a_this), (1, .int x1), (2, .int x2), (3, .int x3), (4, .int x4)] → W p l e rm_X0_mix_5 s m args below meth c H locs 0 0 Q (F0 m 57 ls [.int s0]) := by
      intro v_winners v_lead v_fewest x1 x2 x3 x4 s0 hf H locs ls hP hD hS hl
      unfold B_X0_mix_57 at hf
      refine lv_istore (lv' := [(5, .int s0), (0, .ref a_this), (1, .int x1), (2, .int x2), (3, .int x3), (4, .int x4)]) hx hb dX0_mix_57 hl (by decide) rfl (fun ls hl => ?_)
      refine lv_aload_n hx hb dX0_mix_59 rfl (lv_at hl 1 rfl) ?_
      refine lv_iload_n hx hb dX0_mix_60 rfl (lv_at hl 2 rfl) ?_
      refine lv_iconst (v := (1 : Int32)) hx hb dX0_mix_61 (by decide) ?_
      refine lv_iadd hx hb dX0_mix_62 ?_
      refine lv_iload hx hb dX0_mix_63 (lv_at hl 0 rfl) ?_
      refine lv_iload_n hx hb dX0_mix_65 rfl (lv_at hl 4 rfl) ?_
      refine lv_aload_n hx hb dX0_mix_66 rfl (lv_at hl 1 rfl) ?_
      refine va_get (D := D) (ci := 0) (v := .ref a_votes) (C := RX0) (T := TX0) (N := 8) hx hb hts in_X0_mix_X0 hown hK hP 0 rfl rfl 0 (by decide) (hts (.fieldLink RX0 14 "HangingCards$Mixtures" "votes" "LHangingCards$Row;") (List.mem_of_getElem? (i := 3) rfl)) (fun _ h9 => h9) rfl dX0_mix_67 ?_
      refine lv_iload_n hx hb dX0_mix_70 rfl (lv_at hl 2 rfl) ?_
      refine lv_iload hx hb dX0_mix_71 (lv_at hl 5 rfl) ?_
      obtain ⟨r1, hc1, hf⟩ := wk_b1E hf
      refine wk_callSi2 C hP hD hS (c_X0_place l D cB cI cJ N x1 x4 hc1) (va_cwS 2 hts gX0_mix_X0_place rfl rfl rfl hd_X0_place.2 ⟨Nat.le_of_ble_eq_true rfl, Nat.le_of_ble_eq_true rfl⟩) hl.1 ⟨Nat.zero_le _, Nat.zero_le _⟩ [] [0, 1, 2, 3, 4] 5 (by decide +kernel) rfl (Wn := w_X0_mix cB cI cJ a_this a_votes a_choices a_choices_cells a_votes_cells v_base v_favoured v_standing v_winners v_lead v_fewest v_choices v_votes) rfl rfl rfl rfl rfl rfl rfl rfl (Nat.le_of_ble_eq_true rfl) dX0_mix_73 (fun H locs hP hD hS => ?_)
      obtain ⟨r2, hc2, hf⟩ := wk_b1E hf
      refine wk_callVi2 C hP hD hS (c_X6_get l D cB cI cJ N a_votes a_votes_cells 25 v_votes r1 hc2) (cwV 1 hts gX0_mix_X6_get rfl rfl rfl hd_X6_get ⟨Nat.le_of_ble_eq_true rfl, Nat.le_of_ble_eq_true rfl⟩) hl.1 ⟨Nat.zero_le _, Nat.zero_le _⟩ [3, 4] [0, 1, 2] 5 (by decide +kernel) rfl (Wn := w_X0_mix cB cI cJ a_this a_votes a_choices a_choices_cells a_votes_cells v_base v_favoured v_standing v_winners v_lead v_fewest v_choices v_votes) rfl rfl rfl rfl rfl rfl (ci := 6) rfl rfl (q0 := 3) rfl rfl rfl (Nat.le_of_ble_eq_true rfl) dX0_mix_76 (fun H locs hP hD hS => ?_)
      refine lv_iadd hx hb dX0_mix_79 ?_
      obtain ⟨o3_0, o3_1, o3_2, hc3, hf⟩ := wk_b3E hf
      rw [hkr] at hc3
      refine wk_callVv2 C hP hD hS (c_X0_mix_4 l D cB cI cJ N a_this a_votes a_choices a_choices_cells a_votes_cells v_base v_favoured v_standing v_winners v_lead v_fewest v_choices v_votes (x1 + (1 : Int32)) s0 (x3 + r2) hc3) (cwV 3 hts gX0_mix_X0_mix rfl rfl rfl hd_X0_mix ⟨Nat.le_of_ble_eq_true rfl, Nat.le_of_ble_eq_true rfl⟩) hl.1 ⟨Nat.zero_le _, Nat.zero_le _⟩ [0, 1, 2, 3, 4] [] 5 (by decide +kernel) rfl (Wn := w_X0_mix cB cI cJ a_this a_votes a_choices a_choices_cells a_votes_cells v_base v_favoured v_standing o3_0 o3_1 o3_2 v_choices v_votes) rfl rfl rfl rfl rfl rfl (ci := 0) rfl rfl (q0 := 0) rfl rfl rfl (Nat.le_of_ble_eq_true rfl) dX0_mix_80 (fun H locs hP hD hS => ?_)
      obtain ⟨y4, ey4⟩ : ∃ y : Int32, y = x4 + (1 : Int32) := ⟨_, rfl⟩
      have hf := wk_nmE hf ey4
      refine lv_iinc (v := y4) (lv' := [(4, .int y4), (5, .int s0), (0, .ref a_this), (1, .int x1), (2, .int x2), (3, .int x3)]) hx hb dX0_mix_83 hl (k := 5) rfl (by rw [ey4]; rfl) (by decide) rfl (fun ls hl => ?_)
      refine lv_goto (tgt := 15) hx hb dX0_mix_86 (by decide) ?_
      exact ih15 _ _ _ _ _ _ _ hf _ _ _ hP hD hS (lv_sub hl [2, 3, 4, 5, 0] rfl)
    intro v_winners v_lead v_fewest x1 x2 x3 x4 hf H locs ls hP hD hS hl
    have hf : B_X0_mix_15 N v_base v_favoured v_standing v_choices v_votes krec k15 v_winners v_lead v_fewest x1 x2 x3 x4 = some (o_winners, o_lead, o_fewest) := hf
    unfold B_X0_mix_15 at hf
    refine lv_iload hx hb dX0_mix_15 (lv_at hl 4 rfl) ?_
    refine lv_iconst (v := (5 : Int32)) hx hb dX0_mix_17 (by decide) ?_
    refine lv_icmp_gt (tgt := 89) hx hb dX0_mix_18 (by decide) (fun c5 => ?_) (fun c5 => ?_)
    · have hf := wk_itT hf c5
      exact hret _ _ _ _ _ dX0_mix_89 (wk_rt hf (fun z => w_X0_mix cB cI cJ a_this a_votes a_choices a_choices_cells a_votes_cells v_base v_favoured v_standing (z.1) (z.2.1) (z.2.2) v_choices v_votes)) hP hD hS
    · have hf := wk_itF hf c5
      refine lv_aload_n hx hb dX0_mix_21 rfl (lv_at hl 0 rfl) ?_
      refine va_get (D := D) (ci := 0) (v := .ref a_choices) (C := RX0) (T := TX0) (N := 8) hx hb hts in_X0_mix_X0 hown hK hP 0 rfl rfl 1 (by decide) (hts (.fieldLink RX0 20 "HangingCards$Mixtures" "choices" "LHangingCards$Row;") (List.mem_of_getElem? (i := 1) rfl)) (fun _ h9 => h9) rfl dX0_mix_22 ?_
      refine lv_iload_n hx hb dX0_mix_25 rfl (lv_at hl 1 rfl) ?_
      obtain ⟨r6, hc6, hf⟩ := wk_b1E hf
      refine wk_callVi2 C hP hD hS (c_X6_get l D cB cI cJ N a_choices a_choices_cells 5 v_choices x1 hc6) (cwV 1 hts gX0_mix_X6_get rfl rfl rfl hd_X6_get ⟨Nat.le_of_ble_eq_true rfl, Nat.le_of_ble_eq_true rfl⟩) hl.1 ⟨Nat.zero_le _, Nat.zero_le _⟩ [1, 2] [0, 3, 4] 5 (by decide +kernel) rfl (Wn := w_X0_mix cB cI cJ a_this a_votes a_choices a_choices_cells a_votes_cells v_base v_favoured v_standing v_winners v_lead v_fewest v_choices v_votes) rfl rfl rfl rfl rfl rfl (ci := 6) rfl rfl (q0 := 1) rfl rfl rfl (Nat.le_of_ble_eq_true rfl) dX0_mix_26 (fun H locs hP hD hS => ?_)
      refine lv_iload hx hb dX0_mix_29 (lv_at hl 4 rfl) ?_
      refine lv_iconst (v := (1 : Int32)) hx hb dX0_mix_31 (by decide) ?_
      refine lv_isub hx hb dX0_mix_32 ?_
      obtain ⟨r7, hc7, hf⟩ := wk_b1E hf
      refine wk_callNi2 C hP hD hS (c_X10_hasBit l D cB cI cJ N r6 (x4 - (1 : Int32)) hc7) ⟨va_cnB 2 hts gX0_mix_X10_hasBit_n75 rfl rfl rfl hN.2.2.1 (hts (.initialized RX10) (List.mem_of_getElem? (i := 19) rfl)) hd_X10_hasBit.2 ⟨Nat.le_of_ble_eq_true rfl, Nat.le_of_ble_eq_true rfl⟩, (hts (.static yX10_hasBit) (List.mem_of_getElem? (i := 45) rfl)), trivial⟩ hl.1 ⟨Nat.zero_le _, Nat.zero_le _⟩ [] [0, 1, 2, 3, 4] 5 (by decide +kernel) rfl (Wn := w_X0_mix cB cI cJ a_this a_votes a_choices a_choices_cells a_votes_cells v_base v_favoured v_standing v_winners v_lead v_fewest v_choices v_votes) rfl rfl rfl rfl rfl rfl rfl rfl (Nat.le_of_ble_eq_true rfl) dX0_mix_33 (fun H locs hP hD hS => ?_)
      refine lv_if_eq (tgt := 83) hx hb dX0_mix_36 (by decide) (fun c8 => ?_) (fun c8 => ?_)
      · have hf := wk_itT hf c8
        obtain ⟨y9, ey9⟩ : ∃ y : Int32, y = x4 + (1 : Int32) := ⟨_, rfl⟩
        have hf := wk_nmE hf ey9
        refine lv_iinc (v := y9) (lv' := [(4, .int y9), (0, .ref a_this), (1, .int x1), (2, .int x2), (3, .int x3)]) hx hb dX0_mix_83 hl (k := 4) rfl (by rw [ey9]; rfl) (by decide) rfl (fun ls hl => ?_)
        refine lv_goto (tgt := 15) hx hb dX0_mix_86 (by decide) ?_
        exact ih15 _ _ _ _ _ _ _ hf _ _ _ hP hD hS (lv_sub hl [1, 2, 3, 4, 0] rfl)
      · have hf := wk_itF hf c8
        refine lv_iload hx hb dX0_mix_39 (lv_at hl 4 rfl) ?_
        refine lv_aload_n hx hb dX0_mix_41 rfl (lv_at hl 0 rfl) ?_
        refine va_get (D := D) (ci := 0) (v := .int v_base) (C := RX0) (T := TX0) (N := 8) hx hb hts in_X0_mix_X0 hown hK hP 0 rfl rfl 2 (by decide) (hts (.fieldLink RX0 23 "HangingCards$Mixtures" "base" "I") (List.mem_of_getElem? (i := 2) rfl)) (fun _ h9 => h9) rfl dX0_mix_42 ?_
        refine lv_icmp_ne (tgt := 52) hx hb dX0_mix_45 (by decide) (fun c10 => ?_) (fun c10 => ?_)
        · have hf := wk_itF hf c10
          refine lv_iload_n hx hb dX0_mix_52 rfl (lv_at hl 2 rfl) ?_
          refine lv_iconst (v := (1 : Int32)) hx hb dX0_mix_53 (by decide) ?_
          refine lv_iload_n hx hb dX0_mix_54 rfl (lv_at hl 1 rfl) ?_
          refine lv_ishl hx hb dX0_mix_55 ?_
          refine lv_ior hx hb dX0_mix_56 ?_
          exact J57 _ _ _ _ _ _ _ _ hf _ _ _ hP hD hS (lv_sub hl [0, 1, 2, 3, 4] rfl)
        · have hf := wk_itT hf c10
          refine lv_iload_n hx hb dX0_mix_48 rfl (lv_at hl 2 rfl) ?_
          refine lv_goto (tgt := 57) hx hb dX0_mix_49 (by decide) ?_
          exact J57 _ _ _ _ _ _ _ _ hf _ _ _ hP hD hS (lv_sub hl [0, 1, 2, 3, 4] rfl))
  refine lv_iload_n hx hb dX0_mix_0 rfl (lv_at hl 1 rfl) ?_
  refine lv_iconst (v := (5 : Int32)) hx hb dX0_mix_1 (by decide) ?_
  refine lv_icmp_lt (tgt := 12) hx hb dX0_mix_2 (by decide) (fun c11 => ?_) (fun c11 => ?_)
  · have hf := wk_itT hf c11
    refine lv_iconst (v := (1 : Int32)) hx hb dX0_mix_12 (by decide) ?_
    refine lv_istore (lv' := [(4, .int (1 : Int32)), (0, .ref a_this), (1, .int x1), (2, .int x2), (3, .int x3)]) hx hb dX0_mix_13 hl (by decide) rfl (fun ls hl => ?_)
    exact L15 N _ _ _ _ _ _ _ hf _ _ _ hP hD hS (lv_sub hl [1, 2, 3, 4, 0] rfl)
  · have hf := wk_itF hf c11
    refine lv_aload_n hx hb dX0_mix_5 rfl (lv_at hl 0 rfl) ?_
    refine lv_iload_n hx hb dX0_mix_6 rfl (lv_at hl 2 rfl) ?_
    refine lv_iload_n hx hb dX0_mix_7 rfl (lv_at hl 3 rfl) ?_
    obtain ⟨o12_0, o12_1, o12_2, hc12, hf⟩ := wk_b3E hf
    refine wk_callVv2 C hP hD hS (c_X0_weigh l D cB cI cJ N a_this a_votes a_choices v_base v_favoured v_standing v_winners v_lead v_fewest x2 x3 hc12) (cwV 2 hts gX0_mix_X0_weigh rfl rfl rfl hd_X0_weigh ⟨Nat.le_of_ble_eq_true rfl, Nat.le_of_ble_eq_true rfl⟩) hl.1 ⟨Nat.zero_le _, Nat.zero_le _⟩ [0] [1, 2, 3, 4] 5 (by decide +kernel) rfl (Wn := w_X0_mix cB cI cJ a_this a_votes a_choices a_choices_cells a_votes_cells v_base v_favoured v_standing o12_0 o12_1 o12_2 v_choices v_votes) rfl rfl rfl rfl rfl rfl (ci := 0) rfl rfl (q0 := 0) rfl rfl rfl (Nat.le_of_ble_eq_true rfl) dX0_mix_8 (fun H locs hP hD hS => ?_)
    exact hret _ _ _ _ _ dX0_mix_11 (wk_rt hf (fun z => w_X0_mix cB cI cJ a_this a_votes a_choices a_choices_cells a_votes_cells v_base v_favoured v_standing (z.1) (z.2.1) (z.2.2) v_choices v_votes)) hP hD hS
abbrev rm_X0_mix_6 : Room := { frames := 10, cells := 0, slots := 0, locals := 238 }
set_option maxHeartbeats 4000000 in
set_option maxRecDepth 100000 in
theorem c_X0_mix_6 (l : Launch) (D : va_G) (cB cI cJ : ClassId) (N : Nat) (a_this : Nat) (a_votes : Nat) (a_choices : Nat) (a_choices_cells : Nat) (a_votes_cells : Nat) (v_base : Int32) (v_favoured : Int32) (v_standing : Int32) (v_winners : Int32) (v_lead : Int32) (v_fewest : Int32) (v_choices : Nat → Int32) (v_votes : Nat → Int32) (x1 : Int32) (x2 : Int32) (x3 : Int32) {o_winners : Int32} {o_lead : Int32} {o_fewest : Int32} (hf : f_X0_mix N 6 v_base v_favoured v_standing v_choices v_votes v_winners v_lead v_fewest x1 x2 x3 = some (o_winners, o_lead, o_fewest)) : MTv l yX0_mix wsX0_mix rm_X0_mix_6 D (wk_T cB cI cJ) [.ref a_this, .int x1, .int x2, .int x3] (w_X0_mix cB cI cJ a_this a_votes a_choices a_choices_cells a_votes_cells v_base v_favoured v_standing v_winners v_lead v_fewest v_choices v_votes) (w_X0_mix cB cI cJ a_this a_votes a_choices a_choices_cells a_votes_cells v_base v_favoured v_standing o_winners o_lead o_fewest v_choices v_votes) := by
  refine MTv.of (cc := cX0_mix) (nL := 6) (own := RX0) pn_X0 rfl rfl (Nat.le_of_ble_eq_true rfl) ?_
  intro p e s m args below meth c A ls Q C hP hD hS hl hret
  obtain ⟨hx, hb, hml, hts, hown, hK, hN, hA, hlk⟩ := id C
  have hl : lv_has ls 6 [(0, .ref a_this), (1, .int x1), (2, .int x2), (3, .int x3)] := hl
  obtain ⟨krec, hkr⟩ : ∃ krec : Int32 → Int32 → Int32 → Int32 → Int32 → Int32 → Option (Int32 × Int32 × Int32), krec = f_X0_mix N 5 v_base v_favoured v_standing v_choices v_votes := ⟨_, rfl⟩
  have hf : F_X0_mix N v_base v_favoured v_standing v_choices v_votes krec v_winners v_lead v_fewest x1 x2 x3 = some (o_winners, o_lead, o_fewest) := by rw [hkr]; exact hf
  unfold F_X0_mix at hf
  have L15 := wk_loopI (F := (fun k15 : Int32 → Int32 → Int32 → Int32 → Int32 → Int32 → Int32 → Option (Int32 × Int32 × Int32) => B_X0_mix_15 N v_base v_favoured v_standing v_choices v_votes krec k15)) (bot := fun _ _ _ _ _ _ _ => none) (fun k15 : Int32 → Int32 → Int32 → Int32 → Int32 → Int32 → Int32 → Option (Int32 × Int32 × Int32) => ∀ (v_winners : Int32) (v_lead : Int32) (v_fewest : Int32) (x1 : Int32) (x2 : Int32) (x3 : Int32) (x4 : Int32), k15 v_winners v_lead v_fewest x1 x2 x3 x4 = some (o_winners, o_lead, o_fewest) → ∀ (H : Heap) (locs : List Loc) (ls : Array Slot), va_P D vwCl (w_X0_mix cB cI cJ a_this a_votes a_choices a_choices_cells a_votes_cells v_base v_favoured v_standing v_winners v_lead v_fewest v_choices v_votes) H → va_D A (w_X0_mix cB cI cJ a_this a_votes a_choices a_choices_cells a_votes_cells v_base v_favoured v_standing v_winners v_lead v_fewest v_choices v_votes) → va_S A s.heap H locs → lv_has ls 6 [(0, .ref a_this), (1, .int x1), (2, .int x2), (3, .int x3), (4, .int x4)] → W p l e rm_X0_mix_6 s m args below meth c H locs 0 0 Q (F0 m 15 ls [])) (by intro v_winners v_lead v_fewest x1 x2 x3 x4 hf; exact wk_no hf) (by
    intro k15 ih15
    have J57 : ∀ (v_winners : Int32) (v_lead : Int32) (v_fewest : Int32) (x1 : Int32) (x2 : Int32) (x3 : Int32) (x4 : Int32) (s0 : Int32), B_X0_mix_57 N v_base v_favoured v_standing v_choices v_votes krec k15 v_winners v_lead v_fewest x1 x2 x3 x4 s0 = some (o_winners, o_lead, o_fewest) → ∀ (H : Heap) (locs : List Loc) (ls : Array Slot), va_P D vwCl (w_X0_mix cB cI cJ a_this a_votes a_choices a_choices_cells a_votes_cells v_base v_favoured v_standing v_winners v_lead v_fewest v_choices v_votes) H → va_D A (w_X0_mix cB cI cJ a_this a_votes a_choices a_choices_cells a_votes_cells v_base v_favoured v_standing v_winners v_lead v_fewest v_choices v_votes) → va_S A s.heap H locs → lv_has ls 6 [(0, .ref a_this), (1, .int x1), (2, .int x2), (3, .int x3), (4, .int x4)] → W p l e rm_X0_mix_6 s m args below meth c H locs 0 0 Q (F0 m 57 ls [.int s0]) := by
      intro v_winners v_lead v_fewest x1 x2 x3 x4 s0 hf H locs ls hP hD hS hl
      unfold B_X0_mix_57 at hf
      refine lv_istore (lv' := [(5, .int s0), (0, .ref a_this), (1, .int x1), (2, .int x2), (3, .int x3), (4, .int x4)]) hx hb dX0_mix_57 hl (by decide) rfl (fun ls hl => ?_)
      refine lv_aload_n hx hb dX0_mix_59 rfl (lv_at hl 1 rfl) ?_
      refine lv_iload_n hx hb dX0_mix_60 rfl (lv_at hl 2 rfl) ?_
      refine lv_iconst (v := (1 : Int32)) hx hb dX0_mix_61 (by decide) ?_
      refine lv_iadd hx hb dX0_mix_62 ?_
      refine lv_iload hx hb dX0_mix_63 (lv_at hl 0 rfl) ?_
      refine lv_iload_n hx hb dX0_mix_65 rfl (lv_at hl 4 rfl) ?_
      refine lv_aload_n hx hb dX0_mix_66 rfl (lv_at hl 1 rfl) ?_
      refine va_get (D := D) (ci := 0) (v := .ref a_votes) (C := RX0) (T := TX0) (N := 8) hx hb hts in_X0_mix_X0 hown hK hP 0 rfl rfl 0 (by decide) (hts (.fieldLink RX0 14 "HangingCards$Mixtures" "votes" "LHangingCards$Row;") (List.mem_of_getElem? (i := 3) rfl)) (fun _ h9 => h9) rfl dX0_mix_67 ?_
      refine lv_iload_n hx hb dX0_mix_70 rfl (lv_at hl 2 rfl) ?_
      refine lv_iload hx hb dX0_mix_71 (lv_at hl 5 rfl) ?_
      obtain ⟨r1, hc1, hf⟩ := wk_b1E hf
      refine wk_callSi2 C hP hD hS (c_X0_place l D cB cI cJ N x1 x4 hc1) (va_cwS 2 hts gX0_mix_X0_place rfl rfl rfl hd_X0_place.2 ⟨Nat.le_of_ble_eq_true rfl, Nat.le_of_ble_eq_true rfl⟩) hl.1 ⟨Nat.zero_le _, Nat.zero_le _⟩ [] [0, 1, 2, 3, 4] 5 (by decide +kernel) rfl (Wn := w_X0_mix cB cI cJ a_this a_votes a_choices a_choices_cells a_votes_cells v_base v_favoured v_standing v_winners v_lead v_fewest v_choices v_votes) rfl rfl rfl rfl rfl rfl rfl rfl (Nat.le_of_ble_eq_true rfl) dX0_mix_73 (fun H locs hP hD hS => ?_)
      obtain ⟨r2, hc2, hf⟩ := wk_b1E hf
      refine wk_callVi2 C hP hD hS (c_X6_get l D cB cI cJ N a_votes a_votes_cells 25 v_votes r1 hc2) (cwV 1 hts gX0_mix_X6_get rfl rfl rfl hd_X6_get ⟨Nat.le_of_ble_eq_true rfl, Nat.le_of_ble_eq_true rfl⟩) hl.1 ⟨Nat.zero_le _, Nat.zero_le _⟩ [3, 4] [0, 1, 2] 5 (by decide +kernel) rfl (Wn := w_X0_mix cB cI cJ a_this a_votes a_choices a_choices_cells a_votes_cells v_base v_favoured v_standing v_winners v_lead v_fewest v_choices v_votes) rfl rfl rfl rfl rfl rfl (ci := 6) rfl rfl (q0 := 3) rfl rfl rfl (Nat.le_of_ble_eq_true rfl) dX0_mix_76 (fun H locs hP hD hS => ?_)
      refine lv_iadd hx hb dX0_mix_79 ?_
      obtain ⟨o3_0, o3_1, o3_2, hc3, hf⟩ := wk_b3E hf
      rw [hkr] at hc3
      refine wk_callVv2 C hP hD hS (c_X0_mix_5 l D cB cI cJ N a_this a_votes a_choices a_choices_cells a_votes_cells v_base v_favoured v_standing v_winners v_lead v_fewest v_choices v_votes (x1 + (1 : Int32)) s0 (x3 + r2) hc3) (cwV 3 hts gX0_mix_X0_mix rfl rfl rfl hd_X0_mix ⟨Nat.le_of_ble_eq_true rfl, Nat.le_of_ble_eq_true rfl⟩) hl.1 ⟨Nat.zero_le _, Nat.zero_le _⟩ [0, 1, 2, 3, 4] [] 5 (by decide +kernel) rfl (Wn := w_X0_mix cB cI cJ a_this a_votes a_choices a_choices_cells a_votes_cells v_base v_favoured v_standing o3_0 o3_1 o3_2 v_choices v_votes) rfl rfl rfl rfl rfl rfl (ci := 0) rfl rfl (q0 := 0) rfl rfl rfl (Nat.le_of_ble_eq_true rfl) dX0_mix_80 (fun H locs hP hD hS => ?_)
      obtain ⟨y4, ey4⟩ : ∃ y : Int32, y = x4 + (1 : Int32) := ⟨_, rfl⟩
      have hf := wk_nmE hf ey4
      refine lv_iinc (v := y4) (lv' := [(4, .int y4), (5, .int s0), (0, .ref a_this), (1, .int x1), (2, .int x2), (3, .int x3)]) hx hb dX0_mix_83 hl (k := 5) rfl (by rw [ey4]; rfl) (by decide) rfl (fun ls hl => ?_)
      refine lv_goto (tgt := 15) hx hb dX0_mix_86 (by decide) ?_
      exact ih15 _ _ _ _ _ _ _ hf _ _ _ hP hD hS (lv_sub hl [2, 3, 4, 5, 0] rfl)
    intro v_winners v_lead v_fewest x1 x2 x3 x4 hf H locs ls hP hD hS hl
    have hf : B_X0_mix_15 N v_base v_favoured v_standing v_choices v_votes krec k15 v_winners v_lead v_fewest x1 x2 x3 x4 = some (o_winners, o_lead, o_fewest) := hf
    unfold B_X0_mix_15 at hf
    refine lv_iload hx hb dX0_mix_15 (lv_at hl 4 rfl) ?_
    refine lv_iconst (v := (5 : Int32)) hx hb dX0_mix_17 (by decide) ?_
    refine lv_icmp_gt (tgt := 89) hx hb dX0_mix_18 (by decide) (fun c5 => ?_) (fun c5 => ?_)
    · have hf := wk_itT hf c5
      exact hret _ _ _ _ _ dX0_mix_89 (wk_rt hf (fun z => w_X0_mix cB cI cJ a_this a_votes a_choices a_choices_cells a_votes_cells v_base v_favoured v_standing (z.1) (z.2.1) (z.2.2) v_choices v_votes)) hP hD hS
    · have hf := wk_itF hf c5
      refine lv_aload_n hx hb dX0_mix_21 rfl (lv_at hl 0 rfl) ?_
      refine va_get (D := D) (ci := 0) (v := .ref a_choices) (C := RX0) (T := TX0) (N := 8) hx hb hts in_X0_mix_X0 hown hK hP 0 rfl rfl 1 (by decide) (hts (.fieldLink RX0 20 "HangingCards$Mixtures" "choices" "LHangingCards$Row;") (List.mem_of_getElem? (i := 1) rfl)) (fun _ h9 => h9) rfl dX0_mix_22 ?_
      refine lv_iload_n hx hb dX0_mix_25 rfl (lv_at hl 1 rfl) ?_
      obtain ⟨r6, hc6, hf⟩ := wk_b1E hf
      refine wk_callVi2 C hP hD hS (c_X6_get l D cB cI cJ N a_choices a_choices_cells 5 v_choices x1 hc6) (cwV 1 hts gX0_mix_X6_get rfl rfl rfl hd_X6_get ⟨Nat.le_of_ble_eq_true rfl, Nat.le_of_ble_eq_true rfl⟩) hl.1 ⟨Nat.zero_le _, Nat.zero_le _⟩ [1, 2] [0, 3, 4] 5 (by decide +kernel) rfl (Wn := w_X0_mix cB cI cJ a_this a_votes a_choices a_choices_cells a_votes_cells v_base v_favoured v_standing v_winners v_lead v_fewest v_choices v_votes) rfl rfl rfl rfl rfl rfl (ci := 6) rfl rfl (q0 := 1) rfl rfl rfl (Nat.le_of_ble_eq_true rfl) dX0_mix_26 (fun H locs hP hD hS => ?_)
      refine lv_iload hx hb dX0_mix_29 (lv_at hl 4 rfl) ?_
      refine lv_iconst (v := (1 : Int32)) hx hb dX0_mix_31 (by decide) ?_
      refine lv_isub hx hb dX0_mix_32 ?_
      obtain ⟨r7, hc7, hf⟩ := wk_b1E hf
      refine wk_callNi2 C hP hD hS (c_X10_hasBit l D cB cI cJ N r6 (x4 - (1 : Int32)) hc7) ⟨va_cnB 2 hts gX0_mix_X10_hasBit_n75 rfl rfl rfl hN.2.2.1 (hts (.initialized RX10) (List.mem_of_getElem? (i := 19) rfl)) hd_X10_hasBit.2 ⟨Nat.le_of_ble_eq_true rfl, Nat.le_of_ble_eq_true rfl⟩, (hts (.static yX10_hasBit) (List.mem_of_getElem? (i := 45) rfl)), trivial⟩ hl.1 ⟨Nat.zero_le _, Nat.zero_le _⟩ [] [0, 1, 2, 3, 4] 5 (by decide +kernel) rfl (Wn := w_X0_mix cB cI cJ a_this a_votes a_choices a_choices_cells a_votes_cells v_base v_favoured v_standing v_winners v_lead v_fewest v_choices v_votes) rfl rfl rfl rfl rfl rfl rfl rfl (Nat.le_of_ble_eq_true rfl) dX0_mix_33 (fun H locs hP hD hS => ?_)
      refine lv_if_eq (tgt := 83) hx hb dX0_mix_36 (by decide) (fun c8 => ?_) (fun c8 => ?_)
      · have hf := wk_itT hf c8
        obtain ⟨y9, ey9⟩ : ∃ y : Int32, y = x4 + (1 : Int32) := ⟨_, rfl⟩
        have hf := wk_nmE hf ey9
        refine lv_iinc (v := y9) (lv' := [(4, .int y9), (0, .ref a_this), (1, .int x1), (2, .int x2), (3, .int x3)]) hx hb dX0_mix_83 hl (k := 4) rfl (by rw [ey9]; rfl) (by decide) rfl (fun ls hl => ?_)
        refine lv_goto (tgt := 15) hx hb dX0_mix_86 (by decide) ?_
        exact ih15 _ _ _ _ _ _ _ hf _ _ _ hP hD hS (lv_sub hl [1, 2, 3, 4, 0] rfl)
      · have hf := wk_itF hf c8
        refine lv_iload hx hb dX0_mix_39 (lv_at hl 4 rfl) ?_
        refine lv_aload_n hx hb dX0_mix_41 rfl (lv_at hl 0 rfl) ?_
        refine va_get (D := D) (ci := 0) (v := .int v_base) (C := RX0) (T := TX0) (N := 8) hx hb hts in_X0_mix_X0 hown hK hP 0 rfl rfl 2 (by decide) (hts (.fieldLink RX0 23 "HangingCards$Mixtures" "base" "I") (List.mem_of_getElem? (i := 2) rfl)) (fun _ h9 => h9) rfl dX0_mix_42 ?_
        refine lv_icmp_ne (tgt := 52) hx hb dX0_mix_45 (by decide) (fun c10 => ?_) (fun c10 => ?_)
        · have hf := wk_itF hf c10
          refine lv_iload_n hx hb dX0_mix_52 rfl (lv_at hl 2 rfl) ?_
          refine lv_iconst (v := (1 : Int32)) hx hb dX0_mix_53 (by decide) ?_
          refine lv_iload_n hx hb dX0_mix_54 rfl (lv_at hl 1 rfl) ?_
          refine lv_ishl hx hb dX0_mix_55 ?_
          refine lv_ior hx hb dX0_mix_56 ?_
          exact J57 _ _ _ _ _ _ _ _ hf _ _ _ hP hD hS (lv_sub hl [0, 1, 2, 3, 4] rfl)
        · have hf := wk_itT hf c10
          refine lv_iload_n hx hb dX0_mix_48 rfl (lv_at hl 2 rfl) ?_
          refine lv_goto (tgt := 57) hx hb dX0_mix_49 (by decide) ?_
          exact J57 _ _ _ _ _ _ _ _ hf _ _ _ hP hD hS (lv_sub hl [0, 1, 2, 3, 4] rfl))
  refine lv_iload_n hx hb dX0_mix_0 rfl (lv_at hl 1 rfl) ?_
  refine lv_iconst (v := (5 : Int32)) hx hb dX0_mix_1 (by decide) ?_
  refine lv_icmp_lt (tgt := 12) hx hb dX0_mix_2 (by decide) (fun c11 => ?_) (fun c11 => ?_)
  · have hf := wk_itT hf c11
    refine lv_iconst (v := (1 : Int32)) hx hb dX0_mix_12 (by decide) ?_
    refine lv_istore (lv' := [(4, .int (1 : Int32)), (0, .ref a_this), (1, .int x1), (2, .int x2), (3, .int x3)]) hx hb dX0_mix_13 hl (by decide) rfl (fun ls hl => ?_)
    exact L15 N _ _ _ _ _ _ _ hf _ _ _ hP hD hS (lv_sub hl [1, 2, 3, 4, 0] rfl)
  · have hf := wk_itF hf c11
    refine lv_aload_n hx hb dX0_mix_5 rfl (lv_at hl 0 rfl) ?_
    refine lv_iload_n hx hb dX0_mix_6 rfl (lv_at hl 2 rfl) ?_
    refine lv_iload_n hx hb dX0_mix_7 rfl (lv_at hl 3 rfl) ?_
    obtain ⟨o12_0, o12_1, o12_2, hc12, hf⟩ := wk_b3E hf
    refine wk_callVv2 C hP hD hS (c_X0_weigh l D cB cI cJ N a_this a_votes a_choices v_base v_favoured v_standing v_winners v_lead v_fewest x2 x3 hc12) (cwV 2 hts gX0_mix_X0_weigh rfl rfl rfl hd_X0_weigh ⟨Nat.le_of_ble_eq_true rfl, Nat.le_of_ble_eq_true rfl⟩) hl.1 ⟨Nat.zero_le _, Nat.zero_le _⟩ [0] [1, 2, 3, 4] 5 (by decide +kernel) rfl (Wn := w_X0_mix cB cI cJ a_this a_votes a_choices a_choices_cells a_votes_cells v_base v_favoured v_standing o12_0 o12_1 o12_2 v_choices v_votes) rfl rfl rfl rfl rfl rfl (ci := 0) rfl rfl (q0 := 0) rfl rfl rfl (Nat.le_of_ble_eq_true rfl) dX0_mix_8 (fun H locs hP hD hS => ?_)
    exact hret _ _ _ _ _ dX0_mix_11 (wk_rt hf (fun z => w_X0_mix cB cI cJ a_this a_votes a_choices a_choices_cells a_votes_cells v_base v_favoured v_standing (z.1) (z.2.1) (z.2.2) v_choices v_votes)) hP hD hS
abbrev w_X0_tryAll (cB cI cJ : ClassId) (a_this : Nat) (a_votes : Nat) (a_choices : Nat) (a_choices_cells : Nat) (a_votes_cells : Nat) (v_base : Int32) (v_favoured : Int32) (v_standing : Int32) (v_winners : Int32) (v_lead : Int32) (v_fewest : Int32) (v_choices : Nat → Int32) (v_votes : Nat → Int32) : va_W := [(a_this, .inr (0, [.ref a_votes, .ref a_choices, .int v_base, .int v_favoured, .int v_standing, .int v_winners, .int v_lead, .int v_fewest])), (a_choices, .inr (6, [.ref a_choices_cells])), (a_choices_cells, .inl (cI, 5, .inl v_choices)), (a_votes, .inr (6, [.ref a_votes_cells])), (a_votes_cells, .inl (cI, 25, .inl v_votes))]
theorem hd_X0_tryAll : yX0_tryAll.cls = RX0 ∧ yX0_tryAll.cls ≠ "java/lang/invoke/MethodHandle" ∧ yX0_tryAll.cls ≠ "java/lang/invoke/VarHandle" ∧ (parseMethodDescriptor yX0_tryAll.desc).map (fun d => d.parameters.length) = some 3 := by decide +kernel
abbrev rm_X0_tryAll : Room := { frames := 11, cells := 0, slots := 0, locals := 263 }
theorem in_X0_tryAll_X0 : ∀ w ∈ wsX00, w ∈ wsX0_tryAll := fun w h => List.mem_cons_of_mem _ (List.mem_append_left _ (List.mem_append_right _ h))
set_option maxHeartbeats 4000000 in
set_option maxRecDepth 100000 in
theorem c_X0_tryAll (l : Launch) (D : va_G) (cB cI cJ : ClassId) (N : Nat) (a_this : Nat) (a_votes : Nat) (a_choices : Nat) (a_choices_cells : Nat) (a_votes_cells : Nat) (v_base : Int32) (v_favoured : Int32) (v_standing : Int32) (v_winners : Int32) (v_lead : Int32) (v_fewest : Int32) (v_choices : Nat → Int32) (v_votes : Nat → Int32) (x1 : Int32) (x2 : Int32) (x3 : Int32) {o_base : Int32} {o_favoured : Int32} {o_standing : Int32} {o_winners : Int32} {o_lead : Int32} {o_fewest : Int32} {o_choices : Nat → Int32} (hf : f_X0_tryAll N v_votes v_base v_favoured v_standing v_winners v_lead v_fewest v_choices x1 x2 x3 = some (o_base, o_favoured, o_standing, o_winners, o_lead, o_fewest, o_choices)) : MTv l yX0_tryAll wsX0_tryAll rm_X0_tryAll D (wk_T cB cI cJ) [.ref a_this, .int x1, .int x2, .int x3] (w_X0_tryAll cB cI cJ a_this a_votes a_choices a_choices_cells a_votes_cells v_base v_favoured v_standing v_winners v_lead v_fewest v_choices v_votes) (w_X0_tryAll cB cI cJ a_this a_votes a_choices a_choices_cells a_votes_cells o_base o_favoured o_standing o_winners o_lead o_fewest o_choices v_votes) := by
  refine MTv.of (cc := cX0_tryAll) (nL := 5) (own := RX0) pn_X0 rfl rfl (Nat.le_of_ble_eq_true rfl) ?_
  intro p e s m args below meth c A ls Q C hP hD hS hl hret
  obtain ⟨hx, hb, hml, hts, hown, hK, hN, hA, hlk⟩ := id C
  have hl : lv_has ls 5 [(0, .ref a_this), (1, .int x1), (2, .int x2), (3, .int x3)] := hl
  have L49 := wk_loopI (F := (fun k49 : Int32 → Int32 → Int32 → Int32 → Int32 → Int32 → (Nat → Int32) → Int32 → Int32 → Option (Int32 × Int32 × Int32 × Int32 × Int32 × Int32 × (Nat → Int32)) => B_X0_tryAll_49 N v_votes k49)) (bot := fun _ _ _ _ _ _ _ _ _ => none) (fun k49 : Int32 → Int32 → Int32 → Int32 → Int32 → Int32 → (Nat → Int32) → Int32 → Int32 → Option (Int32 × Int32 × Int32 × Int32 × Int32 × Int32 × (Nat → Int32)) => ∀ (v_base : Int32) (v_favoured : Int32) (v_standing : Int32) (v_winners : Int32) (v_lead : Int32) (v_fewest : Int32) (v_choices : Nat → Int32) (x2 : Int32) (x4 : Int32), k49 v_base v_favoured v_standing v_winners v_lead v_fewest v_choices x2 x4 = some (o_base, o_favoured, o_standing, o_winners, o_lead, o_fewest, o_choices) → ∀ (H : Heap) (locs : List Loc) (ls : Array Slot), va_P D vwCl (w_X0_tryAll cB cI cJ a_this a_votes a_choices a_choices_cells a_votes_cells v_base v_favoured v_standing v_winners v_lead v_fewest v_choices v_votes) H → va_D A (w_X0_tryAll cB cI cJ a_this a_votes a_choices a_choices_cells a_votes_cells v_base v_favoured v_standing v_winners v_lead v_fewest v_choices v_votes) → va_S A s.heap H locs → lv_has ls 5 [(0, .ref a_this), (2, .int x2), (4, .int x4)] → W p l e rm_X0_tryAll s m args below meth c H locs 0 0 Q (F0 m 49 ls [])) (by intro v_base v_favoured v_standing v_winners v_lead v_fewest v_choices x2 x4 hf; exact wk_no hf) (by
    intro k49 ih49
    intro v_base v_favoured v_standing v_winners v_lead v_fewest v_choices x2 x4 hf H locs ls hP hD hS hl
    have hf : B_X0_tryAll_49 N v_votes k49 v_base v_favoured v_standing v_winners v_lead v_fewest v_choices x2 x4 = some (o_base, o_favoured, o_standing, o_winners, o_lead, o_fewest, o_choices) := hf
    unfold B_X0_tryAll_49 at hf
    refine lv_iload hx hb dX0_tryAll_49 (lv_at hl 2 rfl) ?_
    refine lv_iconst (v := (5 : Int32)) hx hb dX0_tryAll_51 (by decide) ?_
    refine lv_icmp_ge (tgt := 77) hx hb dX0_tryAll_52 (by decide) (fun c1 => ?_) (fun c1 => ?_)
    · have hf := wk_itT hf c1
      refine lv_aload_n hx hb dX0_tryAll_77 rfl (lv_at hl 0 rfl) ?_
      refine lv_iconst (v := (0 : Int32)) hx hb dX0_tryAll_78 (by decide) ?_
      refine lv_iconst (v := (0 : Int32)) hx hb dX0_tryAll_79 (by decide) ?_
      refine lv_iconst (v := (0 : Int32)) hx hb dX0_tryAll_80 (by decide) ?_
      obtain ⟨o2_0, o2_1, o2_2, hc2, hf⟩ := wk_b3E hf
      refine wk_callVv2 C hP hD hS (c_X0_mix_6 l D cB cI cJ N a_this a_votes a_choices a_choices_cells a_votes_cells v_base v_favoured v_standing v_winners v_lead v_fewest v_choices v_votes (0 : Int32) (0 : Int32) (0 : Int32) hc2) (cwV 3 hts gX0_tryAll_X0_mix rfl rfl rfl hd_X0_mix ⟨Nat.le_of_ble_eq_true rfl, Nat.le_of_ble_eq_true rfl⟩) hl.1 ⟨Nat.zero_le _, Nat.zero_le _⟩ [0, 1, 2, 3, 4] [] 5 (by decide +kernel) rfl (Wn := w_X0_tryAll cB cI cJ a_this a_votes a_choices a_choices_cells a_votes_cells v_base v_favoured v_standing o2_0 o2_1 o2_2 v_choices v_votes) rfl rfl rfl rfl rfl rfl (ci := 0) rfl rfl (q0 := 0) rfl rfl rfl (Nat.le_of_ble_eq_true rfl) dX0_tryAll_81 (fun H locs hP hD hS => ?_)
      exact hret _ _ _ _ _ dX0_tryAll_84 (wk_rt hf (fun z => w_X0_tryAll cB cI cJ a_this a_votes a_choices a_choices_cells a_votes_cells (z.1) (z.2.1) (z.2.2.1) (z.2.2.2.1) (z.2.2.2.2.1) (z.2.2.2.2.2.1) (z.2.2.2.2.2.2) v_votes)) hP hD hS
    · have hf := wk_itF hf c1
      refine lv_aload_n hx hb dX0_tryAll_55 rfl (lv_at hl 0 rfl) ?_
      refine va_get (D := D) (ci := 0) (v := .ref a_choices) (C := RX0) (T := TX0) (N := 8) hx hb hts in_X0_tryAll_X0 hown hK hP 0 rfl rfl 1 (by decide) (hts (.fieldLink RX0 20 "HangingCards$Mixtures" "choices" "LHangingCards$Row;") (List.mem_of_getElem? (i := 7) rfl)) (fun _ h9 => h9) rfl dX0_tryAll_56 ?_
      refine lv_iload hx hb dX0_tryAll_59 (lv_at hl 2 rfl) ?_
      refine lv_aload_n hx hb dX0_tryAll_61 rfl (lv_at hl 0 rfl) ?_
      refine lv_iload hx hb dX0_tryAll_62 (lv_at hl 2 rfl) ?_
      refine lv_iload_n hx hb dX0_tryAll_64 rfl (lv_at hl 1 rfl) ?_
      obtain ⟨r3, hc3, hf⟩ := wk_b1E hf
      refine wk_callVi2 C hP hD hS (c_X0_unlikeChoices l D cB cI cJ N a_this a_votes a_choices a_votes_cells v_base v_favoured v_standing v_winners v_lead v_fewest v_votes x4 x2 hc3) (cwV 2 hts gX0_tryAll_X0_unlikeChoices rfl rfl rfl hd_X0_unlikeChoices ⟨Nat.le_of_ble_eq_true rfl, Nat.le_of_ble_eq_true rfl⟩) hl.1 ⟨Nat.zero_le _, Nat.zero_le _⟩ [0, 3, 4] [1, 2] 5 (by decide +kernel) rfl (Wn := w_X0_tryAll cB cI cJ a_this a_votes a_choices a_choices_cells a_votes_cells v_base v_favoured v_standing v_winners v_lead v_fewest v_choices v_votes) rfl rfl rfl rfl rfl rfl (ci := 0) rfl rfl (q0 := 0) rfl rfl rfl (Nat.le_of_ble_eq_true rfl) dX0_tryAll_65 (fun H locs hP hD hS => ?_)
      obtain ⟨o4_0, hc4, hf⟩ := wk_b1E hf
      refine wk_callVv2 C hP hD hS (c_X6_set l D cB cI cJ N a_choices a_choices_cells 5 v_choices x4 r3 hc4) (cwV 2 hts gX0_tryAll_X6_set rfl rfl rfl hd_X6_set ⟨Nat.le_of_ble_eq_true rfl, Nat.le_of_ble_eq_true rfl⟩) hl.1 ⟨Nat.zero_le _, Nat.zero_le _⟩ [1, 2] [0, 3, 4] 5 (by decide +kernel) rfl (Wn := w_X0_tryAll cB cI cJ a_this a_votes a_choices a_choices_cells a_votes_cells v_base v_favoured v_standing v_winners v_lead v_fewest o4_0 v_votes) rfl rfl rfl rfl rfl rfl (ci := 6) rfl rfl (q0 := 1) rfl rfl rfl (Nat.le_of_ble_eq_true rfl) dX0_tryAll_68 (fun H locs hP hD hS => ?_)
      obtain ⟨y5, ey5⟩ : ∃ y : Int32, y = x4 + (1 : Int32) := ⟨_, rfl⟩
      have hf := wk_nmE hf ey5
      refine lv_iinc (v := y5) (lv' := [(4, .int y5), (0, .ref a_this), (2, .int x2)]) hx hb dX0_tryAll_71 hl (k := 2) rfl (by rw [ey5]; rfl) (by decide) rfl (fun ls hl => ?_)
      refine lv_goto (tgt := 49) hx hb dX0_tryAll_74 (by decide) ?_
      exact ih49 _ _ _ _ _ _ _ _ _ hf _ _ _ hP hD hS (lv_sub hl [1, 2, 0] rfl))
  have J20 : ∀ (v_base : Int32) (v_favoured : Int32) (v_standing : Int32) (v_winners : Int32) (v_lead : Int32) (v_fewest : Int32) (v_choices : Nat → Int32) (x2 : Int32) (x3 : Int32) (s1 : Int32), B_X0_tryAll_20 N v_votes v_base v_favoured v_standing v_winners v_lead v_fewest v_choices x2 x3 s1 = some (o_base, o_favoured, o_standing, o_winners, o_lead, o_fewest, o_choices) → ∀ (H : Heap) (locs : List Loc) (ls : Array Slot), va_P D vwCl (w_X0_tryAll cB cI cJ a_this a_votes a_choices a_choices_cells a_votes_cells v_base v_favoured v_standing v_winners v_lead v_fewest v_choices v_votes) H → va_D A (w_X0_tryAll cB cI cJ a_this a_votes a_choices a_choices_cells a_votes_cells v_base v_favoured v_standing v_winners v_lead v_fewest v_choices v_votes) → va_S A s.heap H locs → lv_has ls 5 [(0, .ref a_this), (2, .int x2), (3, .int x3)] → W p l e rm_X0_tryAll s m args below meth c H locs 0 0 Q (F0 m 20 ls [.int s1, .ref a_this]) := by
    intro v_base v_favoured v_standing v_winners v_lead v_fewest v_choices x2 x3 s1 hf H locs ls hP hD hS hl
    unfold B_X0_tryAll_20 at hf
    refine va_put (D := D) (ci := 0) (v := .int s1) (ty := .int) (C := RX0) (T := TX0) (N := 8) hx hb hts in_X0_tryAll_X0 tyX0 tyX0_ok nmX0 hown hK hP hD hS 0 rfl rfl 4 (by decide) (hts (.fieldLink RX0 30 "HangingCards$Mixtures" "standing" "I") (List.mem_of_getElem? (i := 2) rfl)) (fun _ h9 => h9) rfl (by decide +kernel) rfl rfl (Nat.le_of_ble_eq_true rfl) dX0_tryAll_20 (fun H locs hP hD hS => ?_)
    have hP : va_P D vwCl (w_X0_tryAll cB cI cJ a_this a_votes a_choices a_choices_cells a_votes_cells v_base v_favoured s1 v_winners v_lead v_fewest v_choices v_votes) H := hP
    have hD : va_D A (w_X0_tryAll cB cI cJ a_this a_votes a_choices a_choices_cells a_votes_cells v_base v_favoured s1 v_winners v_lead v_fewest v_choices v_votes) := hD
    refine lv_aload_n hx hb dX0_tryAll_23 rfl (lv_at hl 0 rfl) ?_
    refine lv_iload_n hx hb dX0_tryAll_24 rfl (lv_at hl 2 rfl) ?_
    refine va_put (D := D) (ci := 0) (v := .int x3) (ty := .int) (C := RX0) (T := TX0) (N := 8) hx hb hts in_X0_tryAll_X0 tyX0 tyX0_ok nmX0 hown hK hP hD hS 0 rfl rfl 3 (by decide) (hts (.fieldLink RX0 27 "HangingCards$Mixtures" "favoured" "I") (List.mem_of_getElem? (i := 3) rfl)) (fun _ h9 => h9) rfl (by decide +kernel) rfl rfl (Nat.le_of_ble_eq_true rfl) dX0_tryAll_25 (fun H locs hP hD hS => ?_)
    have hP : va_P D vwCl (w_X0_tryAll cB cI cJ a_this a_votes a_choices a_choices_cells a_votes_cells v_base x3 s1 v_winners v_lead v_fewest v_choices v_votes) H := hP
    have hD : va_D A (w_X0_tryAll cB cI cJ a_this a_votes a_choices a_choices_cells a_votes_cells v_base x3 s1 v_winners v_lead v_fewest v_choices v_votes) := hD
    refine lv_aload_n hx hb dX0_tryAll_28 rfl (lv_at hl 0 rfl) ?_
    refine lv_iconst (v := (0 : Int32)) hx hb dX0_tryAll_29 (by decide) ?_
    refine va_put (D := D) (ci := 0) (v := .int (0 : Int32)) (ty := .int) (C := RX0) (T := TX0) (N := 8) hx hb hts in_X0_tryAll_X0 tyX0 tyX0_ok nmX0 hown hK hP hD hS 0 rfl rfl 5 (by decide) (hts (.fieldLink RX0 33 "HangingCards$Mixtures" "winners" "I") (List.mem_of_getElem? (i := 4) rfl)) (fun _ h9 => h9) rfl (by decide +kernel) rfl rfl (Nat.le_of_ble_eq_true rfl) dX0_tryAll_30 (fun H locs hP hD hS => ?_)
    have hP : va_P D vwCl (w_X0_tryAll cB cI cJ a_this a_votes a_choices a_choices_cells a_votes_cells v_base x3 s1 (0 : Int32) v_lead v_fewest v_choices v_votes) H := hP
    have hD : va_D A (w_X0_tryAll cB cI cJ a_this a_votes a_choices a_choices_cells a_votes_cells v_base x3 s1 (0 : Int32) v_lead v_fewest v_choices v_votes) := hD
    refine lv_aload_n hx hb dX0_tryAll_33 rfl (lv_at hl 0 rfl) ?_
    refine lv_sipush (v := (-1000 : Int32)) hx hb dX0_tryAll_34 (by decide) ?_
    refine va_put (D := D) (ci := 0) (v := .int (-1000 : Int32)) (ty := .int) (C := RX0) (T := TX0) (N := 8) hx hb hts in_X0_tryAll_X0 tyX0 tyX0_ok nmX0 hown hK hP hD hS 0 rfl rfl 6 (by decide) (hts (.fieldLink RX0 36 "HangingCards$Mixtures" "lead" "I") (List.mem_of_getElem? (i := 5) rfl)) (fun _ h9 => h9) rfl (by decide +kernel) rfl rfl (Nat.le_of_ble_eq_true rfl) dX0_tryAll_37 (fun H locs hP hD hS => ?_)
    have hP : va_P D vwCl (w_X0_tryAll cB cI cJ a_this a_votes a_choices a_choices_cells a_votes_cells v_base x3 s1 (0 : Int32) (-1000 : Int32) v_fewest v_choices v_votes) H := hP
    have hD : va_D A (w_X0_tryAll cB cI cJ a_this a_votes a_choices a_choices_cells a_votes_cells v_base x3 s1 (0 : Int32) (-1000 : Int32) v_fewest v_choices v_votes) := hD
    refine lv_aload_n hx hb dX0_tryAll_40 rfl (lv_at hl 0 rfl) ?_
    refine lv_bipush (v := (-4 : Int32)) hx hb dX0_tryAll_41 (by decide) ?_
    refine va_put (D := D) (ci := 0) (v := .int (-4 : Int32)) (ty := .int) (C := RX0) (T := TX0) (N := 8) hx hb hts in_X0_tryAll_X0 tyX0 tyX0_ok nmX0 hown hK hP hD hS 0 rfl rfl 7 (by decide) (hts (.fieldLink RX0 39 "HangingCards$Mixtures" "fewest" "I") (List.mem_of_getElem? (i := 6) rfl)) (fun _ h9 => h9) rfl (by decide +kernel) rfl rfl (Nat.le_of_ble_eq_true rfl) dX0_tryAll_43 (fun H locs hP hD hS => ?_)
    have hP : va_P D vwCl (w_X0_tryAll cB cI cJ a_this a_votes a_choices a_choices_cells a_votes_cells v_base x3 s1 (0 : Int32) (-1000 : Int32) (-4 : Int32) v_choices v_votes) H := hP
    have hD : va_D A (w_X0_tryAll cB cI cJ a_this a_votes a_choices a_choices_cells a_votes_cells v_base x3 s1 (0 : Int32) (-1000 : Int32) (-4 : Int32) v_choices v_votes) := hD
    refine lv_iconst (v := (0 : Int32)) hx hb dX0_tryAll_46 (by decide) ?_
    refine lv_istore (lv' := [(4, .int (0 : Int32)), (0, .ref a_this), (2, .int x2), (3, .int x3)]) hx hb dX0_tryAll_47 hl (by decide) rfl (fun ls hl => ?_)
    exact L49 N _ _ _ _ _ _ _ _ _ hf _ _ _ hP hD hS (lv_sub hl [1, 2, 0] rfl)
  unfold f_X0_tryAll at hf
  refine lv_aload_n hx hb dX0_tryAll_0 rfl (lv_at hl 0 rfl) ?_
  refine lv_iload_n hx hb dX0_tryAll_1 rfl (lv_at hl 1 rfl) ?_
  refine va_put (D := D) (ci := 0) (v := .int x1) (ty := .int) (C := RX0) (T := TX0) (N := 8) hx hb hts in_X0_tryAll_X0 tyX0 tyX0_ok nmX0 hown hK hP hD hS 0 rfl rfl 2 (by decide) (hts (.fieldLink RX0 23 "HangingCards$Mixtures" "base" "I") (List.mem_of_getElem? (i := 1) rfl)) (fun _ h9 => h9) rfl (by decide +kernel) rfl rfl (Nat.le_of_ble_eq_true rfl) dX0_tryAll_2 (fun H locs hP hD hS => ?_)
  have hP : va_P D vwCl (w_X0_tryAll cB cI cJ a_this a_votes a_choices a_choices_cells a_votes_cells x1 v_favoured v_standing v_winners v_lead v_fewest v_choices v_votes) H := hP
  have hD : va_D A (w_X0_tryAll cB cI cJ a_this a_votes a_choices a_choices_cells a_votes_cells x1 v_favoured v_standing v_winners v_lead v_fewest v_choices v_votes) := hD
  refine lv_aload_n hx hb dX0_tryAll_5 rfl (lv_at hl 0 rfl) ?_
  refine lv_iload_n hx hb dX0_tryAll_6 rfl (lv_at hl 1 rfl) ?_
  refine lv_if_ne (tgt := 15) hx hb dX0_tryAll_7 (by decide) (fun c6 => ?_) (fun c6 => ?_)
  · have hf := wk_itF hf c6
    refine lv_aload_n hx hb dX0_tryAll_15 rfl (lv_at hl 0 rfl) ?_
    refine lv_iload_n hx hb dX0_tryAll_16 rfl (lv_at hl 1 rfl) ?_
    obtain ⟨r7, hc7, hf⟩ := wk_b1E hf
    refine wk_callVi2 C hP hD hS (c_X0_winnerBy l D cB cI cJ N a_this a_votes a_choices a_votes_cells x1 v_favoured v_standing v_winners v_lead v_fewest v_votes x1 hc7) (cwV 1 hts gX0_tryAll_X0_winnerBy rfl rfl rfl hd_X0_winnerBy ⟨Nat.le_of_ble_eq_true rfl, Nat.le_of_ble_eq_true rfl⟩) hl.1 ⟨Nat.zero_le _, Nat.zero_le _⟩ [0, 3, 4] [1, 2] 5 (by decide +kernel) rfl (Wn := w_X0_tryAll cB cI cJ a_this a_votes a_choices a_choices_cells a_votes_cells x1 v_favoured v_standing v_winners v_lead v_fewest v_choices v_votes) rfl rfl rfl rfl rfl rfl (ci := 0) rfl rfl (q0 := 0) rfl rfl rfl (Nat.le_of_ble_eq_true rfl) dX0_tryAll_17 (fun H locs hP hD hS => ?_)
    exact J20 _ _ _ _ _ _ _ _ _ _ hf _ _ _ hP hD hS (lv_sub hl [0, 2, 3] rfl)
  · have hf := wk_itT hf c6
    refine lv_bipush (v := (-4 : Int32)) hx hb dX0_tryAll_10 (by decide) ?_
    refine lv_goto (tgt := 20) hx hb dX0_tryAll_12 (by decide) ?_
    exact J20 _ _ _ _ _ _ _ _ _ _ hf _ _ _ hP hD hS (lv_sub hl [0, 2, 3] rfl)
