abbrev w_X6_fill (cB cI cJ : ClassId) (a_this : Nat) (a_cells : Nat) (n_cells : Nat) (v_cells : Nat → Int32) : va_W := [(a_this, .inr (6, [.ref a_cells])), (a_cells, .inl (cI, n_cells, .inl v_cells))]
theorem hd_X6_fill : yX6_fill.cls = RX6 ∧ yX6_fill.cls ≠ "java/lang/invoke/MethodHandle" ∧ yX6_fill.cls ≠ "java/lang/invoke/VarHandle" ∧ (parseMethodDescriptor yX6_fill.desc).map (fun d => d.parameters.length) = some 1 := by decide +kernel
abbrev rm_X6_fill : Room := { frames := 0, cells := 0, slots := 0, locals := 0 }
theorem in_X6_fill_X6 : ∀ w ∈ wsX60, w ∈ wsX6_fill := fun w h => List.mem_cons_of_mem _ (List.mem_append_right _ h)
set_option maxHeartbeats 4000000 in
set_option maxRecDepth 100000 in
theorem c_X6_fill (l : Launch) (D : va_G) (cB cI cJ : ClassId) (N : Nat) (a_this : Nat) (a_cells : Nat) (n_cells : Nat) (v_cells : Nat → Int32) (x1 : Int32) {o_cells : Nat → Int32} (hf : f_X6_fill N n_cells v_cells x1 = some o_cells) : MTv l yX6_fill wsX6_fill rm_X6_fill D (wk_T cB cI cJ) [.ref a_this, .int x1] (w_X6_fill cB cI cJ a_this a_cells n_cells v_cells) (w_X6_fill cB cI cJ a_this a_cells n_cells o_cells) := by
  refine MTv.of (cc := cX6_fill) (nL := 3) (own := RX6) pn_X6 rfl rfl (Nat.le_of_ble_eq_true rfl) ?_
  intro p e s m args below meth c A ls Q C hP hD hS hl hret
  obtain ⟨hx, hb, hml, hts, hown, hK, hN, hA, hlk⟩ := id C
  have hl : lv_has ls 3 [(0, .ref a_this), (1, .int x1)] := hl
  have L2 := wk_loopI (F := (fun k2 : (Nat → Int32) → Int32 → Int32 → Option (Nat → Int32) => B_X6_fill_2 N n_cells k2)) (bot := fun _ _ _ => none) (fun k2 : (Nat → Int32) → Int32 → Int32 → Option (Nat → Int32) => ∀ (v_cells : Nat → Int32) (x1 : Int32) (x2 : Int32), k2 v_cells x1 x2 = some o_cells → ∀ (H : Heap) (locs : List Loc) (ls : Array Slot), va_P D vwCl (w_X6_fill cB cI cJ a_this a_cells n_cells v_cells) H → va_D A (w_X6_fill cB cI cJ a_this a_cells n_cells v_cells) → va_S A s.heap H locs → lv_has ls 3 [(0, .ref a_this), (1, .int x1), (2, .int x2)] → W p l e rm_X6_fill s m args below meth c H locs 0 0 Q (F0 m 2 ls [])) (by intro v_cells x1 x2 hf; exact wk_no hf) (by
    intro k2 ih2
    intro v_cells x1 x2 hf H locs ls hP hD hS hl
    have hf : B_X6_fill_2 N n_cells k2 v_cells x1 x2 = some o_cells := hf
    unfold B_X6_fill_2 at hf
    refine lv_iload_n hx hb dX6_fill_2 rfl (lv_at hl 2 rfl) ?_
    refine lv_aload_n hx hb dX6_fill_3 rfl (lv_at hl 0 rfl) ?_
    refine va_get (D := D) (ci := 6) (v := .ref a_cells) (C := RX6) (T := TX6) (N := 1) hx hb hts in_X6_fill_X6 hown hK hP 0 rfl rfl 0 (by decide) (hts (.fieldLink RX6 7 "HangingCards$Row" "cells" "[I") (List.mem_of_getElem? (i := 1) rfl)) (fun _ h9 => h9) rfl dX6_fill_4 ?_
    refine va_alen (v := (nI n_cells)) hx hb hK hP 1 0 rfl rfl rfl dX6_fill_7 ?_
    refine lv_icmp_ge (tgt := 24) hx hb dX6_fill_8 (by decide) (fun c1 => ?_) (fun c1 => ?_)
    · have hf := wk_itT hf c1
      exact hret _ _ _ _ _ dX6_fill_24 (wk_rt hf (fun z => w_X6_fill cB cI cJ a_this a_cells n_cells z)) hP hD hS
    · have hf := wk_itF hf c1
      refine lv_aload_n hx hb dX6_fill_11 rfl (lv_at hl 0 rfl) ?_
      refine va_get (D := D) (ci := 6) (v := .ref a_cells) (C := RX6) (T := TX6) (N := 1) hx hb hts in_X6_fill_X6 hown hK hP 0 rfl rfl 0 (by decide) (hts (.fieldLink RX6 7 "HangingCards$Row" "cells" "[I") (List.mem_of_getElem? (i := 1) rfl)) (fun _ h9 => h9) rfl dX6_fill_12 ?_
      refine lv_iload_n hx hb dX6_fill_15 rfl (lv_at hl 2 rfl) ?_
      refine lv_iload_n hx hb dX6_fill_16 rfl (lv_at hl 1 rfl) ?_
      obtain ⟨hi2, hf⟩ := wk_ckE hf
      refine va_iast hx hb hK hP hD hS 1 0 rfl rfl hi2 dX6_fill_17 (fun H locs hP hD hS => ?_)
      have hP : va_P D vwCl (w_X6_fill cB cI cJ a_this a_cells n_cells (upd v_cells x2.toNatClampNeg x1)) H := hP
      have hD : va_D A (w_X6_fill cB cI cJ a_this a_cells n_cells (upd v_cells x2.toNatClampNeg x1)) := hD
      obtain ⟨y3, ey3⟩ : ∃ y : Int32, y = x2 + (1 : Int32) := ⟨_, rfl⟩
      have hf := wk_nmE hf ey3
      refine lv_iinc (v := y3) (lv' := [(2, .int y3), (0, .ref a_this), (1, .int x1)]) hx hb dX6_fill_18 hl (k := 2) rfl (by rw [ey3]; rfl) (by decide) rfl (fun ls hl => ?_)
      refine lv_goto (tgt := 2) hx hb dX6_fill_21 (by decide) ?_
      exact ih2 _ _ _ hf _ _ _ hP hD hS (lv_sub hl [1, 2, 0] rfl))
  unfold f_X6_fill at hf
  refine lv_iconst (v := (0 : Int32)) hx hb dX6_fill_0 (by decide) ?_
  refine lv_istore_n (lv' := [(2, .int (0 : Int32)), (0, .ref a_this), (1, .int x1)]) hx hb dX6_fill_1 rfl hl (by decide) rfl (fun ls hl => ?_)
  exact L2 N _ _ _ hf _ _ _ hP hD hS (lv_sub hl [1, 2, 0] rfl)
abbrev w_X6_get (cB cI cJ : ClassId) (a_this : Nat) (a_cells : Nat) (n_cells : Nat) (v_cells : Nat → Int32) : va_W := [(a_this, .inr (6, [.ref a_cells])), (a_cells, .inl (cI, n_cells, .inl v_cells))]
theorem hd_X6_get : yX6_get.cls = RX6 ∧ yX6_get.cls ≠ "java/lang/invoke/MethodHandle" ∧ yX6_get.cls ≠ "java/lang/invoke/VarHandle" ∧ (parseMethodDescriptor yX6_get.desc).map (fun d => d.parameters.length) = some 1 := by decide +kernel
abbrev rm_X6_get : Room := { frames := 0, cells := 0, slots := 0, locals := 0 }
theorem in_X6_get_X6 : ∀ w ∈ wsX60, w ∈ wsX6_get := fun w h => List.mem_cons_of_mem _ (List.mem_append_right _ h)
set_option maxHeartbeats 4000000 in
set_option maxRecDepth 100000 in
theorem c_X6_get (l : Launch) (D : va_G) (cB cI cJ : ClassId) (N : Nat) (a_this : Nat) (a_cells : Nat) (n_cells : Nat) (v_cells : Nat → Int32) (x1 : Int32) {r : Int32} (hf : f_X6_get N n_cells v_cells x1 = some r) : MTi l yX6_get wsX6_get rm_X6_get D (wk_T cB cI cJ) [.ref a_this, .int x1] (w_X6_get cB cI cJ a_this a_cells n_cells v_cells) (w_X6_get cB cI cJ a_this a_cells n_cells v_cells) r := by
  refine MTi.of (cc := cX6_get) (nL := 2) (rt := .int) (own := RX6) pn_X6 rfl rfl (Nat.le_of_ble_eq_true rfl) rfl ?_
  intro p e s m args below meth c A ls Q C hP hD hS hl hret
  obtain ⟨hx, hb, hml, hts, hown, hK, hN, hA, hlk⟩ := id C
  have hl : lv_has ls 2 [(0, .ref a_this), (1, .int x1)] := hl
  unfold f_X6_get at hf
  refine lv_iload_n hx hb dX6_get_0 rfl (lv_at hl 1 rfl) ?_
  refine lv_if_lt (tgt := 22) hx hb dX6_get_1 (by decide) (fun c1 => ?_) (fun c1 => ?_)
  · have hf := wk_itT hf c1
    refine lv_iconst (v := (0 : Int32)) hx hb dX6_get_22 (by decide) ?_
    exact hret _ _ _ _ _ _ dX6_get_23 (wk_rt hf (fun z => z)) rfl hP hD hS
  · have hf := wk_itF hf c1
    refine lv_iload_n hx hb dX6_get_4 rfl (lv_at hl 1 rfl) ?_
    refine lv_aload_n hx hb dX6_get_5 rfl (lv_at hl 0 rfl) ?_
    refine va_get (D := D) (ci := 6) (v := .ref a_cells) (C := RX6) (T := TX6) (N := 1) hx hb hts in_X6_get_X6 hown hK hP 0 rfl rfl 0 (by decide) (hts (.fieldLink RX6 7 "HangingCards$Row" "cells" "[I") (List.mem_of_getElem? (i := 1) rfl)) (fun _ h9 => h9) rfl dX6_get_6 ?_
    refine va_alen (v := (nI n_cells)) hx hb hK hP 1 0 rfl rfl rfl dX6_get_9 ?_
    refine lv_icmp_ge (tgt := 22) hx hb dX6_get_10 (by decide) (fun c2 => ?_) (fun c2 => ?_)
    · have hf := wk_itT hf c2
      refine lv_iconst (v := (0 : Int32)) hx hb dX6_get_22 (by decide) ?_
      exact hret _ _ _ _ _ _ dX6_get_23 (wk_rt hf (fun z => z)) rfl hP hD hS
    · have hf := wk_itF hf c2
      refine lv_aload_n hx hb dX6_get_13 rfl (lv_at hl 0 rfl) ?_
      refine va_get (D := D) (ci := 6) (v := .ref a_cells) (C := RX6) (T := TX6) (N := 1) hx hb hts in_X6_get_X6 hown hK hP 0 rfl rfl 0 (by decide) (hts (.fieldLink RX6 7 "HangingCards$Row" "cells" "[I") (List.mem_of_getElem? (i := 1) rfl)) (fun _ h9 => h9) rfl dX6_get_14 ?_
      refine lv_iload_n hx hb dX6_get_17 rfl (lv_at hl 1 rfl) ?_
      obtain ⟨hi3, hf⟩ := wk_ckE hf
      refine va_iald hx hb hK hP 1 0 rfl rfl hi3 dX6_get_18 ?_
      refine lv_goto (tgt := 23) hx hb dX6_get_19 (by decide) ?_
      exact hret _ _ _ _ _ _ dX6_get_23 (wk_rt hf (fun z => z)) rfl hP hD hS
abbrev w_X6_set (cB cI cJ : ClassId) (a_this : Nat) (a_cells : Nat) (n_cells : Nat) (v_cells : Nat → Int32) : va_W := [(a_this, .inr (6, [.ref a_cells])), (a_cells, .inl (cI, n_cells, .inl v_cells))]
theorem hd_X6_set : yX6_set.cls = RX6 ∧ yX6_set.cls ≠ "java/lang/invoke/MethodHandle" ∧ yX6_set.cls ≠ "java/lang/invoke/VarHandle" ∧ (parseMethodDescriptor yX6_set.desc).map (fun d => d.parameters.length) = some 2 := by decide +kernel
abbrev rm_X6_set : Room := { frames := 0, cells := 0, slots := 0, locals := 0 }
theorem in_X6_set_X6 : ∀ w ∈ wsX60, w ∈ wsX6_set := fun w h => List.mem_cons_of_mem _ (List.mem_append_right _ h)
set_option maxHeartbeats 4000000 in
set_option maxRecDepth 100000 in
theorem c_X6_set (l : Launch) (D : va_G) (cB cI cJ : ClassId) (N : Nat) (a_this : Nat) (a_cells : Nat) (n_cells : Nat) (v_cells : Nat → Int32) (x1 : Int32) (x2 : Int32) {o_cells : Nat → Int32} (hf : f_X6_set N n_cells v_cells x1 x2 = some o_cells) : MTv l yX6_set wsX6_set rm_X6_set D (wk_T cB cI cJ) [.ref a_this, .int x1, .int x2] (w_X6_set cB cI cJ a_this a_cells n_cells v_cells) (w_X6_set cB cI cJ a_this a_cells n_cells o_cells) := by
  refine MTv.of (cc := cX6_set) (nL := 3) (own := RX6) pn_X6 rfl rfl (Nat.le_of_ble_eq_true rfl) ?_
  intro p e s m args below meth c A ls Q C hP hD hS hl hret
  obtain ⟨hx, hb, hml, hts, hown, hK, hN, hA, hlk⟩ := id C
  have hl : lv_has ls 3 [(0, .ref a_this), (1, .int x1), (2, .int x2)] := hl
  unfold f_X6_set at hf
  refine lv_iload_n hx hb dX6_set_0 rfl (lv_at hl 1 rfl) ?_
  refine lv_if_lt (tgt := 20) hx hb dX6_set_1 (by decide) (fun c1 => ?_) (fun c1 => ?_)
  · have hf := wk_itT hf c1
    exact hret _ _ _ _ _ dX6_set_20 (wk_rt hf (fun z => w_X6_set cB cI cJ a_this a_cells n_cells z)) hP hD hS
  · have hf := wk_itF hf c1
    refine lv_iload_n hx hb dX6_set_4 rfl (lv_at hl 1 rfl) ?_
    refine lv_aload_n hx hb dX6_set_5 rfl (lv_at hl 0 rfl) ?_
    refine va_get (D := D) (ci := 6) (v := .ref a_cells) (C := RX6) (T := TX6) (N := 1) hx hb hts in_X6_set_X6 hown hK hP 0 rfl rfl 0 (by decide) (hts (.fieldLink RX6 7 "HangingCards$Row" "cells" "[I") (List.mem_of_getElem? (i := 1) rfl)) (fun _ h9 => h9) rfl dX6_set_6 ?_
    refine va_alen (v := (nI n_cells)) hx hb hK hP 1 0 rfl rfl rfl dX6_set_9 ?_
    refine lv_icmp_ge (tgt := 20) hx hb dX6_set_10 (by decide) (fun c2 => ?_) (fun c2 => ?_)
    · have hf := wk_itT hf c2
      exact hret _ _ _ _ _ dX6_set_20 (wk_rt hf (fun z => w_X6_set cB cI cJ a_this a_cells n_cells z)) hP hD hS
    · have hf := wk_itF hf c2
      refine lv_aload_n hx hb dX6_set_13 rfl (lv_at hl 0 rfl) ?_
      refine va_get (D := D) (ci := 6) (v := .ref a_cells) (C := RX6) (T := TX6) (N := 1) hx hb hts in_X6_set_X6 hown hK hP 0 rfl rfl 0 (by decide) (hts (.fieldLink RX6 7 "HangingCards$Row" "cells" "[I") (List.mem_of_getElem? (i := 1) rfl)) (fun _ h9 => h9) rfl dX6_set_14 ?_
      refine lv_iload_n hx hb dX6_set_17 rfl (lv_at hl 1 rfl) ?_
      refine lv_iload_n hx hb dX6_set_18 rfl (lv_at hl 2 rfl) ?_
      obtain ⟨hi3, hf⟩ := wk_ckE hf
      refine va_iast hx hb hK hP hD hS 1 0 rfl rfl hi3 dX6_set_19 (fun H locs hP hD hS => ?_)
      have hP : va_P D vwCl (w_X6_set cB cI cJ a_this a_cells n_cells (upd v_cells x1.toNatClampNeg x2)) H := hP
      have hD : va_D A (w_X6_set cB cI cJ a_this a_cells n_cells (upd v_cells x1.toNatClampNeg x2)) := hD
      exact hret _ _ _ _ _ dX6_set_20 (wk_rt hf (fun z => w_X6_set cB cI cJ a_this a_cells n_cells z)) hP hD hS
abbrev w_X6_copy (cB cI cJ : ClassId) (a_p1 : Nat) (a_p1_cells : Nat) (a_this : Nat) (a_cells : Nat) (n_p1_cells : Nat) (n_cells : Nat) (v_p1_cells : Nat → Int32) (v_cells : Nat → Int32) : va_W := [(a_p1, .inr (6, [.ref a_p1_cells])), (a_p1_cells, .inl (cI, n_p1_cells, .inl v_p1_cells)), (a_this, .inr (6, [.ref a_cells])), (a_cells, .inl (cI, n_cells, .inl v_cells))]
theorem hd_X6_copy : yX6_copy.cls = RX6 ∧ yX6_copy.cls ≠ "java/lang/invoke/MethodHandle" ∧ yX6_copy.cls ≠ "java/lang/invoke/VarHandle" ∧ (parseMethodDescriptor yX6_copy.desc).map (fun d => d.parameters.length) = some 1 := by decide +kernel
abbrev rm_X6_copy : Room := { frames := 1, cells := 0, slots := 0, locals := 21 }
theorem in_X6_copy_X6 : ∀ w ∈ wsX60, w ∈ wsX6_copy := fun w h => List.mem_cons_of_mem _ (List.mem_append_right _ h)
set_option maxHeartbeats 4000000 in
set_option maxRecDepth 100000 in
theorem c_X6_copy (l : Launch) (D : va_G) (cB cI cJ : ClassId) (N : Nat) (a_p1 : Nat) (a_p1_cells : Nat) (a_this : Nat) (a_cells : Nat) (n_p1_cells : Nat) (n_cells : Nat) (v_p1_cells : Nat → Int32) (v_cells : Nat → Int32) {o_cells : Nat → Int32} (hf : f_X6_copy N n_p1_cells n_cells v_p1_cells v_cells = some o_cells) : MTv l yX6_copy wsX6_copy rm_X6_copy D (wk_T cB cI cJ) [.ref a_this, .ref a_p1] (w_X6_copy cB cI cJ a_p1 a_p1_cells a_this a_cells n_p1_cells n_cells v_p1_cells v_cells) (w_X6_copy cB cI cJ a_p1 a_p1_cells a_this a_cells n_p1_cells n_cells v_p1_cells o_cells) := by
  refine MTv.of (cc := cX6_copy) (nL := 3) (own := RX6) pn_X6 rfl rfl (Nat.le_of_ble_eq_true rfl) ?_
  intro p e s m args below meth c A ls Q C hP hD hS hl hret
  obtain ⟨hx, hb, hml, hts, hown, hK, hN, hA, hlk⟩ := id C
  have hl : lv_has ls 3 [(0, .ref a_this), (1, .ref a_p1)] := hl
  have L7 := wk_loopI (F := (fun k7 : (Nat → Int32) → Int32 → Option (Nat → Int32) => B_X6_copy_7 N n_p1_cells n_cells v_p1_cells k7)) (bot := fun _ _ => none) (fun k7 : (Nat → Int32) → Int32 → Option (Nat → Int32) => ∀ (v_cells : Nat → Int32) (x2 : Int32), k7 v_cells x2 = some o_cells → ∀ (H : Heap) (locs : List Loc) (ls : Array Slot), va_P D vwCl (w_X6_copy cB cI cJ a_p1 a_p1_cells a_this a_cells n_p1_cells n_cells v_p1_cells v_cells) H → va_D A (w_X6_copy cB cI cJ a_p1 a_p1_cells a_this a_cells n_p1_cells n_cells v_p1_cells v_cells) → va_S A s.heap H locs → lv_has ls 3 [(0, .ref a_this), (1, .ref a_p1), (2, .int x2)] → W p l e rm_X6_copy s m args below meth c H locs 0 0 Q (F0 m 7 ls [])) (by intro v_cells x2 hf; exact wk_no hf) (by
    intro k7 ih7
    intro v_cells x2 hf H locs ls hP hD hS hl
    have hf : B_X6_copy_7 N n_p1_cells n_cells v_p1_cells k7 v_cells x2 = some o_cells := hf
    unfold B_X6_copy_7 at hf
    refine lv_iload_n hx hb dX6_copy_7 rfl (lv_at hl 2 rfl) ?_
    refine lv_aload_n hx hb dX6_copy_8 rfl (lv_at hl 0 rfl) ?_
    refine va_get (D := D) (ci := 6) (v := .ref a_cells) (C := RX6) (T := TX6) (N := 1) hx hb hts in_X6_copy_X6 hown hK hP 2 rfl rfl 0 (by decide) (hts (.fieldLink RX6 7 "HangingCards$Row" "cells" "[I") (List.mem_of_getElem? (i := 1) rfl)) (fun _ h9 => h9) rfl dX6_copy_9 ?_
    refine va_alen (v := (nI n_cells)) hx hb hK hP 3 0 rfl rfl rfl dX6_copy_12 ?_
    refine lv_icmp_ge (tgt := 33) hx hb dX6_copy_13 (by decide) (fun c1 => ?_) (fun c1 => ?_)
    · have hf := wk_itT hf c1
      exact hret _ _ _ _ _ dX6_copy_33 (wk_rt hf (fun z => w_X6_copy cB cI cJ a_p1 a_p1_cells a_this a_cells n_p1_cells n_cells v_p1_cells z)) hP hD hS
    · have hf := wk_itF hf c1
      refine lv_aload_n hx hb dX6_copy_16 rfl (lv_at hl 0 rfl) ?_
      refine va_get (D := D) (ci := 6) (v := .ref a_cells) (C := RX6) (T := TX6) (N := 1) hx hb hts in_X6_copy_X6 hown hK hP 2 rfl rfl 0 (by decide) (hts (.fieldLink RX6 7 "HangingCards$Row" "cells" "[I") (List.mem_of_getElem? (i := 1) rfl)) (fun _ h9 => h9) rfl dX6_copy_17 ?_
      refine lv_iload_n hx hb dX6_copy_20 rfl (lv_at hl 2 rfl) ?_
      refine lv_aload_n hx hb dX6_copy_21 rfl (lv_at hl 1 rfl) ?_
      refine lv_iload_n hx hb dX6_copy_22 rfl (lv_at hl 2 rfl) ?_
      obtain ⟨r2, hc2, hf⟩ := wk_b1E hf
      refine wk_callVi2 C hP hD hS (c_X6_get l D cB cI cJ N a_p1 a_p1_cells n_p1_cells v_p1_cells x2 hc2) (cwV 1 hts gX6_copy_X6_get rfl rfl rfl hd_X6_get ⟨Nat.le_of_ble_eq_true rfl, Nat.le_of_ble_eq_true rfl⟩) hl.1 ⟨Nat.zero_le _, Nat.zero_le _⟩ [0, 1] [2, 3] 4 (by decide +kernel) rfl (Wn := w_X6_copy cB cI cJ a_p1 a_p1_cells a_this a_cells n_p1_cells n_cells v_p1_cells v_cells) rfl rfl rfl rfl rfl rfl (ci := 6) rfl rfl (q0 := 0) rfl rfl rfl (Nat.le_of_ble_eq_true rfl) dX6_copy_23 (fun H locs hP hD hS => ?_)
      obtain ⟨hi3, hf⟩ := wk_ckE hf
      refine va_iast hx hb hK hP hD hS 3 0 rfl rfl hi3 dX6_copy_26 (fun H locs hP hD hS => ?_)
      have hP : va_P D vwCl (w_X6_copy cB cI cJ a_p1 a_p1_cells a_this a_cells n_p1_cells n_cells v_p1_cells (upd v_cells x2.toNatClampNeg r2)) H := hP
      have hD : va_D A (w_X6_copy cB cI cJ a_p1 a_p1_cells a_this a_cells n_p1_cells n_cells v_p1_cells (upd v_cells x2.toNatClampNeg r2)) := hD
      obtain ⟨y4, ey4⟩ : ∃ y : Int32, y = x2 + (1 : Int32) := ⟨_, rfl⟩
      have hf := wk_nmE hf ey4
      refine lv_iinc (v := y4) (lv' := [(2, .int y4), (0, .ref a_this), (1, .ref a_p1)]) hx hb dX6_copy_27 hl (k := 2) rfl (by rw [ey4]; rfl) (by decide) rfl (fun ls hl => ?_)
      refine lv_goto (tgt := 7) hx hb dX6_copy_30 (by decide) ?_
      exact ih7 _ _ hf _ _ _ hP hD hS (lv_sub hl [1, 2, 0] rfl))
  unfold f_X6_copy at hf
  refine lv_aload_n hx hb dX6_copy_0 rfl (lv_at hl 1 rfl) ?_
  refine lv_ifnonnull (tgt := 5) hx hb dX6_copy_1 (by decide) ?_
  refine lv_iconst (v := (0 : Int32)) hx hb dX6_copy_5 (by decide) ?_
  refine lv_istore_n (lv' := [(2, .int (0 : Int32)), (0, .ref a_this), (1, .ref a_p1)]) hx hb dX6_copy_6 rfl hl (by decide) rfl (fun ls hl => ?_)
  exact L7 N _ _ hf _ _ _ hP hD hS (lv_sub hl [1, 2, 0] rfl)
abbrev w_X6_add (cB cI cJ : ClassId) (a_this : Nat) (a_cells : Nat) (n_cells : Nat) (v_cells : Nat → Int32) : va_W := [(a_this, .inr (6, [.ref a_cells])), (a_cells, .inl (cI, n_cells, .inl v_cells))]
theorem hd_X6_add : yX6_add.cls = RX6 ∧ yX6_add.cls ≠ "java/lang/invoke/MethodHandle" ∧ yX6_add.cls ≠ "java/lang/invoke/VarHandle" ∧ (parseMethodDescriptor yX6_add.desc).map (fun d => d.parameters.length) = some 2 := by decide +kernel
abbrev rm_X6_add : Room := { frames := 1, cells := 0, slots := 0, locals := 22 }
set_option maxHeartbeats 4000000 in
set_option maxRecDepth 100000 in
theorem c_X6_add (l : Launch) (D : va_G) (cB cI cJ : ClassId) (N : Nat) (a_this : Nat) (a_cells : Nat) (n_cells : Nat) (v_cells : Nat → Int32) (x1 : Int32) (x2 : Int32) {o_cells : Nat → Int32} (hf : f_X6_add N n_cells v_cells x1 x2 = some o_cells) : MTv l yX6_add wsX6_add rm_X6_add D (wk_T cB cI cJ) [.ref a_this, .int x1, .int x2] (w_X6_add cB cI cJ a_this a_cells n_cells v_cells) (w_X6_add cB cI cJ a_this a_cells n_cells o_cells) := by
  refine MTv.of (cc := cX6_add) (nL := 3) (own := RX6) pn_X6 rfl rfl (Nat.le_of_ble_eq_true rfl) ?_
  intro p e s m args below meth c A ls Q C hP hD hS hl hret
  obtain ⟨hx, hb, hml, hts, hown, hK, hN, hA, hlk⟩ := id C
  have hl : lv_has ls 3 [(0, .ref a_this), (1, .int x1), (2, .int x2)] := hl
  unfold f_X6_add at hf
  refine lv_aload_n hx hb dX6_add_0 rfl (lv_at hl 0 rfl) ?_
  refine lv_iload_n hx hb dX6_add_1 rfl (lv_at hl 1 rfl) ?_
  refine lv_aload_n hx hb dX6_add_2 rfl (lv_at hl 0 rfl) ?_
  refine lv_iload_n hx hb dX6_add_3 rfl (lv_at hl 1 rfl) ?_
  obtain ⟨r1, hc1, hf⟩ := wk_b1E hf
  refine wk_callVi2 C hP hD hS (c_X6_get l D cB cI cJ N a_this a_cells n_cells v_cells x1 hc1) (cwV 1 hts gX6_add_X6_get rfl rfl rfl hd_X6_get ⟨Nat.le_of_ble_eq_true rfl, Nat.le_of_ble_eq_true rfl⟩) hl.1 ⟨Nat.zero_le _, Nat.zero_le _⟩ [0, 1] [] 2 (by decide +kernel) rfl (Wn := w_X6_add cB cI cJ a_this a_cells n_cells v_cells) rfl rfl rfl rfl rfl rfl (ci := 6) rfl rfl (q0 := 0) rfl rfl rfl (Nat.le_of_ble_eq_true rfl) dX6_add_4 (fun H locs hP hD hS => ?_)
  refine lv_iload_n hx hb dX6_add_7 rfl (lv_at hl 2 rfl) ?_
  refine lv_iadd hx hb dX6_add_8 ?_
  obtain ⟨o2_0, hc2, hf⟩ := wk_b1E hf
  refine wk_callVv2 C hP hD hS (c_X6_set l D cB cI cJ N a_this a_cells n_cells v_cells x1 (r1 + x2) hc2) (cwV 2 hts gX6_add_X6_set rfl rfl rfl hd_X6_set ⟨Nat.le_of_ble_eq_true rfl, Nat.le_of_ble_eq_true rfl⟩) hl.1 ⟨Nat.zero_le _, Nat.zero_le _⟩ [0, 1] [] 2 (by decide +kernel) rfl (Wn := w_X6_add cB cI cJ a_this a_cells n_cells o2_0) rfl rfl rfl rfl rfl rfl (ci := 6) rfl rfl (q0 := 0) rfl rfl rfl (Nat.le_of_ble_eq_true rfl) dX6_add_9 (fun H locs hP hD hS => ?_)
  exact hret _ _ _ _ _ dX6_add_12 (wk_rt hf (fun z => w_X6_add cB cI cJ a_this a_cells n_cells z)) hP hD hS
