abbrev w_X10_onlyBit (cB cI cJ : ClassId) : va_W := []
theorem hd_X10_onlyBit : yX10_onlyBit.cls = RX10 ∧ yX10_onlyBit.cls ≠ "java/lang/invoke/MethodHandle" ∧ yX10_onlyBit.cls ≠ "java/lang/invoke/VarHandle" ∧ (parseMethodDescriptor yX10_onlyBit.desc).map (fun d => d.parameters.length) = some 1 := by decide +kernel
abbrev rm_X10_onlyBit : Room := { frames := 0, cells := 0, slots := 0, locals := 0 }
set_option maxHeartbeats 4000000 in
set_option maxRecDepth 100000 in
theorem c_X10_onlyBit (l : Launch) (D : va_G) (cB cI cJ : ClassId) (N : Nat) (x0 : Int32) {r : Int32} (hf : f_X10_onlyBit N x0 = some r) : MTi l yX10_onlyBit wsX10_onlyBit rm_X10_onlyBit D (wk_T cB cI cJ) [.int x0] (w_X10_onlyBit cB cI cJ) (w_X10_onlyBit cB cI cJ) r := by
  refine MTi.of (cc := cX10_onlyBit) (nL := 2) (rt := .int) (own := RX10) pn_X10 rfl rfl (Nat.le_of_ble_eq_true rfl) rfl ?_
  intro p e s m args below meth c A ls Q C hP hD hS hl hret
  obtain ⟨hx, hb, hml, hts, hown, hK, hN, hA, hlk⟩ := id C
  have hl : lv_has ls 2 [(0, .int x0)] := hl
  have L2 := wk_loopI (F := (fun k2 : Int32 → Int32 → Option Int32 => B_X10_onlyBit_2 N k2)) (bot := fun _ _ => none) (fun k2 : Int32 → Int32 → Option Int32 => ∀ (x0 : Int32) (x1 : Int32), k2 x0 x1 = some r → ∀ (H : Heap) (locs : List Loc) (ls : Array Slot), va_P D vwCl (w_X10_onlyBit cB cI cJ) H → va_D A (w_X10_onlyBit cB cI cJ) → va_S A s.heap H locs → lv_has ls 2 [(0, .int x0), (1, .int x1)] → W p l e rm_X10_onlyBit s m args below meth c H locs 0 0 Q (F0 m 2 ls [])) (by intro x0 x1 hf; exact wk_no hf) (by
    intro k2 ih2
    intro x0 x1 hf H locs ls hP hD hS hl
    have hf : B_X10_onlyBit_2 N k2 x0 x1 = some r := hf
    unfold B_X10_onlyBit_2 at hf
    refine lv_iload_n hx hb dX10_onlyBit_2 rfl (lv_at hl 1 rfl) ?_
    refine lv_iconst (v := (4 : Int32)) hx hb dX10_onlyBit_3 (by decide) ?_
    refine lv_icmp_ge (tgt := 22) hx hb dX10_onlyBit_4 (by decide) (fun c1 => ?_) (fun c1 => ?_)
    · have hf := wk_itT hf c1
      refine lv_bipush (v := (-4 : Int32)) hx hb dX10_onlyBit_22 (by decide) ?_
      exact hret _ _ _ _ _ _ dX10_onlyBit_24 (wk_rt hf (fun z => z)) rfl hP hD hS
    · have hf := wk_itF hf c1
      refine lv_iload_n hx hb dX10_onlyBit_7 rfl (lv_at hl 0 rfl) ?_
      refine lv_iconst (v := (1 : Int32)) hx hb dX10_onlyBit_8 (by decide) ?_
      refine lv_iload_n hx hb dX10_onlyBit_9 rfl (lv_at hl 1 rfl) ?_
      refine lv_ishl hx hb dX10_onlyBit_10 ?_
      refine lv_icmp_ne (tgt := 16) hx hb dX10_onlyBit_11 (by decide) (fun c2 => ?_) (fun c2 => ?_)
      · have hf := wk_itF hf c2
        obtain ⟨y3, ey3⟩ : ∃ y : Int32, y = x1 + (1 : Int32) := ⟨_, rfl⟩
        have hf := wk_nmE hf ey3
        refine lv_iinc (v := y3) (lv' := [(1, .int y3), (0, .int x0)]) hx hb dX10_onlyBit_16 hl (k := 1) rfl (by rw [ey3]; rfl) (by decide) rfl (fun ls hl => ?_)
        refine lv_goto (tgt := 2) hx hb dX10_onlyBit_19 (by decide) ?_
        exact ih2 _ _ hf _ _ _ hP hD hS (lv_sub hl [1, 0] rfl)
      · have hf := wk_itT hf c2
        refine lv_iload_n hx hb dX10_onlyBit_14 rfl (lv_at hl 1 rfl) ?_
        exact hret _ _ _ _ _ _ dX10_onlyBit_15 (wk_rt hf (fun z => z)) rfl hP hD hS)
  unfold f_X10_onlyBit at hf
  refine lv_iconst (v := (0 : Int32)) hx hb dX10_onlyBit_0 (by decide) ?_
  refine lv_istore_n (lv' := [(1, .int (0 : Int32)), (0, .int x0)]) hx hb dX10_onlyBit_1 rfl hl (by decide) rfl (fun ls hl => ?_)
  exact L2 N _ _ hf _ _ _ hP hD hS (lv_sub hl [1, 0] rfl)
abbrev w_X10_oneVote (cB cI cJ : ClassId) : va_W := []
theorem hd_X10_oneVote : yX10_oneVote.cls = RX10 ∧ yX10_oneVote.cls ≠ "java/lang/invoke/MethodHandle" ∧ yX10_oneVote.cls ≠ "java/lang/invoke/VarHandle" ∧ (parseMethodDescriptor yX10_oneVote.desc).map (fun d => d.parameters.length) = some 1 := by decide +kernel
abbrev rm_X10_oneVote : Room := { frames := 0, cells := 0, slots := 0, locals := 0 }
set_option maxHeartbeats 4000000 in
set_option maxRecDepth 100000 in
theorem c_X10_oneVote (l : Launch) (D : va_G) (cB cI cJ : ClassId) (N : Nat) (x0 : Int32) {r : Int32} (hf : f_X10_oneVote N x0 = some r) : MTi l yX10_oneVote wsX10_oneVote rm_X10_oneVote D (wk_T cB cI cJ) [.int x0] (w_X10_oneVote cB cI cJ) (w_X10_oneVote cB cI cJ) r := by
  refine MTi.of (cc := cX10_oneVote) (nL := 1) (rt := .int) (own := RX10) pn_X10 rfl rfl (Nat.le_of_ble_eq_true rfl) rfl ?_
  intro p e s m args below meth c A ls Q C hP hD hS hl hret
  obtain ⟨hx, hb, hml, hts, hown, hK, hN, hA, hlk⟩ := id C
  have hl : lv_has ls 1 [(0, .int x0)] := hl
  unfold f_X10_oneVote at hf
  refine lv_iconst (v := (1 : Int32)) hx hb dX10_oneVote_0 (by decide) ?_
  refine lv_bipush (v := (8 : Int32)) hx hb dX10_oneVote_1 (by decide) ?_
  refine lv_iload_n hx hb dX10_oneVote_3 rfl (lv_at hl 0 rfl) ?_
  refine lv_imul hx hb dX10_oneVote_4 ?_
  refine lv_ishl hx hb dX10_oneVote_5 ?_
  exact hret _ _ _ _ _ _ dX10_oneVote_6 (wk_rt hf (fun z => z)) rfl hP hD hS
abbrev w_X10_votesFor (cB cI cJ : ClassId) : va_W := []
theorem hd_X10_votesFor : yX10_votesFor.cls = RX10 ∧ yX10_votesFor.cls ≠ "java/lang/invoke/MethodHandle" ∧ yX10_votesFor.cls ≠ "java/lang/invoke/VarHandle" ∧ (parseMethodDescriptor yX10_votesFor.desc).map (fun d => d.parameters.length) = some 2 := by decide +kernel
abbrev rm_X10_votesFor : Room := { frames := 0, cells := 0, slots := 0, locals := 0 }
set_option maxHeartbeats 4000000 in
set_option maxRecDepth 100000 in
theorem c_X10_votesFor (l : Launch) (D : va_G) (cB cI cJ : ClassId) (N : Nat) (x0 : Int32) (x1 : Int32) {r : Int32} (hf : f_X10_votesFor N x0 x1 = some r) : MTi l yX10_votesFor wsX10_votesFor rm_X10_votesFor D (wk_T cB cI cJ) [.int x0, .int x1] (w_X10_votesFor cB cI cJ) (w_X10_votesFor cB cI cJ) r := by
  refine MTi.of (cc := cX10_votesFor) (nL := 2) (rt := .int) (own := RX10) pn_X10 rfl rfl (Nat.le_of_ble_eq_true rfl) rfl ?_
  intro p e s m args below meth c A ls Q C hP hD hS hl hret
  obtain ⟨hx, hb, hml, hts, hown, hK, hN, hA, hlk⟩ := id C
  have hl : lv_has ls 2 [(0, .int x0), (1, .int x1)] := hl
  unfold f_X10_votesFor at hf
  refine lv_iload_n hx hb dX10_votesFor_0 rfl (lv_at hl 1 rfl) ?_
  refine lv_bipush (v := (8 : Int32)) hx hb dX10_votesFor_1 (by decide) ?_
  refine lv_iload_n hx hb dX10_votesFor_3 rfl (lv_at hl 0 rfl) ?_
  refine lv_imul hx hb dX10_votesFor_4 ?_
  refine lv_ishr hx hb dX10_votesFor_5 ?_
  refine lv_sipush (v := (255 : Int32)) hx hb dX10_votesFor_6 (by decide) ?_
  refine lv_iand hx hb dX10_votesFor_9 ?_
  exact hret _ _ _ _ _ _ dX10_votesFor_10 (wk_rt hf (fun z => z)) rfl hP hD hS
abbrev w_X10_leadOf (cB cI cJ : ClassId) : va_W := []
theorem hd_X10_leadOf : yX10_leadOf.cls = RX10 ∧ yX10_leadOf.cls ≠ "java/lang/invoke/MethodHandle" ∧ yX10_leadOf.cls ≠ "java/lang/invoke/VarHandle" ∧ (parseMethodDescriptor yX10_leadOf.desc).map (fun d => d.parameters.length) = some 2 := by decide +kernel
abbrev rm_X10_leadOf : Room := { frames := 1, cells := 0, slots := 0, locals := 21 }
set_option maxHeartbeats 4000000 in
set_option maxRecDepth 100000 in
theorem c_X10_leadOf (l : Launch) (D : va_G) (cB cI cJ : ClassId) (N : Nat) (x0 : Int32) (x1 : Int32) {r : Int32} (hf : f_X10_leadOf N x0 x1 = some r) : MTi l yX10_leadOf wsX10_leadOf rm_X10_leadOf D (wk_T cB cI cJ) [.int x0, .int x1] (w_X10_leadOf cB cI cJ) (w_X10_leadOf cB cI cJ) r := by
  refine MTi.of (cc := cX10_leadOf) (nL := 4) (rt := .int) (own := RX10) pn_X10 rfl rfl (Nat.le_of_ble_eq_true rfl) rfl ?_
  intro p e s m args below meth c A ls Q C hP hD hS hl hret
  obtain ⟨hx, hb, hml, hts, hown, hK, hN, hA, hlk⟩ := id C
  have hl : lv_has ls 4 [(0, .int x0), (1, .int x1)] := hl
  have L4 := wk_loopI (F := (fun k4 : Int32 → Int32 → Int32 → Int32 → Option Int32 => B_X10_leadOf_4 N k4)) (bot := fun _ _ _ _ => none) (fun k4 : Int32 → Int32 → Int32 → Int32 → Option Int32 => ∀ (x0 : Int32) (x1 : Int32) (x2 : Int32) (x3 : Int32), k4 x0 x1 x2 x3 = some r → ∀ (H : Heap) (locs : List Loc) (ls : Array Slot), va_P D vwCl (w_X10_leadOf cB cI cJ) H → va_D A (w_X10_leadOf cB cI cJ) → va_S A s.heap H locs → lv_has ls 4 [(0, .int x0), (1, .int x1), (2, .int x2), (3, .int x3)] → W p l e rm_X10_leadOf s m args below meth c H locs 0 0 Q (F0 m 4 ls [])) (by intro x0 x1 x2 x3 hf; exact wk_no hf) (by
    intro k4 ih4
    intro x0 x1 x2 x3 hf H locs ls hP hD hS hl
    have hf : B_X10_leadOf_4 N k4 x0 x1 x2 x3 = some r := hf
    unfold B_X10_leadOf_4 at hf
    refine lv_iload_n hx hb dX10_leadOf_4 rfl (lv_at hl 3 rfl) ?_
    refine lv_iconst (v := (4 : Int32)) hx hb dX10_leadOf_5 (by decide) ?_
    refine lv_icmp_ge (tgt := 30) hx hb dX10_leadOf_6 (by decide) (fun c1 => ?_) (fun c1 => ?_)
    · have hf := wk_itT hf c1
      refine lv_iload_n hx hb dX10_leadOf_30 rfl (lv_at hl 0 rfl) ?_
      refine lv_iload_n hx hb dX10_leadOf_31 rfl (lv_at hl 1 rfl) ?_
      obtain ⟨r2, hc2, hf⟩ := wk_b1E hf
      refine wk_callSi2 C hP hD hS (c_X10_votesFor l D cB cI cJ N x0 x1 hc2) (va_cwS 2 hts gX10_leadOf_X10_votesFor rfl rfl rfl hd_X10_votesFor.2 ⟨Nat.le_of_ble_eq_true rfl, Nat.le_of_ble_eq_true rfl⟩) hl.1 ⟨Nat.zero_le _, Nat.zero_le _⟩ [] [] 0 (by decide +kernel) rfl (Wn := w_X10_leadOf cB cI cJ) rfl rfl rfl rfl rfl rfl rfl rfl (Nat.le_of_ble_eq_true rfl) dX10_leadOf_32 (fun H locs hP hD hS => ?_)
      refine lv_iload_n hx hb dX10_leadOf_35 rfl (lv_at hl 2 rfl) ?_
      refine lv_isub hx hb dX10_leadOf_36 ?_
      exact hret _ _ _ _ _ _ dX10_leadOf_37 (wk_rt hf (fun z => z)) rfl hP hD hS
    · have hf := wk_itF hf c1
      refine lv_iload_n hx hb dX10_leadOf_9 rfl (lv_at hl 3 rfl) ?_
      refine lv_iload_n hx hb dX10_leadOf_10 rfl (lv_at hl 0 rfl) ?_
      refine lv_icmp_eq (tgt := 24) hx hb dX10_leadOf_11 (by decide) (fun c3 => ?_) (fun c3 => ?_)
      · have hf := wk_itT hf c3
        obtain ⟨y4, ey4⟩ : ∃ y : Int32, y = x3 + (1 : Int32) := ⟨_, rfl⟩
        have hf := wk_nmE hf ey4
        refine lv_iinc (v := y4) (lv' := [(3, .int y4), (0, .int x0), (1, .int x1), (2, .int x2)]) hx hb dX10_leadOf_24 hl (k := 3) rfl (by rw [ey4]; rfl) (by decide) rfl (fun ls hl => ?_)
        refine lv_goto (tgt := 4) hx hb dX10_leadOf_27 (by decide) ?_
        exact ih4 _ _ _ _ hf _ _ _ hP hD hS (lv_sub hl [1, 2, 3, 0] rfl)
      · have hf := wk_itF hf c3
        refine lv_iload_n hx hb dX10_leadOf_14 rfl (lv_at hl 2 rfl) ?_
        refine lv_iload_n hx hb dX10_leadOf_15 rfl (lv_at hl 3 rfl) ?_
        refine lv_iload_n hx hb dX10_leadOf_16 rfl (lv_at hl 1 rfl) ?_
        obtain ⟨r5, hc5, hf⟩ := wk_b1E hf
        refine wk_callSi2 C hP hD hS (c_X10_votesFor l D cB cI cJ N x3 x1 hc5) (va_cwS 2 hts gX10_leadOf_X10_votesFor rfl rfl rfl hd_X10_votesFor.2 ⟨Nat.le_of_ble_eq_true rfl, Nat.le_of_ble_eq_true rfl⟩) hl.1 ⟨Nat.zero_le _, Nat.zero_le _⟩ [] [] 0 (by decide +kernel) rfl (Wn := w_X10_leadOf cB cI cJ) rfl rfl rfl rfl rfl rfl rfl rfl (Nat.le_of_ble_eq_true rfl) dX10_leadOf_17 (fun H locs hP hD hS => ?_)
        refine va_mmax hx hb (hml.trans hl.1.symm) hown (hts (.methodLink RX10 174 Lib.Math.max.name) (List.mem_of_getElem? (i := 1) rfl)) (hts (.static Lib.Math.max.name) (List.mem_of_getElem? (i := 2) rfl)) (hts (.initialized "java/lang/Math") (List.mem_of_getElem? (i := 3) rfl)) (hts (.code Lib.Math.max.name Lib.Math.max.code 2 (some .int)) (List.mem_of_getElem? (i := 4) rfl)) (Nat.le_of_ble_eq_true rfl) (Nat.le_of_ble_eq_true rfl) (Nat.zero_le _) (Nat.zero_le _) dX10_leadOf_20 ?_
        refine lv_topi (fun y6 ey6 => ?_)
        have hf := wk_nmE hf ey6
        refine lv_istore_n (lv' := [(2, .int y6), (0, .int x0), (1, .int x1), (3, .int x3)]) hx hb dX10_leadOf_23 rfl hl (by decide) rfl (fun ls hl => ?_)
        obtain ⟨y7, ey7⟩ : ∃ y : Int32, y = x3 + (1 : Int32) := ⟨_, rfl⟩
        have hf := wk_nmE hf ey7
        refine lv_iinc (v := y7) (lv' := [(3, .int y7), (2, .int y6), (0, .int x0), (1, .int x1)]) hx hb dX10_leadOf_24 hl (k := 3) rfl (by rw [ey7]; rfl) (by decide) rfl (fun ls hl => ?_)
        refine lv_goto (tgt := 4) hx hb dX10_leadOf_27 (by decide) ?_
        exact ih4 _ _ _ _ hf _ _ _ hP hD hS (lv_sub hl [2, 3, 1, 0] rfl))
  unfold f_X10_leadOf at hf
  refine lv_iconst (v := (0 : Int32)) hx hb dX10_leadOf_0 (by decide) ?_
  refine lv_istore_n (lv' := [(2, .int (0 : Int32)), (0, .int x0), (1, .int x1)]) hx hb dX10_leadOf_1 rfl hl (by decide) rfl (fun ls hl => ?_)
  refine lv_iconst (v := (0 : Int32)) hx hb dX10_leadOf_2 (by decide) ?_
  refine lv_istore_n (lv' := [(3, .int (0 : Int32)), (2, .int (0 : Int32)), (0, .int x0), (1, .int x1)]) hx hb dX10_leadOf_3 rfl hl (by decide) rfl (fun ls hl => ?_)
  exact L4 N _ _ _ _ hf _ _ _ hP hD hS (lv_sub hl [2, 3, 1, 0] rfl)
abbrev w_X10_winnerOf (cB cI cJ : ClassId) : va_W := []
theorem hd_X10_winnerOf : yX10_winnerOf.cls = RX10 ∧ yX10_winnerOf.cls ≠ "java/lang/invoke/MethodHandle" ∧ yX10_winnerOf.cls ≠ "java/lang/invoke/VarHandle" ∧ (parseMethodDescriptor yX10_winnerOf.desc).map (fun d => d.parameters.length) = some 1 := by decide +kernel
abbrev rm_X10_winnerOf : Room := { frames := 2, cells := 0, slots := 0, locals := 44 }
set_option maxHeartbeats 4000000 in
set_option maxRecDepth 100000 in
theorem c_X10_winnerOf (l : Launch) (D : va_G) (cB cI cJ : ClassId) (N : Nat) (x0 : Int32) {r : Int32} (hf : f_X10_winnerOf N x0 = some r) : MTi l yX10_winnerOf wsX10_winnerOf rm_X10_winnerOf D (wk_T cB cI cJ) [.int x0] (w_X10_winnerOf cB cI cJ) (w_X10_winnerOf cB cI cJ) r := by
  refine MTi.of (cc := cX10_winnerOf) (nL := 2) (rt := .int) (own := RX10) pn_X10 rfl rfl (Nat.le_of_ble_eq_true rfl) rfl ?_
  intro p e s m args below meth c A ls Q C hP hD hS hl hret
  obtain ⟨hx, hb, hml, hts, hown, hK, hN, hA, hlk⟩ := id C
  have hl : lv_has ls 2 [(0, .int x0)] := hl
  have L2 := wk_loopI (F := (fun k2 : Int32 → Int32 → Option Int32 => B_X10_winnerOf_2 N k2)) (bot := fun _ _ => none) (fun k2 : Int32 → Int32 → Option Int32 => ∀ (x0 : Int32) (x1 : Int32), k2 x0 x1 = some r → ∀ (H : Heap) (locs : List Loc) (ls : Array Slot), va_P D vwCl (w_X10_winnerOf cB cI cJ) H → va_D A (w_X10_winnerOf cB cI cJ) → va_S A s.heap H locs → lv_has ls 2 [(0, .int x0), (1, .int x1)] → W p l e rm_X10_winnerOf s m args below meth c H locs 0 0 Q (F0 m 2 ls [])) (by intro x0 x1 hf; exact wk_no hf) (by
    intro k2 ih2
    intro x0 x1 hf H locs ls hP hD hS hl
    have hf : B_X10_winnerOf_2 N k2 x0 x1 = some r := hf
    unfold B_X10_winnerOf_2 at hf
    refine lv_iload_n hx hb dX10_winnerOf_2 rfl (lv_at hl 1 rfl) ?_
    refine lv_iconst (v := (4 : Int32)) hx hb dX10_winnerOf_3 (by decide) ?_
    refine lv_icmp_ge (tgt := 23) hx hb dX10_winnerOf_4 (by decide) (fun c1 => ?_) (fun c1 => ?_)
    · have hf := wk_itT hf c1
      refine lv_bipush (v := (-4 : Int32)) hx hb dX10_winnerOf_23 (by decide) ?_
      exact hret _ _ _ _ _ _ dX10_winnerOf_25 (wk_rt hf (fun z => z)) rfl hP hD hS
    · have hf := wk_itF hf c1
      refine lv_iload_n hx hb dX10_winnerOf_7 rfl (lv_at hl 1 rfl) ?_
      refine lv_iload_n hx hb dX10_winnerOf_8 rfl (lv_at hl 0 rfl) ?_
      obtain ⟨r2, hc2, hf⟩ := wk_b1E hf
      refine wk_callSi2 C hP hD hS (c_X10_leadOf l D cB cI cJ N x1 x0 hc2) (va_cwS 2 hts gX10_winnerOf_X10_leadOf rfl rfl rfl hd_X10_leadOf.2 ⟨Nat.le_of_ble_eq_true rfl, Nat.le_of_ble_eq_true rfl⟩) hl.1 ⟨Nat.zero_le _, Nat.zero_le _⟩ [] [] 0 (by decide +kernel) rfl (Wn := w_X10_winnerOf cB cI cJ) rfl rfl rfl rfl rfl rfl rfl rfl (Nat.le_of_ble_eq_true rfl) dX10_winnerOf_9 (fun H locs hP hD hS => ?_)
      refine lv_if_le (tgt := 17) hx hb dX10_winnerOf_12 (by decide) (fun c3 => ?_) (fun c3 => ?_)
      · have hf := wk_itT hf c3
        obtain ⟨y4, ey4⟩ : ∃ y : Int32, y = x1 + (1 : Int32) := ⟨_, rfl⟩
        have hf := wk_nmE hf ey4
        refine lv_iinc (v := y4) (lv' := [(1, .int y4), (0, .int x0)]) hx hb dX10_winnerOf_17 hl (k := 1) rfl (by rw [ey4]; rfl) (by decide) rfl (fun ls hl => ?_)
        refine lv_goto (tgt := 2) hx hb dX10_winnerOf_20 (by decide) ?_
        exact ih2 _ _ hf _ _ _ hP hD hS (lv_sub hl [1, 0] rfl)
      · have hf := wk_itF hf c3
        refine lv_iload_n hx hb dX10_winnerOf_15 rfl (lv_at hl 1 rfl) ?_
        exact hret _ _ _ _ _ _ dX10_winnerOf_16 (wk_rt hf (fun z => z)) rfl hP hD hS)
  unfold f_X10_winnerOf at hf
  refine lv_iconst (v := (0 : Int32)) hx hb dX10_winnerOf_0 (by decide) ?_
  refine lv_istore_n (lv' := [(1, .int (0 : Int32)), (0, .int x0)]) hx hb dX10_winnerOf_1 rfl hl (by decide) rfl (fun ls hl => ?_)
  exact L2 N _ _ hf _ _ _ hP hD hS (lv_sub hl [1, 0] rfl)
abbrev w_X10_hasBit (cB cI cJ : ClassId) : va_W := []
theorem hd_X10_hasBit : yX10_hasBit.cls = RX10 ∧ yX10_hasBit.cls ≠ "java/lang/invoke/MethodHandle" ∧ yX10_hasBit.cls ≠ "java/lang/invoke/VarHandle" ∧ (parseMethodDescriptor yX10_hasBit.desc).map (fun d => d.parameters.length) = some 2 := by decide +kernel
abbrev rm_X10_hasBit : Room := { frames := 0, cells := 0, slots := 0, locals := 0 }
set_option maxHeartbeats 4000000 in
set_option maxRecDepth 100000 in
theorem c_X10_hasBit (l : Launch) (D : va_G) (cB cI cJ : ClassId) (N : Nat) (x0 : Int32) (x1 : Int32) {r : Bool} (hf : f_X10_hasBit N x0 x1 = some r) : MTi l yX10_hasBit wsX10_hasBit rm_X10_hasBit D (wk_T cB cI cJ) [.int x0, .int x1] (w_X10_hasBit cB cI cJ) (w_X10_hasBit cB cI cJ) (wk_bI r) := by
  refine MTi.of (cc := cX10_hasBit) (nL := 2) (rt := .boolean) (own := RX10) pn_X10 rfl rfl (Nat.le_of_ble_eq_true rfl) (wk_nz r) ?_
  intro p e s m args below meth c A ls Q C hP hD hS hl hret
  obtain ⟨hx, hb, hml, hts, hown, hK, hN, hA, hlk⟩ := id C
  have hl : lv_has ls 2 [(0, .int x0), (1, .int x1)] := hl
  unfold f_X10_hasBit at hf
  refine lv_iload_n hx hb dX10_hasBit_0 rfl (lv_at hl 0 rfl) ?_
  refine lv_iload_n hx hb dX10_hasBit_1 rfl (lv_at hl 1 rfl) ?_
  refine lv_ishr hx hb dX10_hasBit_2 ?_
  refine lv_iconst (v := (1 : Int32)) hx hb dX10_hasBit_3 (by decide) ?_
  refine lv_iand hx hb dX10_hasBit_4 ?_
  refine lv_if_eq (tgt := 12) hx hb dX10_hasBit_5 (by decide) (fun c1 => ?_) (fun c1 => ?_)
  · have hf := wk_itT hf c1
    refine lv_iconst (v := (0 : Int32)) hx hb dX10_hasBit_12 (by decide) ?_
    exact hret _ _ _ _ _ _ dX10_hasBit_13 (wk_rt hf (fun z => wk_bI z)) rfl hP hD hS
  · have hf := wk_itF hf c1
    refine lv_iconst (v := (1 : Int32)) hx hb dX10_hasBit_8 (by decide) ?_
    refine lv_goto (tgt := 13) hx hb dX10_hasBit_9 (by decide) ?_
    exact hret _ _ _ _ _ _ dX10_hasBit_13 (wk_rt hf (fun z => wk_bI z)) rfl hP hD hS
abbrev w_X10_isCounty (cB cI cJ : ClassId) : va_W := []
theorem hd_X10_isCounty : yX10_isCounty.cls = RX10 ∧ yX10_isCounty.cls ≠ "java/lang/invoke/MethodHandle" ∧ yX10_isCounty.cls ≠ "java/lang/invoke/VarHandle" ∧ (parseMethodDescriptor yX10_isCounty.desc).map (fun d => d.parameters.length) = some 1 := by decide +kernel
abbrev rm_X10_isCounty : Room := { frames := 0, cells := 0, slots := 0, locals := 0 }
set_option maxHeartbeats 4000000 in
set_option maxRecDepth 100000 in
theorem c_X10_isCounty (l : Launch) (D : va_G) (cB cI cJ : ClassId) (N : Nat) (x0 : Int32) {r : Bool} (hf : f_X10_isCounty N x0 = some r) : MTi l yX10_isCounty wsX10_isCounty rm_X10_isCounty D (wk_T cB cI cJ) [.int x0] (w_X10_isCounty cB cI cJ) (w_X10_isCounty cB cI cJ) (wk_bI r) := by
  refine MTi.of (cc := cX10_isCounty) (nL := 1) (rt := .boolean) (own := RX10) pn_X10 rfl rfl (Nat.le_of_ble_eq_true rfl) (wk_nz r) ?_
  intro p e s m args below meth c A ls Q C hP hD hS hl hret
  obtain ⟨hx, hb, hml, hts, hown, hK, hN, hA, hlk⟩ := id C
  have hl : lv_has ls 1 [(0, .int x0)] := hl
  unfold f_X10_isCounty at hf
  refine lv_iload_n hx hb dX10_isCounty_0 rfl (lv_at hl 0 rfl) ?_
  refine lv_if_lt (tgt := 13) hx hb dX10_isCounty_1 (by decide) (fun c1 => ?_) (fun c1 => ?_)
  · have hf := wk_itT hf c1
    refine lv_iconst (v := (0 : Int32)) hx hb dX10_isCounty_13 (by decide) ?_
    exact hret _ _ _ _ _ _ dX10_isCounty_14 (wk_rt hf (fun z => wk_bI z)) rfl hP hD hS
  · have hf := wk_itF hf c1
    refine lv_iload_n hx hb dX10_isCounty_4 rfl (lv_at hl 0 rfl) ?_
    refine lv_iconst (v := (5 : Int32)) hx hb dX10_isCounty_5 (by decide) ?_
    refine lv_icmp_ge (tgt := 13) hx hb dX10_isCounty_6 (by decide) (fun c2 => ?_) (fun c2 => ?_)
    · have hf := wk_itT hf c2
      refine lv_iconst (v := (0 : Int32)) hx hb dX10_isCounty_13 (by decide) ?_
      exact hret _ _ _ _ _ _ dX10_isCounty_14 (wk_rt hf (fun z => wk_bI z)) rfl hP hD hS
    · have hf := wk_itF hf c2
      refine lv_iconst (v := (1 : Int32)) hx hb dX10_isCounty_9 (by decide) ?_
      refine lv_goto (tgt := 14) hx hb dX10_isCounty_10 (by decide) ?_
      exact hret _ _ _ _ _ _ dX10_isCounty_14 (wk_rt hf (fun z => wk_bI z)) rfl hP hD hS
abbrev w_X10_isCountyOrAll (cB cI cJ : ClassId) : va_W := []
theorem hd_X10_isCountyOrAll : yX10_isCountyOrAll.cls = RX10 ∧ yX10_isCountyOrAll.cls ≠ "java/lang/invoke/MethodHandle" ∧ yX10_isCountyOrAll.cls ≠ "java/lang/invoke/VarHandle" ∧ (parseMethodDescriptor yX10_isCountyOrAll.desc).map (fun d => d.parameters.length) = some 1 := by decide +kernel
abbrev rm_X10_isCountyOrAll : Room := { frames := 1, cells := 0, slots := 0, locals := 20 }
set_option maxHeartbeats 4000000 in
set_option maxRecDepth 100000 in
theorem c_X10_isCountyOrAll (l : Launch) (D : va_G) (cB cI cJ : ClassId) (N : Nat) (x0 : Int32) {r : Bool} (hf : f_X10_isCountyOrAll N x0 = some r) : MTi l yX10_isCountyOrAll wsX10_isCountyOrAll rm_X10_isCountyOrAll D (wk_T cB cI cJ) [.int x0] (w_X10_isCountyOrAll cB cI cJ) (w_X10_isCountyOrAll cB cI cJ) (wk_bI r) := by
  refine MTi.of (cc := cX10_isCountyOrAll) (nL := 1) (rt := .boolean) (own := RX10) pn_X10 rfl rfl (Nat.le_of_ble_eq_true rfl) (wk_nz r) ?_
  intro p e s m args below meth c A ls Q C hP hD hS hl hret
  obtain ⟨hx, hb, hml, hts, hown, hK, hN, hA, hlk⟩ := id C
  have hl : lv_has ls 1 [(0, .int x0)] := hl
  unfold f_X10_isCountyOrAll at hf
  refine lv_iload_n hx hb dX10_isCountyOrAll_0 rfl (lv_at hl 0 rfl) ?_
  refine lv_iconst (v := (5 : Int32)) hx hb dX10_isCountyOrAll_1 (by decide) ?_
  refine lv_icmp_eq (tgt := 12) hx hb dX10_isCountyOrAll_2 (by decide) (fun c1 => ?_) (fun c1 => ?_)
  · have hf := wk_itT hf c1
    refine lv_iconst (v := (1 : Int32)) hx hb dX10_isCountyOrAll_12 (by decide) ?_
    refine lv_goto (tgt := 17) hx hb dX10_isCountyOrAll_13 (by decide) ?_
    exact hret _ _ _ _ _ _ dX10_isCountyOrAll_17 (wk_rt hf (fun z => wk_bI z)) rfl hP hD hS
  · have hf := wk_itF hf c1
    refine lv_iload_n hx hb dX10_isCountyOrAll_5 rfl (lv_at hl 0 rfl) ?_
    obtain ⟨r2, hc2, hf⟩ := wk_b1E hf
    refine wk_callSi2 C hP hD hS (c_X10_isCounty l D cB cI cJ N x0 hc2) (va_cwS 1 hts gX10_isCountyOrAll_X10_isCounty rfl rfl rfl hd_X10_isCounty.2 ⟨Nat.le_of_ble_eq_true rfl, Nat.le_of_ble_eq_true rfl⟩) hl.1 ⟨Nat.zero_le _, Nat.zero_le _⟩ [] [] 0 (by decide +kernel) rfl (Wn := w_X10_isCountyOrAll cB cI cJ) rfl rfl rfl rfl rfl rfl rfl rfl (Nat.le_of_ble_eq_true rfl) dX10_isCountyOrAll_6 (fun H locs hP hD hS => ?_)
    refine lv_if_eq (tgt := 16) hx hb dX10_isCountyOrAll_9 (by decide) (fun c3 => ?_) (fun c3 => ?_)
    · have hf := wk_itT hf c3
      refine lv_iconst (v := (0 : Int32)) hx hb dX10_isCountyOrAll_16 (by decide) ?_
      exact hret _ _ _ _ _ _ dX10_isCountyOrAll_17 (wk_rt hf (fun z => wk_bI z)) rfl hP hD hS
    · have hf := wk_itF hf c3
      refine lv_iconst (v := (1 : Int32)) hx hb dX10_isCountyOrAll_12 (by decide) ?_
      refine lv_goto (tgt := 17) hx hb dX10_isCountyOrAll_13 (by decide) ?_
      exact hret _ _ _ _ _ _ dX10_isCountyOrAll_17 (wk_rt hf (fun z => wk_bI z)) rfl hP hD hS
abbrev w_X10_isHour (cB cI cJ : ClassId) : va_W := []
theorem hd_X10_isHour : yX10_isHour.cls = RX10 ∧ yX10_isHour.cls ≠ "java/lang/invoke/MethodHandle" ∧ yX10_isHour.cls ≠ "java/lang/invoke/VarHandle" ∧ (parseMethodDescriptor yX10_isHour.desc).map (fun d => d.parameters.length) = some 1 := by decide +kernel
abbrev rm_X10_isHour : Room := { frames := 0, cells := 0, slots := 0, locals := 0 }
set_option maxHeartbeats 4000000 in
set_option maxRecDepth 100000 in
theorem c_X10_isHour (l : Launch) (D : va_G) (cB cI cJ : ClassId) (N : Nat) (x0 : Int32) {r : Bool} (hf : f_X10_isHour N x0 = some r) : MTi l yX10_isHour wsX10_isHour rm_X10_isHour D (wk_T cB cI cJ) [.int x0] (w_X10_isHour cB cI cJ) (w_X10_isHour cB cI cJ) (wk_bI r) := by
  refine MTi.of (cc := cX10_isHour) (nL := 1) (rt := .boolean) (own := RX10) pn_X10 rfl rfl (Nat.le_of_ble_eq_true rfl) (wk_nz r) ?_
  intro p e s m args below meth c A ls Q C hP hD hS hl hret
  obtain ⟨hx, hb, hml, hts, hown, hK, hN, hA, hlk⟩ := id C
  have hl : lv_has ls 1 [(0, .int x0)] := hl
  unfold f_X10_isHour at hf
  refine lv_iload_n hx hb dX10_isHour_0 rfl (lv_at hl 0 rfl) ?_
  refine lv_if_lt (tgt := 15) hx hb dX10_isHour_1 (by decide) (fun c1 => ?_) (fun c1 => ?_)
  · have hf := wk_itT hf c1
    refine lv_iconst (v := (0 : Int32)) hx hb dX10_isHour_15 (by decide) ?_
    exact hret _ _ _ _ _ _ dX10_isHour_16 (wk_rt hf (fun z => wk_bI z)) rfl hP hD hS
  · have hf := wk_itF hf c1
    refine lv_iload_n hx hb dX10_isHour_4 rfl (lv_at hl 0 rfl) ?_
    refine lv_sipush (v := (1000 : Int32)) hx hb dX10_isHour_5 (by decide) ?_
    refine lv_icmp_ge (tgt := 15) hx hb dX10_isHour_8 (by decide) (fun c2 => ?_) (fun c2 => ?_)
    · have hf := wk_itT hf c2
      refine lv_iconst (v := (0 : Int32)) hx hb dX10_isHour_15 (by decide) ?_
      exact hret _ _ _ _ _ _ dX10_isHour_16 (wk_rt hf (fun z => wk_bI z)) rfl hP hD hS
    · have hf := wk_itF hf c2
      refine lv_iconst (v := (1 : Int32)) hx hb dX10_isHour_11 (by decide) ?_
      refine lv_goto (tgt := 16) hx hb dX10_isHour_12 (by decide) ?_
      exact hret _ _ _ _ _ _ dX10_isHour_16 (wk_rt hf (fun z => wk_bI z)) rfl hP hD hS
abbrev w_X10_letterAt (cB cI cJ : ClassId) : va_W := []
theorem hd_X10_letterAt : yX10_letterAt.cls = RX10 ∧ yX10_letterAt.cls ≠ "java/lang/invoke/MethodHandle" ∧ yX10_letterAt.cls ≠ "java/lang/invoke/VarHandle" ∧ (parseMethodDescriptor yX10_letterAt.desc).map (fun d => d.parameters.length) = some 2 := by decide +kernel
abbrev rm_X10_letterAt : Room := { frames := 0, cells := 0, slots := 0, locals := 0 }
set_option maxHeartbeats 4000000 in
set_option maxRecDepth 100000 in
theorem c_X10_letterAt (l : Launch) (D : va_G) (cB cI cJ : ClassId) (N : Nat) (x0 : Int64) (x2 : Int32) {r : Int32} (hf : f_X10_letterAt N x0 x2 = some r) : MTi l yX10_letterAt wsX10_letterAt rm_X10_letterAt D (wk_T cB cI cJ) [.long x0, .int x2] (w_X10_letterAt cB cI cJ) (w_X10_letterAt cB cI cJ) r := by
  refine MTi.of (cc := cX10_letterAt) (nL := 3) (rt := .int) (own := RX10) pn_X10 rfl rfl (Nat.le_of_ble_eq_true rfl) rfl ?_
  intro p e s m args below meth c A ls Q C hP hD hS hl hret
  obtain ⟨hx, hb, hml, hts, hown, hK, hN, hA, hlk⟩ := id C
  have hl : lv_has ls 3 [(0, .long x0), (2, .int x2)] := hl
  unfold f_X10_letterAt at hf
  refine lv_lload_n hx hb dX10_letterAt_0 rfl (lv_at hl 0 rfl) ?_
  refine lv_bipush (v := (8 : Int32)) hx hb dX10_letterAt_1 (by decide) ?_
  refine lv_bipush (v := (7 : Int32)) hx hb dX10_letterAt_3 (by decide) ?_
  refine lv_iload_n hx hb dX10_letterAt_5 rfl (lv_at hl 1 rfl) ?_
  refine lv_isub hx hb dX10_letterAt_6 ?_
  refine lv_imul hx hb dX10_letterAt_7 ?_
  refine lv_lushr (v := ((x0.toUInt64 >>> (((8 : Int32) * ((7 : Int32) - x2)).toInt64.toUInt64 &&& Int64.toUInt64 63)).toInt64)) hx hb dX10_letterAt_8 rfl ?_
  refine lv_l2i (v := (((x0.toUInt64 >>> (((8 : Int32) * ((7 : Int32) - x2)).toInt64.toUInt64 &&& Int64.toUInt64 63)).toInt64).toInt32)) hx hb dX10_letterAt_9 rfl ?_
  refine lv_sipush (v := (255 : Int32)) hx hb dX10_letterAt_10 (by decide) ?_
  refine lv_iand hx hb dX10_letterAt_13 ?_
  exact hret _ _ _ _ _ _ dX10_letterAt_14 (wk_rt hf (fun z => z)) rfl hP hD hS
abbrev w_X10_isRace (cB cI cJ : ClassId) : va_W := []
theorem hd_X10_isRace : yX10_isRace.cls = RX10 ∧ yX10_isRace.cls ≠ "java/lang/invoke/MethodHandle" ∧ yX10_isRace.cls ≠ "java/lang/invoke/VarHandle" ∧ (parseMethodDescriptor yX10_isRace.desc).map (fun d => d.parameters.length) = some 1 := by decide +kernel
abbrev rm_X10_isRace : Room := { frames := 0, cells := 0, slots := 0, locals := 0 }
set_option maxHeartbeats 4000000 in
set_option maxRecDepth 100000 in
theorem c_X10_isRace (l : Launch) (D : va_G) (cB cI cJ : ClassId) (N : Nat) (x0 : Int32) {r : Bool} (hf : f_X10_isRace N x0 = some r) : MTi l yX10_isRace wsX10_isRace rm_X10_isRace D (wk_T cB cI cJ) [.int x0] (w_X10_isRace cB cI cJ) (w_X10_isRace cB cI cJ) (wk_bI r) := by
  refine MTi.of (cc := cX10_isRace) (nL := 1) (rt := .boolean) (own := RX10) pn_X10 rfl rfl (Nat.le_of_ble_eq_true rfl) (wk_nz r) ?_
  intro p e s m args below meth c A ls Q C hP hD hS hl hret
  obtain ⟨hx, hb, hml, hts, hown, hK, hN, hA, hlk⟩ := id C
  have hl : lv_has ls 1 [(0, .int x0)] := hl
  unfold f_X10_isRace at hf
  refine lv_iload_n hx hb dX10_isRace_0 rfl (lv_at hl 0 rfl) ?_
  refine lv_if_lt (tgt := 13) hx hb dX10_isRace_1 (by decide) (fun c1 => ?_) (fun c1 => ?_)
  · have hf := wk_itT hf c1
    refine lv_iconst (v := (0 : Int32)) hx hb dX10_isRace_13 (by decide) ?_
    exact hret _ _ _ _ _ _ dX10_isRace_14 (wk_rt hf (fun z => wk_bI z)) rfl hP hD hS
  · have hf := wk_itF hf c1
    refine lv_iload_n hx hb dX10_isRace_4 rfl (lv_at hl 0 rfl) ?_
    refine lv_iconst (v := (3 : Int32)) hx hb dX10_isRace_5 (by decide) ?_
    refine lv_icmp_ge (tgt := 13) hx hb dX10_isRace_6 (by decide) (fun c2 => ?_) (fun c2 => ?_)
    · have hf := wk_itT hf c2
      refine lv_iconst (v := (0 : Int32)) hx hb dX10_isRace_13 (by decide) ?_
      exact hret _ _ _ _ _ _ dX10_isRace_14 (wk_rt hf (fun z => wk_bI z)) rfl hP hD hS
    · have hf := wk_itF hf c2
      refine lv_iconst (v := (1 : Int32)) hx hb dX10_isRace_9 (by decide) ?_
      refine lv_goto (tgt := 14) hx hb dX10_isRace_10 (by decide) ?_
      exact hret _ _ _ _ _ _ dX10_isRace_14 (wk_rt hf (fun z => wk_bI z)) rfl hP hD hS
abbrev w_X10_isHole (cB cI cJ : ClassId) : va_W := []
theorem hd_X10_isHole : yX10_isHole.cls = RX10 ∧ yX10_isHole.cls ≠ "java/lang/invoke/MethodHandle" ∧ yX10_isHole.cls ≠ "java/lang/invoke/VarHandle" ∧ (parseMethodDescriptor yX10_isHole.desc).map (fun d => d.parameters.length) = some 1 := by decide +kernel
abbrev rm_X10_isHole : Room := { frames := 0, cells := 0, slots := 0, locals := 0 }
set_option maxHeartbeats 4000000 in
set_option maxRecDepth 100000 in
theorem c_X10_isHole (l : Launch) (D : va_G) (cB cI cJ : ClassId) (N : Nat) (x0 : Int32) {r : Bool} (hf : f_X10_isHole N x0 = some r) : MTi l yX10_isHole wsX10_isHole rm_X10_isHole D (wk_T cB cI cJ) [.int x0] (w_X10_isHole cB cI cJ) (w_X10_isHole cB cI cJ) (wk_bI r) := by
  refine MTi.of (cc := cX10_isHole) (nL := 1) (rt := .boolean) (own := RX10) pn_X10 rfl rfl (Nat.le_of_ble_eq_true rfl) (wk_nz r) ?_
  intro p e s m args below meth c A ls Q C hP hD hS hl hret
  obtain ⟨hx, hb, hml, hts, hown, hK, hN, hA, hlk⟩ := id C
  have hl : lv_has ls 1 [(0, .int x0)] := hl
  unfold f_X10_isHole at hf
  refine lv_iload_n hx hb dX10_isHole_0 rfl (lv_at hl 0 rfl) ?_
  refine lv_if_lt (tgt := 13) hx hb dX10_isHole_1 (by decide) (fun c1 => ?_) (fun c1 => ?_)
  · have hf := wk_itT hf c1
    refine lv_iconst (v := (0 : Int32)) hx hb dX10_isHole_13 (by decide) ?_
    exact hret _ _ _ _ _ _ dX10_isHole_14 (wk_rt hf (fun z => wk_bI z)) rfl hP hD hS
  · have hf := wk_itF hf c1
    refine lv_iload_n hx hb dX10_isHole_4 rfl (lv_at hl 0 rfl) ?_
    refine lv_iconst (v := (4 : Int32)) hx hb dX10_isHole_5 (by decide) ?_
    refine lv_icmp_ge (tgt := 13) hx hb dX10_isHole_6 (by decide) (fun c2 => ?_) (fun c2 => ?_)
    · have hf := wk_itT hf c2
      refine lv_iconst (v := (0 : Int32)) hx hb dX10_isHole_13 (by decide) ?_
      exact hret _ _ _ _ _ _ dX10_isHole_14 (wk_rt hf (fun z => wk_bI z)) rfl hP hD hS
    · have hf := wk_itF hf c2
      refine lv_iconst (v := (1 : Int32)) hx hb dX10_isHole_9 (by decide) ?_
      refine lv_goto (tgt := 14) hx hb dX10_isHole_10 (by decide) ?_
      exact hret _ _ _ _ _ _ dX10_isHole_14 (wk_rt hf (fun z => wk_bI z)) rfl hP hD hS
abbrev w_X10_isWhat (cB cI cJ : ClassId) : va_W := []
theorem hd_X10_isWhat : yX10_isWhat.cls = RX10 ∧ yX10_isWhat.cls ≠ "java/lang/invoke/MethodHandle" ∧ yX10_isWhat.cls ≠ "java/lang/invoke/VarHandle" ∧ (parseMethodDescriptor yX10_isWhat.desc).map (fun d => d.parameters.length) = some 2 := by decide +kernel
abbrev rm_X10_isWhat : Room := { frames := 0, cells := 0, slots := 0, locals := 0 }
set_option maxHeartbeats 4000000 in
set_option maxRecDepth 100000 in
theorem c_X10_isWhat (l : Launch) (D : va_G) (cB cI cJ : ClassId) (N : Nat) (x0 : Int32) (x1 : Int32) {r : Bool} (hf : f_X10_isWhat N x0 x1 = some r) : MTi l yX10_isWhat wsX10_isWhat rm_X10_isWhat D (wk_T cB cI cJ) [.int x0, .int x1] (w_X10_isWhat cB cI cJ) (w_X10_isWhat cB cI cJ) (wk_bI r) := by
  refine MTi.of (cc := cX10_isWhat) (nL := 2) (rt := .boolean) (own := RX10) pn_X10 rfl rfl (Nat.le_of_ble_eq_true rfl) (wk_nz r) ?_
  intro p e s m args below meth c A ls Q C hP hD hS hl hret
  obtain ⟨hx, hb, hml, hts, hown, hK, hN, hA, hlk⟩ := id C
  have hl : lv_has ls 2 [(0, .int x0), (1, .int x1)] := hl
  unfold f_X10_isWhat at hf
  refine lv_iload_n hx hb dX10_isWhat_0 rfl (lv_at hl 0 rfl) ?_
  refine lv_if_lt (tgt := 13) hx hb dX10_isWhat_1 (by decide) (fun c1 => ?_) (fun c1 => ?_)
  · have hf := wk_itT hf c1
    refine lv_iconst (v := (0 : Int32)) hx hb dX10_isWhat_13 (by decide) ?_
    exact hret _ _ _ _ _ _ dX10_isWhat_14 (wk_rt hf (fun z => wk_bI z)) rfl hP hD hS
  · have hf := wk_itF hf c1
    refine lv_iload_n hx hb dX10_isWhat_4 rfl (lv_at hl 0 rfl) ?_
    refine lv_iload_n hx hb dX10_isWhat_5 rfl (lv_at hl 1 rfl) ?_
    refine lv_icmp_ge (tgt := 13) hx hb dX10_isWhat_6 (by decide) (fun c2 => ?_) (fun c2 => ?_)
    · have hf := wk_itT hf c2
      refine lv_iconst (v := (0 : Int32)) hx hb dX10_isWhat_13 (by decide) ?_
      exact hret _ _ _ _ _ _ dX10_isWhat_14 (wk_rt hf (fun z => wk_bI z)) rfl hP hD hS
    · have hf := wk_itF hf c2
      refine lv_iconst (v := (1 : Int32)) hx hb dX10_isWhat_9 (by decide) ?_
      refine lv_goto (tgt := 14) hx hb dX10_isWhat_10 (by decide) ?_
      exact hret _ _ _ _ _ _ dX10_isWhat_14 (wk_rt hf (fun z => wk_bI z)) rfl hP hD hS
abbrev w_X10_isRule (cB cI cJ : ClassId) : va_W := []
theorem hd_X10_isRule : yX10_isRule.cls = RX10 ∧ yX10_isRule.cls ≠ "java/lang/invoke/MethodHandle" ∧ yX10_isRule.cls ≠ "java/lang/invoke/VarHandle" ∧ (parseMethodDescriptor yX10_isRule.desc).map (fun d => d.parameters.length) = some 1 := by decide +kernel
abbrev rm_X10_isRule : Room := { frames := 0, cells := 0, slots := 0, locals := 0 }
set_option maxHeartbeats 4000000 in
set_option maxRecDepth 100000 in
theorem c_X10_isRule (l : Launch) (D : va_G) (cB cI cJ : ClassId) (N : Nat) (x0 : Int32) {r : Bool} (hf : f_X10_isRule N x0 = some r) : MTi l yX10_isRule wsX10_isRule rm_X10_isRule D (wk_T cB cI cJ) [.int x0] (w_X10_isRule cB cI cJ) (w_X10_isRule cB cI cJ) (wk_bI r) := by
  refine MTi.of (cc := cX10_isRule) (nL := 1) (rt := .boolean) (own := RX10) pn_X10 rfl rfl (Nat.le_of_ble_eq_true rfl) (wk_nz r) ?_
  intro p e s m args below meth c A ls Q C hP hD hS hl hret
  obtain ⟨hx, hb, hml, hts, hown, hK, hN, hA, hlk⟩ := id C
  have hl : lv_has ls 1 [(0, .int x0)] := hl
  unfold f_X10_isRule at hf
  refine lv_iload_n hx hb dX10_isRule_0 rfl (lv_at hl 0 rfl) ?_
  refine lv_iconst (v := (1 : Int32)) hx hb dX10_isRule_1 (by decide) ?_
  refine lv_icmp_lt (tgt := 14) hx hb dX10_isRule_2 (by decide) (fun c1 => ?_) (fun c1 => ?_)
  · have hf := wk_itT hf c1
    refine lv_iconst (v := (0 : Int32)) hx hb dX10_isRule_14 (by decide) ?_
    exact hret _ _ _ _ _ _ dX10_isRule_15 (wk_rt hf (fun z => wk_bI z)) rfl hP hD hS
  · have hf := wk_itF hf c1
    refine lv_iload_n hx hb dX10_isRule_5 rfl (lv_at hl 0 rfl) ?_
    refine lv_iconst (v := (5 : Int32)) hx hb dX10_isRule_6 (by decide) ?_
    refine lv_icmp_gt (tgt := 14) hx hb dX10_isRule_7 (by decide) (fun c2 => ?_) (fun c2 => ?_)
    · have hf := wk_itT hf c2
      refine lv_iconst (v := (0 : Int32)) hx hb dX10_isRule_14 (by decide) ?_
      exact hret _ _ _ _ _ _ dX10_isRule_15 (wk_rt hf (fun z => wk_bI z)) rfl hP hD hS
    · have hf := wk_itF hf c2
      refine lv_iconst (v := (1 : Int32)) hx hb dX10_isRule_10 (by decide) ?_
      refine lv_goto (tgt := 15) hx hb dX10_isRule_11 (by decide) ?_
      exact hret _ _ _ _ _ _ dX10_isRule_15 (wk_rt hf (fun z => wk_bI z)) rfl hP hD hS
abbrev w_X10_isRuleSet (cB cI cJ : ClassId) : va_W := []
theorem hd_X10_isRuleSet : yX10_isRuleSet.cls = RX10 ∧ yX10_isRuleSet.cls ≠ "java/lang/invoke/MethodHandle" ∧ yX10_isRuleSet.cls ≠ "java/lang/invoke/VarHandle" ∧ (parseMethodDescriptor yX10_isRuleSet.desc).map (fun d => d.parameters.length) = some 1 := by decide +kernel
abbrev rm_X10_isRuleSet : Room := { frames := 0, cells := 0, slots := 0, locals := 0 }
set_option maxHeartbeats 4000000 in
set_option maxRecDepth 100000 in
theorem c_X10_isRuleSet (l : Launch) (D : va_G) (cB cI cJ : ClassId) (N : Nat) (x0 : Int32) {r : Bool} (hf : f_X10_isRuleSet N x0 = some r) : MTi l yX10_isRuleSet wsX10_isRuleSet rm_X10_isRuleSet D (wk_T cB cI cJ) [.int x0] (w_X10_isRuleSet cB cI cJ) (w_X10_isRuleSet cB cI cJ) (wk_bI r) := by
  refine MTi.of (cc := cX10_isRuleSet) (nL := 1) (rt := .boolean) (own := RX10) pn_X10 rfl rfl (Nat.le_of_ble_eq_true rfl) (wk_nz r) ?_
  intro p e s m args below meth c A ls Q C hP hD hS hl hret
  obtain ⟨hx, hb, hml, hts, hown, hK, hN, hA, hlk⟩ := id C
  have hl : lv_has ls 1 [(0, .int x0)] := hl
  unfold f_X10_isRuleSet at hf
  refine lv_iload_n hx hb dX10_isRuleSet_0 rfl (lv_at hl 0 rfl) ?_
  refine lv_iconst (v := (1 : Int32)) hx hb dX10_isRuleSet_1 (by decide) ?_
  refine lv_icmp_lt (tgt := 15) hx hb dX10_isRuleSet_2 (by decide) (fun c1 => ?_) (fun c1 => ?_)
  · have hf := wk_itT hf c1
    refine lv_iconst (v := (0 : Int32)) hx hb dX10_isRuleSet_15 (by decide) ?_
    exact hret _ _ _ _ _ _ dX10_isRuleSet_16 (wk_rt hf (fun z => wk_bI z)) rfl hP hD hS
  · have hf := wk_itF hf c1
    refine lv_iload_n hx hb dX10_isRuleSet_5 rfl (lv_at hl 0 rfl) ?_
    refine lv_bipush (v := (32 : Int32)) hx hb dX10_isRuleSet_6 (by decide) ?_
    refine lv_icmp_ge (tgt := 15) hx hb dX10_isRuleSet_8 (by decide) (fun c2 => ?_) (fun c2 => ?_)
    · have hf := wk_itT hf c2
      refine lv_iconst (v := (0 : Int32)) hx hb dX10_isRuleSet_15 (by decide) ?_
      exact hret _ _ _ _ _ _ dX10_isRuleSet_16 (wk_rt hf (fun z => wk_bI z)) rfl hP hD hS
    · have hf := wk_itF hf c2
      refine lv_iconst (v := (1 : Int32)) hx hb dX10_isRuleSet_11 (by decide) ?_
      refine lv_goto (tgt := 16) hx hb dX10_isRuleSet_12 (by decide) ?_
      exact hret _ _ _ _ _ _ dX10_isRuleSet_16 (wk_rt hf (fun z => wk_bI z)) rfl hP hD hS
abbrev w_X10_isName (cB cI cJ : ClassId) : va_W := []
theorem hd_X10_isName : yX10_isName.cls = RX10 ∧ yX10_isName.cls ≠ "java/lang/invoke/MethodHandle" ∧ yX10_isName.cls ≠ "java/lang/invoke/VarHandle" ∧ (parseMethodDescriptor yX10_isName.desc).map (fun d => d.parameters.length) = some 1 := by decide +kernel
abbrev rm_X10_isName : Room := { frames := 1, cells := 0, slots := 0, locals := 22 }
set_option maxHeartbeats 4000000 in
set_option maxRecDepth 100000 in
theorem c_X10_isName (l : Launch) (D : va_G) (cB cI cJ : ClassId) (N : Nat) (x0 : Int64) {r : Bool} (hf : f_X10_isName N x0 = some r) : MTi l yX10_isName wsX10_isName rm_X10_isName D (wk_T cB cI cJ) [.long x0] (w_X10_isName cB cI cJ) (w_X10_isName cB cI cJ) (wk_bI r) := by
  refine MTi.of (cc := cX10_isName) (nL := 5) (rt := .boolean) (own := RX10) pn_X10 rfl rfl (Nat.le_of_ble_eq_true rfl) (wk_nz r) ?_
  intro p e s m args below meth c A ls Q C hP hD hS hl hret
  obtain ⟨hx, hb, hml, hts, hown, hK, hN, hA, hlk⟩ := id C
  have hl : lv_has ls 5 [(0, .long x0)] := hl
  have L4 := wk_loopI (F := (fun k4 : Int64 → Int32 → Int32 → Option Bool => B_X10_isName_4 N k4)) (bot := fun _ _ _ => none) (fun k4 : Int64 → Int32 → Int32 → Option Bool => ∀ (x0 : Int64) (x2 : Int32) (x3 : Int32), k4 x0 x2 x3 = some r → ∀ (H : Heap) (locs : List Loc) (ls : Array Slot), va_P D vwCl (w_X10_isName cB cI cJ) H → va_D A (w_X10_isName cB cI cJ) → va_S A s.heap H locs → lv_has ls 5 [(0, .long x0), (2, .int x2), (3, .int x3)] → W p l e rm_X10_isName s m args below meth c H locs 0 0 Q (F0 m 4 ls [])) (by intro x0 x2 x3 hf; exact wk_no hf) (by
    intro k4 ih4
    intro x0 x2 x3 hf H locs ls hP hD hS hl
    have hf : B_X10_isName_4 N k4 x0 x2 x3 = some r := hf
    unfold B_X10_isName_4 at hf
    refine lv_iload_n hx hb dX10_isName_4 rfl (lv_at hl 2 rfl) ?_
    refine lv_bipush (v := (8 : Int32)) hx hb dX10_isName_5 (by decide) ?_
    refine lv_icmp_ge (tgt := 53) hx hb dX10_isName_7 (by decide) (fun c1 => ?_) (fun c1 => ?_)
    · have hf := wk_itT hf c1
      refine lv_iconst (v := (1 : Int32)) hx hb dX10_isName_53 (by decide) ?_
      exact hret _ _ _ _ _ _ dX10_isName_54 (wk_rt hf (fun z => wk_bI z)) rfl hP hD hS
    · have hf := wk_itF hf c1
      refine lv_lload_n hx hb dX10_isName_10 rfl (lv_at hl 0 rfl) ?_
      refine lv_iload_n hx hb dX10_isName_11 rfl (lv_at hl 2 rfl) ?_
      obtain ⟨r2, hc2, hf⟩ := wk_b1E hf
      refine wk_callSi2 C hP hD hS (c_X10_letterAt l D cB cI cJ N x0 x3 hc2) (va_cwS 2 hts gX10_isName_X10_letterAt rfl rfl rfl hd_X10_letterAt.2 ⟨Nat.le_of_ble_eq_true rfl, Nat.le_of_ble_eq_true rfl⟩) hl.1 ⟨Nat.zero_le _, Nat.zero_le _⟩ [] [] 0 (by decide +kernel) rfl (Wn := w_X10_isName cB cI cJ) rfl rfl rfl rfl rfl rfl rfl rfl (Nat.le_of_ble_eq_true rfl) dX10_isName_12 (fun H locs hP hD hS => ?_)
      refine lv_istore (lv' := [(4, .int r2), (0, .long x0), (2, .int x2), (3, .int x3)]) hx hb dX10_isName_15 hl (by decide) rfl (fun ls hl => ?_)
      refine lv_iload hx hb dX10_isName_17 (lv_at hl 0 rfl) ?_
      refine lv_if_ne (tgt := 27) hx hb dX10_isName_19 (by decide) (fun c3 => ?_) (fun c3 => ?_)
      · have hf := wk_itF hf c3
        refine lv_iload_n hx hb dX10_isName_27 rfl (lv_at hl 2 rfl) ?_
        refine lv_if_ne (tgt := 45) hx hb dX10_isName_28 (by decide) (fun c4 => ?_) (fun c4 => ?_)
        · have hf := wk_itF hf c4
          refine lv_iconst (v := (0 : Int32)) hx hb dX10_isName_45 (by decide) ?_
          exact hret _ _ _ _ _ _ dX10_isName_46 (wk_rt hf (fun z => wk_bI z)) rfl hP hD hS
        · have hf := wk_itT hf c4
          refine lv_iload hx hb dX10_isName_31 (lv_at hl 0 rfl) ?_
          refine lv_bipush (v := (97 : Int32)) hx hb dX10_isName_33 (by decide) ?_
          refine lv_icmp_lt (tgt := 45) hx hb dX10_isName_35 (by decide) (fun c5 => ?_) (fun c5 => ?_)
          · have hf := wk_itT hf c5
            refine lv_iconst (v := (0 : Int32)) hx hb dX10_isName_45 (by decide) ?_
            exact hret _ _ _ _ _ _ dX10_isName_46 (wk_rt hf (fun z => wk_bI z)) rfl hP hD hS
          · have hf := wk_itF hf c5
            refine lv_iload hx hb dX10_isName_38 (lv_at hl 0 rfl) ?_
            refine lv_bipush (v := (122 : Int32)) hx hb dX10_isName_40 (by decide) ?_
            refine lv_icmp_le (tgt := 47) hx hb dX10_isName_42 (by decide) (fun c6 => ?_) (fun c6 => ?_)
            · have hf := wk_itT hf c6
              obtain ⟨y7, ey7⟩ : ∃ y : Int32, y = x3 + (1 : Int32) := ⟨_, rfl⟩
              have hf := wk_nmE hf ey7
              refine lv_iinc (v := y7) (lv' := [(3, .int y7), (4, .int r2), (0, .long x0), (2, .int x2)]) hx hb dX10_isName_47 hl (k := 3) rfl (by rw [ey7]; rfl) (by decide) rfl (fun ls hl => ?_)
              refine lv_goto (tgt := 4) hx hb dX10_isName_50 (by decide) ?_
              exact ih4 _ _ _ hf _ _ _ hP hD hS (lv_sub hl [2, 3, 0] rfl)
            · have hf := wk_itF hf c6
              refine lv_iconst (v := (0 : Int32)) hx hb dX10_isName_45 (by decide) ?_
              exact hret _ _ _ _ _ _ dX10_isName_46 (wk_rt hf (fun z => wk_bI z)) rfl hP hD hS
      · have hf := wk_itT hf c3
        refine lv_iconst (v := (1 : Int32)) hx hb dX10_isName_22 (by decide) ?_
        refine lv_istore_n (lv' := [(2, .int (1 : Int32)), (4, .int r2), (0, .long x0), (3, .int x3)]) hx hb dX10_isName_23 rfl hl (by decide) rfl (fun ls hl => ?_)
        refine lv_goto (tgt := 47) hx hb dX10_isName_24 (by decide) ?_
        obtain ⟨y8, ey8⟩ : ∃ y : Int32, y = x3 + (1 : Int32) := ⟨_, rfl⟩
        have hf := wk_nmE hf ey8
        refine lv_iinc (v := y8) (lv' := [(3, .int y8), (2, .int (1 : Int32)), (4, .int r2), (0, .long x0)]) hx hb dX10_isName_47 hl (k := 3) rfl (by rw [ey8]; rfl) (by decide) rfl (fun ls hl => ?_)
        refine lv_goto (tgt := 4) hx hb dX10_isName_50 (by decide) ?_
        exact ih4 _ _ _ hf _ _ _ hP hD hS (lv_sub hl [3, 1, 0] rfl))
  unfold f_X10_isName at hf
  refine lv_iconst (v := (0 : Int32)) hx hb dX10_isName_0 (by decide) ?_
  refine lv_istore_n (lv' := [(2, .int (0 : Int32)), (0, .long x0)]) hx hb dX10_isName_1 rfl hl (by decide) rfl (fun ls hl => ?_)
  refine lv_iconst (v := (0 : Int32)) hx hb dX10_isName_2 (by decide) ?_
  refine lv_istore_n (lv' := [(3, .int (0 : Int32)), (2, .int (0 : Int32)), (0, .long x0)]) hx hb dX10_isName_3 rfl hl (by decide) rfl (fun ls hl => ?_)
  exact L4 N _ _ _ hf _ _ _ hP hD hS (lv_sub hl [2, 1, 0] rfl)
abbrev w_X10_isDay (cB cI cJ : ClassId) : va_W := []
theorem hd_X10_isDay : yX10_isDay.cls = RX10 ∧ yX10_isDay.cls ≠ "java/lang/invoke/MethodHandle" ∧ yX10_isDay.cls ≠ "java/lang/invoke/VarHandle" ∧ (parseMethodDescriptor yX10_isDay.desc).map (fun d => d.parameters.length) = some 1 := by decide +kernel
abbrev rm_X10_isDay : Room := { frames := 0, cells := 0, slots := 0, locals := 0 }
set_option maxHeartbeats 4000000 in
set_option maxRecDepth 100000 in
theorem c_X10_isDay (l : Launch) (D : va_G) (cB cI cJ : ClassId) (N : Nat) (x0 : Int32) {r : Bool} (hf : f_X10_isDay N x0 = some r) : MTi l yX10_isDay wsX10_isDay rm_X10_isDay D (wk_T cB cI cJ) [.int x0] (w_X10_isDay cB cI cJ) (w_X10_isDay cB cI cJ) (wk_bI r) := by
  refine MTi.of (cc := cX10_isDay) (nL := 1) (rt := .boolean) (own := RX10) pn_X10 rfl rfl (Nat.le_of_ble_eq_true rfl) (wk_nz r) ?_
  intro p e s m args below meth c A ls Q C hP hD hS hl hret
  obtain ⟨hx, hb, hml, hts, hown, hK, hN, hA, hlk⟩ := id C
  have hl : lv_has ls 1 [(0, .int x0)] := hl
  unfold f_X10_isDay at hf
  refine lv_iload_n hx hb dX10_isDay_0 rfl (lv_at hl 0 rfl) ?_
  refine lv_iconst (v := (-1 : Int32)) hx hb dX10_isDay_1 (by decide) ?_
  refine lv_icmp_lt (tgt := 16) hx hb dX10_isDay_2 (by decide) (fun c1 => ?_) (fun c1 => ?_)
  · have hf := wk_itT hf c1
    refine lv_iconst (v := (0 : Int32)) hx hb dX10_isDay_16 (by decide) ?_
    exact hret _ _ _ _ _ _ dX10_isDay_17 (wk_rt hf (fun z => wk_bI z)) rfl hP hD hS
  · have hf := wk_itF hf c1
    refine lv_iload_n hx hb dX10_isDay_5 rfl (lv_at hl 0 rfl) ?_
    refine lv_ldcw (v := (36500 : Int32)) hx hb hown (hts (.constant RX10 296 (36500)) (List.mem_of_getElem? (i := 1) rfl)) dX10_isDay_6 ?_
    refine lv_icmp_gt (tgt := 16) hx hb dX10_isDay_9 (by decide) (fun c2 => ?_) (fun c2 => ?_)
    · have hf := wk_itT hf c2
      refine lv_iconst (v := (0 : Int32)) hx hb dX10_isDay_16 (by decide) ?_
      exact hret _ _ _ _ _ _ dX10_isDay_17 (wk_rt hf (fun z => wk_bI z)) rfl hP hD hS
    · have hf := wk_itF hf c2
      refine lv_iconst (v := (1 : Int32)) hx hb dX10_isDay_12 (by decide) ?_
      refine lv_goto (tgt := 17) hx hb dX10_isDay_13 (by decide) ?_
      exact hret _ _ _ _ _ _ dX10_isDay_17 (wk_rt hf (fun z => wk_bI z)) rfl hP hD hS
abbrev w_X10_isSpan (cB cI cJ : ClassId) : va_W := []
theorem hd_X10_isSpan : yX10_isSpan.cls = RX10 ∧ yX10_isSpan.cls ≠ "java/lang/invoke/MethodHandle" ∧ yX10_isSpan.cls ≠ "java/lang/invoke/VarHandle" ∧ (parseMethodDescriptor yX10_isSpan.desc).map (fun d => d.parameters.length) = some 2 := by decide +kernel
abbrev rm_X10_isSpan : Room := { frames := 1, cells := 0, slots := 0, locals := 20 }
set_option maxHeartbeats 4000000 in
set_option maxRecDepth 100000 in
theorem c_X10_isSpan (l : Launch) (D : va_G) (cB cI cJ : ClassId) (N : Nat) (x0 : Int32) (x1 : Int32) {r : Bool} (hf : f_X10_isSpan N x0 x1 = some r) : MTi l yX10_isSpan wsX10_isSpan rm_X10_isSpan D (wk_T cB cI cJ) [.int x0, .int x1] (w_X10_isSpan cB cI cJ) (w_X10_isSpan cB cI cJ) (wk_bI r) := by
  refine MTi.of (cc := cX10_isSpan) (nL := 2) (rt := .boolean) (own := RX10) pn_X10 rfl rfl (Nat.le_of_ble_eq_true rfl) (wk_nz r) ?_
  intro p e s m args below meth c A ls Q C hP hD hS hl hret
  obtain ⟨hx, hb, hml, hts, hown, hK, hN, hA, hlk⟩ := id C
  have hl : lv_has ls 2 [(0, .int x0), (1, .int x1)] := hl
  unfold f_X10_isSpan at hf
  refine lv_iload_n hx hb dX10_isSpan_0 rfl (lv_at hl 0 rfl) ?_
  obtain ⟨r1, hc1, hf⟩ := wk_b1E hf
  refine wk_callSi2 C hP hD hS (c_X10_isHour l D cB cI cJ N x0 hc1) (va_cwS 1 hts gX10_isSpan_X10_isHour rfl rfl rfl hd_X10_isHour.2 ⟨Nat.le_of_ble_eq_true rfl, Nat.le_of_ble_eq_true rfl⟩) hl.1 ⟨Nat.zero_le _, Nat.zero_le _⟩ [] [] 0 (by decide +kernel) rfl (Wn := w_X10_isSpan cB cI cJ) rfl rfl rfl rfl rfl rfl rfl rfl (Nat.le_of_ble_eq_true rfl) dX10_isSpan_1 (fun H locs hP hD hS => ?_)
  refine lv_if_eq (tgt := 23) hx hb dX10_isSpan_4 (by decide) (fun c2 => ?_) (fun c2 => ?_)
  · have hf := wk_itT hf c2
    refine lv_iconst (v := (0 : Int32)) hx hb dX10_isSpan_23 (by decide) ?_
    exact hret _ _ _ _ _ _ dX10_isSpan_24 (wk_rt hf (fun z => wk_bI z)) rfl hP hD hS
  · have hf := wk_itF hf c2
    refine lv_iload_n hx hb dX10_isSpan_7 rfl (lv_at hl 0 rfl) ?_
    refine lv_iload_n hx hb dX10_isSpan_8 rfl (lv_at hl 1 rfl) ?_
    refine lv_icmp_gt (tgt := 23) hx hb dX10_isSpan_9 (by decide) (fun c3 => ?_) (fun c3 => ?_)
    · have hf := wk_itT hf c3
      refine lv_iconst (v := (0 : Int32)) hx hb dX10_isSpan_23 (by decide) ?_
      exact hret _ _ _ _ _ _ dX10_isSpan_24 (wk_rt hf (fun z => wk_bI z)) rfl hP hD hS
    · have hf := wk_itF hf c3
      refine lv_iload_n hx hb dX10_isSpan_12 rfl (lv_at hl 1 rfl) ?_
      refine lv_sipush (v := (1000 : Int32)) hx hb dX10_isSpan_13 (by decide) ?_
      refine lv_icmp_gt (tgt := 23) hx hb dX10_isSpan_16 (by decide) (fun c4 => ?_) (fun c4 => ?_)
      · have hf := wk_itT hf c4
        refine lv_iconst (v := (0 : Int32)) hx hb dX10_isSpan_23 (by decide) ?_
        exact hret _ _ _ _ _ _ dX10_isSpan_24 (wk_rt hf (fun z => wk_bI z)) rfl hP hD hS
      · have hf := wk_itF hf c4
        refine lv_iconst (v := (1 : Int32)) hx hb dX10_isSpan_19 (by decide) ?_
        refine lv_goto (tgt := 24) hx hb dX10_isSpan_20 (by decide) ?_
        exact hret _ _ _ _ _ _ dX10_isSpan_24 (wk_rt hf (fun z => wk_bI z)) rfl hP hD hS
abbrev w_X10_isHands (cB cI cJ : ClassId) : va_W := []
theorem hd_X10_isHands : yX10_isHands.cls = RX10 ∧ yX10_isHands.cls ≠ "java/lang/invoke/MethodHandle" ∧ yX10_isHands.cls ≠ "java/lang/invoke/VarHandle" ∧ (parseMethodDescriptor yX10_isHands.desc).map (fun d => d.parameters.length) = some 1 := by decide +kernel
abbrev rm_X10_isHands : Room := { frames := 0, cells := 0, slots := 0, locals := 0 }
set_option maxHeartbeats 4000000 in
set_option maxRecDepth 100000 in
theorem c_X10_isHands (l : Launch) (D : va_G) (cB cI cJ : ClassId) (N : Nat) (x0 : Int32) {r : Bool} (hf : f_X10_isHands N x0 = some r) : MTi l yX10_isHands wsX10_isHands rm_X10_isHands D (wk_T cB cI cJ) [.int x0] (w_X10_isHands cB cI cJ) (w_X10_isHands cB cI cJ) (wk_bI r) := by
  refine MTi.of (cc := cX10_isHands) (nL := 1) (rt := .boolean) (own := RX10) pn_X10 rfl rfl (Nat.le_of_ble_eq_true rfl) (wk_nz r) ?_
  intro p e s m args below meth c A ls Q C hP hD hS hl hret
  obtain ⟨hx, hb, hml, hts, hown, hK, hN, hA, hlk⟩ := id C
  have hl : lv_has ls 1 [(0, .int x0)] := hl
  unfold f_X10_isHands at hf
  refine lv_iload_n hx hb dX10_isHands_0 rfl (lv_at hl 0 rfl) ?_
  refine lv_iconst (v := (1 : Int32)) hx hb dX10_isHands_1 (by decide) ?_
  refine lv_icmp_lt (tgt := 15) hx hb dX10_isHands_2 (by decide) (fun c1 => ?_) (fun c1 => ?_)
  · have hf := wk_itT hf c1
    refine lv_iconst (v := (0 : Int32)) hx hb dX10_isHands_15 (by decide) ?_
    exact hret _ _ _ _ _ _ dX10_isHands_16 (wk_rt hf (fun z => wk_bI z)) rfl hP hD hS
  · have hf := wk_itF hf c1
    refine lv_iload_n hx hb dX10_isHands_5 rfl (lv_at hl 0 rfl) ?_
    refine lv_bipush (v := (20 : Int32)) hx hb dX10_isHands_6 (by decide) ?_
    refine lv_icmp_gt (tgt := 15) hx hb dX10_isHands_8 (by decide) (fun c2 => ?_) (fun c2 => ?_)
    · have hf := wk_itT hf c2
      refine lv_iconst (v := (0 : Int32)) hx hb dX10_isHands_15 (by decide) ?_
      exact hret _ _ _ _ _ _ dX10_isHands_16 (wk_rt hf (fun z => wk_bI z)) rfl hP hD hS
    · have hf := wk_itF hf c2
      refine lv_iconst (v := (1 : Int32)) hx hb dX10_isHands_11 (by decide) ?_
      refine lv_goto (tgt := 16) hx hb dX10_isHands_12 (by decide) ?_
      exact hret _ _ _ _ _ _ dX10_isHands_16 (wk_rt hf (fun z => wk_bI z)) rfl hP hD hS
