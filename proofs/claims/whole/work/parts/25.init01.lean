theorem hd_X3_init : yX3_init.cls = RX3 ∧ yX3_init.cls ≠ "java/lang/invoke/MethodHandle" ∧ yX3_init.cls ≠ "java/lang/invoke/VarHandle" ∧ (parseMethodDescriptor yX3_init.desc).map (fun d => d.parameters.length) = some 0 := by decide +kernel
theorem in_X3_init_X3 : ∀ w ∈ wsX30, w ∈ wsX3_init := fun w h => List.mem_cons_of_mem _ (List.mem_append_right _ h)
theorem in_X3_init_X6 : ∀ w ∈ wsX60, w ∈ wsX3_init := fun w h => List.mem_cons_of_mem _ (List.mem_append_left _ (List.mem_append_right _ h))
abbrev rm_X3_init : Room := { frames := 2, cells := 4, slots := 522, locals := 46 }
abbrev wI_X3_init (cB cI cJ : ClassId) (a_this : Nat) (u : Nat → Nat) : va_W := [(a_this, .inr (3, [.ref (u 0), .ref (u 2), .int (0 : Int32)])), ((u 0), .inr (6, [.ref (u 1)])), ((u 1), .inl (cI, 40, .inl (fun _ => 0))), ((u 2), .inr (6, [.ref (u 3)])), ((u 3), .inl (cI, 480, .inl (fun _ => 0)))]
set_option maxHeartbeats 8000000 in
set_option maxRecDepth 100000 in
theorem c_X3_init (l : Launch) (D : va_G) (cB cI cJ : ClassId) (a_this : Nat) : MTn l yX3_init wsX3_init rm_X3_init D (wk_T cB cI cJ) [.ref a_this] [(a_this, .inr (3, [.null, .null, .int 0]))] (fun u : Nat → Nat => wI_X3_init cB cI cJ a_this u) 4 522 := by
  refine MTn.of (cc := cX3_init) (nL := 1) (own := RX3) pn_X3 rfl rfl rfl (Nat.le_of_ble_eq_true rfl) ?_
  intro p e s m args below meth c A ls Q C hin hP hD hS hl hret
  obtain ⟨hx, hb, hml, hts, hown, hK, hN, hA, hlk⟩ := id C
  have hl : lv_has ls 1 [(0, .ref a_this)] := hl
  refine lv_aload_n hx hb dX3_init_0 rfl (lv_at hl 0 rfl) ?_
  refine W.objInit hx hb hown (hts (.methodLink RX3 3 objectInit) (List.mem_of_getElem? (i := 1) rfl)) (hts (.instanceMethod objectInit) (List.mem_of_getElem? (i := 2) rfl)) (hts (.code objectInit ⟨#[0xb1]⟩ 1 none) (List.mem_of_getElem? (i := 3) rfl)) rfl (by rw [hml]; exact hl.1) rfl dX3_init_1 (Nat.le_of_ble_eq_true rfl) (Nat.le_of_ble_eq_true rfl) ?_
  refine W.eq (g2 := F0 m 4 ls []) rfl ?_
  refine lv_aload_n hx hb dX3_init_4 rfl (lv_at hl 0 rfl) ?_
  refine va_new (ci := 6) (fs := [.null]) (C := RX6) (T := TX6) (N := 1) hx hb hts in_X3_init_X6 tyX6 tyX6_ok hown (hts (.classLink RX3 9 RX6) (List.mem_of_getElem? (i := 4) rfl)) (hts (.instantiable RX6 1) (List.mem_of_getElem? (i := 5) rfl)) (hts (.initialized RX6) (List.mem_of_getElem? (i := 6) rfl)) hK hP hD hS hA rfl (fun j hj => by rcases (show j = 0 by omega) with rfl <;> rfl) (Nat.le_of_ble_eq_true rfl) (Nat.le_of_ble_eq_true rfl) dX3_init_5 (fun q1 H hP hD hS => ?_)
  have hP : va_P D vwCl [(a_this, .inr (3, [.null, .null, .int 0])), (q1, .inr (6, [.null]))] H := hP
  have hD : va_D A [(a_this, .inr (3, [.null, .null, .int 0])), (q1, .inr (6, [.null]))] := hD
  refine W.widen (k := 1) (n := 1) (Nat.le_refl _) (Nat.le_refl _) ?_
  refine lv_dup hx hb dX3_init_8 rfl ?_
  refine lv_bipush (v := (40 : Int32)) hx hb dX3_init_9 (by decide) ?_
  refine wk_newI (S := Nat → Nat) C (c_X6_init l D cB cI cJ q1 40 (40 : Int32) rfl (by decide)) (cwI 1 hts gX3_init_X6_init rfl rfl rfl (hts (.initialized RX6) (List.mem_of_getElem? (i := 6) rfl)) (hts (.methodLink RX3 11 yX6_init) (List.mem_of_getElem? (i := 10) rfl)) (hts (.instanceMethod yX6_init) (List.mem_of_getElem? (i := 11) rfl)) rfl hd_X6_init.2 ⟨Nat.le_of_ble_eq_true rfl, Nat.le_of_ble_eq_true rfl⟩) hP hD hS hl.1 ⟨Nat.le_of_ble_eq_true rfl, Nat.le_of_ble_eq_true rfl⟩ [1] [0] rfl rfl rfl rfl (by decide) rfl rfl (Nat.le_of_ble_eq_true rfl) dX3_init_11 (fun u2 H locs hP hD hS => ?_)
  have hP : va_P D vwCl [(a_this, .inr (3, [.null, .null, .int 0])), (q1, .inr (6, [.ref (u2 0)])), ((u2 0), .inl (cI, 40, .inl (fun _ => 0)))] H := hP
  have hD : va_D A [(a_this, .inr (3, [.null, .null, .int 0])), (q1, .inr (6, [.ref (u2 0)])), ((u2 0), .inl (cI, 40, .inl (fun _ => 0)))] := hD
  refine W.widen (k := 2) (n := 41) (Nat.le_refl _) (Nat.le_refl _) ?_
  refine va_putF (D := D) (ci := 3) (v := .ref q1) (ty := (.object "HangingCards$Row")) (C := RX3) (T := TX3) (N := 3) hx hb hts in_X3_init_X3 tyX3 tyX3_ok nmX3 hown hK hP hD hS 0 rfl rfl 0 (by decide) (hts (.fieldLink RX3 14 "HangingCards$Pile" "counties" "LHangingCards$Row;") (List.mem_of_getElem? (i := 7) rfl)) (fun _ h9 => h9) rfl hin rfl (by decide +kernel) rfl rfl (Nat.le_of_ble_eq_true rfl) dX3_init_14 (fun H locs hP hD hS => ?_)
  have hP : va_P D vwCl [(a_this, .inr (3, [.ref q1, .null, .int 0])), (q1, .inr (6, [.ref (u2 0)])), ((u2 0), .inl (cI, 40, .inl (fun _ => 0)))] H := hP
  have hD : va_D A [(a_this, .inr (3, [.ref q1, .null, .int 0])), (q1, .inr (6, [.ref (u2 0)])), ((u2 0), .inl (cI, 40, .inl (fun _ => 0)))] := hD
  refine lv_aload_n hx hb dX3_init_17 rfl (lv_at hl 0 rfl) ?_
  refine va_new (ci := 6) (fs := [.null]) (C := RX6) (T := TX6) (N := 1) hx hb hts in_X3_init_X6 tyX6 tyX6_ok hown (hts (.classLink RX3 9 RX6) (List.mem_of_getElem? (i := 4) rfl)) (hts (.instantiable RX6 1) (List.mem_of_getElem? (i := 5) rfl)) (hts (.initialized RX6) (List.mem_of_getElem? (i := 6) rfl)) hK hP hD hS hA rfl (fun j hj => by rcases (show j = 0 by omega) with rfl <;> rfl) (Nat.le_of_ble_eq_true rfl) (Nat.le_of_ble_eq_true rfl) dX3_init_18 (fun q3 H hP hD hS => ?_)
  have hP : va_P D vwCl [(a_this, .inr (3, [.ref q1, .null, .int 0])), (q1, .inr (6, [.ref (u2 0)])), ((u2 0), .inl (cI, 40, .inl (fun _ => 0))), (q3, .inr (6, [.null]))] H := hP
  have hD : va_D A [(a_this, .inr (3, [.ref q1, .null, .int 0])), (q1, .inr (6, [.ref (u2 0)])), ((u2 0), .inl (cI, 40, .inl (fun _ => 0))), (q3, .inr (6, [.null]))] := hD
  refine W.widen (k := 3) (n := 42) (Nat.le_refl _) (Nat.le_refl _) ?_
  refine lv_dup hx hb dX3_init_21 rfl ?_
  refine lv_sipush (v := (480 : Int32)) hx hb dX3_init_22 (by decide) ?_
  refine wk_newI (S := Nat → Nat) C (c_X6_init l D cB cI cJ q3 480 (480 : Int32) rfl (by decide)) (cwI 1 hts gX3_init_X6_init rfl rfl rfl (hts (.initialized RX6) (List.mem_of_getElem? (i := 6) rfl)) (hts (.methodLink RX3 11 yX6_init) (List.mem_of_getElem? (i := 10) rfl)) (hts (.instanceMethod yX6_init) (List.mem_of_getElem? (i := 11) rfl)) rfl hd_X6_init.2 ⟨Nat.le_of_ble_eq_true rfl, Nat.le_of_ble_eq_true rfl⟩) hP hD hS hl.1 ⟨Nat.le_of_ble_eq_true rfl, Nat.le_of_ble_eq_true rfl⟩ [3] [0, 1, 2] rfl rfl rfl rfl (by decide) rfl rfl (Nat.le_of_ble_eq_true rfl) dX3_init_25 (fun u4 H locs hP hD hS => ?_)
  have hP : va_P D vwCl [(a_this, .inr (3, [.ref q1, .null, .int 0])), (q1, .inr (6, [.ref (u2 0)])), ((u2 0), .inl (cI, 40, .inl (fun _ => 0))), (q3, .inr (6, [.ref (u4 0)])), ((u4 0), .inl (cI, 480, .inl (fun _ => 0)))] H := hP
  have hD : va_D A [(a_this, .inr (3, [.ref q1, .null, .int 0])), (q1, .inr (6, [.ref (u2 0)])), ((u2 0), .inl (cI, 40, .inl (fun _ => 0))), (q3, .inr (6, [.ref (u4 0)])), ((u4 0), .inl (cI, 480, .inl (fun _ => 0)))] := hD
  refine W.widen (k := 4) (n := 522) (Nat.le_refl _) (Nat.le_refl _) ?_
  refine va_putF (D := D) (ci := 3) (v := .ref q3) (ty := (.object "HangingCards$Row")) (C := RX3) (T := TX3) (N := 3) hx hb hts in_X3_init_X3 tyX3 tyX3_ok nmX3 hown hK hP hD hS 0 rfl rfl 1 (by decide) (hts (.fieldLink RX3 20 "HangingCards$Pile" "states" "LHangingCards$Row;") (List.mem_of_getElem? (i := 8) rfl)) (fun _ h9 => h9) rfl hin rfl (by decide +kernel) rfl rfl (Nat.le_of_ble_eq_true rfl) dX3_init_28 (fun H locs hP hD hS => ?_)
  have hP : va_P D vwCl [(a_this, .inr (3, [.ref q1, .ref q3, .int 0])), (q1, .inr (6, [.ref (u2 0)])), ((u2 0), .inl (cI, 40, .inl (fun _ => 0))), (q3, .inr (6, [.ref (u4 0)])), ((u4 0), .inl (cI, 480, .inl (fun _ => 0)))] H := hP
  have hD : va_D A [(a_this, .inr (3, [.ref q1, .ref q3, .int 0])), (q1, .inr (6, [.ref (u2 0)])), ((u2 0), .inl (cI, 40, .inl (fun _ => 0))), (q3, .inr (6, [.ref (u4 0)])), ((u4 0), .inl (cI, 480, .inl (fun _ => 0)))] := hD
  refine lv_aload_n hx hb dX3_init_31 rfl (lv_at hl 0 rfl) ?_
  refine lv_iconst (v := (0 : Int32)) hx hb dX3_init_32 (by decide) ?_
  refine va_put (D := D) (ci := 3) (v := .int (0 : Int32)) (ty := .int) (C := RX3) (T := TX3) (N := 3) hx hb hts in_X3_init_X3 tyX3 tyX3_ok nmX3 hown hK hP hD hS 0 rfl rfl 2 (by decide) (hts (.fieldLink RX3 23 "HangingCards$Pile" "size" "I") (List.mem_of_getElem? (i := 9) rfl)) (fun _ h9 => h9) rfl (by decide +kernel) rfl rfl (Nat.le_of_ble_eq_true rfl) dX3_init_33 (fun H locs hP hD hS => ?_)
  have hP : va_P D vwCl [(a_this, .inr (3, [.ref q1, .ref q3, .int (0 : Int32)])), (q1, .inr (6, [.ref (u2 0)])), ((u2 0), .inl (cI, 40, .inl (fun _ => 0))), (q3, .inr (6, [.ref (u4 0)])), ((u4 0), .inl (cI, 480, .inl (fun _ => 0)))] H := hP
  have hD : va_D A [(a_this, .inr (3, [.ref q1, .ref q3, .int (0 : Int32)])), (q1, .inr (6, [.ref (u2 0)])), ((u2 0), .inl (cI, 40, .inl (fun _ => 0))), (q3, .inr (6, [.ref (u4 0)])), ((u4 0), .inl (cI, 480, .inl (fun _ => 0)))] := hD
  exact hret (fun i => ([q1, (u2 0), q3, (u4 0)] : List Nat).getD i 0) _ _ _ _ dX3_init_36 hP hD hS
