theorem hd_X2_init : yX2_init.cls = RX2 ∧ yX2_init.cls ≠ "java/lang/invoke/MethodHandle" ∧ yX2_init.cls ≠ "java/lang/invoke/VarHandle" ∧ (parseMethodDescriptor yX2_init.desc).map (fun d => d.parameters.length) = some 1 := by decide +kernel
theorem in_X2_init_X2 : ∀ w ∈ wsX20, w ∈ wsX2_init := fun w h => List.mem_cons_of_mem _ (List.mem_append_left _ (List.mem_append_right _ h))
theorem in_X2_init_X6 : ∀ w ∈ wsX60, w ∈ wsX2_init := fun w h => List.mem_cons_of_mem _ (List.mem_append_right _ h)
abbrev rm_X2_init_8 : Room := { frames := 2, cells := 6, slots := 83, locals := 46 }
abbrev wI_X2_init_8 (cB cI cJ : ClassId) (a_this : Nat) (u : Nat → Nat) : va_W := [(a_this, .inr (2, [.int (8 : Int32), .ref (u 0), .ref (u 2), .ref (u 4), .int (0 : Int32)])), ((u 0), .inr (6, [.ref (u 1)])), ((u 1), .inl (cI, 64, .inl (fun _ => 0))), ((u 2), .inr (6, [.ref (u 3)])), ((u 3), .inl (cI, 8, .inl (fun _ => 0))), ((u 4), .inr (6, [.ref (u 5)])), ((u 5), .inl (cI, 8, .inl (fun _ => 0)))]
set_option maxHeartbeats 8000000 in
set_option maxRecDepth 100000 in
theorem c_X2_init_8 (l : Launch) (D : va_G) (cB cI cJ : ClassId) (a_this : Nat) : MTn l yX2_init wsX2_init rm_X2_init_8 D (wk_T cB cI cJ) [.ref a_this, .int (8 : Int32)] [(a_this, .inr (2, [.int 0, .null, .null, .null, .int 0]))] (fun u : Nat → Nat => wI_X2_init_8 cB cI cJ a_this u) 6 83 := by
  refine MTn.of (cc := cX2_init) (nL := 2) (own := RX2) pn_X2 rfl rfl rfl (Nat.le_of_ble_eq_true rfl) ?_
  intro p e s m args below meth c A ls Q C hin hP hD hS hl hret
  obtain ⟨hx, hb, hml, hts, hown, hK, hN, hA, hlk⟩ := id C
  have hl : lv_has ls 2 [(0, .ref a_this), (1, .int (8 : Int32))] := hl
  refine lv_aload_n hx hb dX2_init_0 rfl (lv_at hl 0 rfl) ?_
  refine W.objInit hx hb hown (hts (.methodLink RX2 3 objectInit) (List.mem_of_getElem? (i := 1) rfl)) (hts (.instanceMethod objectInit) (List.mem_of_getElem? (i := 2) rfl)) (hts (.code objectInit ⟨#[0xb1]⟩ 1 none) (List.mem_of_getElem? (i := 3) rfl)) rfl (by rw [hml]; exact hl.1) rfl dX2_init_1 (Nat.le_of_ble_eq_true rfl) (Nat.le_of_ble_eq_true rfl) ?_
  refine W.eq (g2 := F0 m 4 ls []) rfl ?_
  refine lv_aload_n hx hb dX2_init_4 rfl (lv_at hl 0 rfl) ?_
  refine lv_iconst (v := (0 : Int32)) hx hb dX2_init_5 (by decide) ?_
  refine va_put (D := D) (ci := 2) (v := .int (0 : Int32)) (ty := .int) (C := RX2) (T := TX2) (N := 5) hx hb hts in_X2_init_X2 tyX2 tyX2_ok nmX2 hown hK hP hD hS 0 rfl rfl 4 (by decide) (hts (.fieldLink RX2 9 "HangingCards$People" "size" "I") (List.mem_of_getElem? (i := 4) rfl)) (fun _ h9 => h9) rfl (by decide +kernel) rfl rfl (Nat.le_of_ble_eq_true rfl) dX2_init_6 (fun H locs hP hD hS => ?_)
  have hP : va_P D vwCl [(a_this, .inr (2, [.int 0, .null, .null, .null, .int (0 : Int32)]))] H := hP
  have hD : va_D A [(a_this, .inr (2, [.int 0, .null, .null, .null, .int (0 : Int32)]))] := hD
  refine lv_aload_n hx hb dX2_init_9 rfl (lv_at hl 0 rfl) ?_
  refine lv_iload_n hx hb dX2_init_10 rfl (lv_at hl 1 rfl) ?_
  refine va_putF (D := D) (ci := 2) (v := .int (8 : Int32)) (ty := .int) (C := RX2) (T := TX2) (N := 5) hx hb hts in_X2_init_X2 tyX2 tyX2_ok nmX2 hown hK hP hD hS 0 rfl rfl 0 (by decide) (hts (.fieldLink RX2 15 "HangingCards$People" "limit" "I") (List.mem_of_getElem? (i := 5) rfl)) (fun _ h9 => h9) rfl hin rfl (by decide +kernel) rfl rfl (Nat.le_of_ble_eq_true rfl) dX2_init_11 (fun H locs hP hD hS => ?_)
  have hP : va_P D vwCl [(a_this, .inr (2, [.int (8 : Int32), .null, .null, .null, .int (0 : Int32)]))] H := hP
  have hD : va_D A [(a_this, .inr (2, [.int (8 : Int32), .null, .null, .null, .int (0 : Int32)]))] := hD
  refine lv_aload_n hx hb dX2_init_14 rfl (lv_at hl 0 rfl) ?_
  refine va_new (ci := 6) (fs := [.null]) (C := RX6) (T := TX6) (N := 1) hx hb hts in_X2_init_X6 tyX6 tyX6_ok hown (hts (.classLink RX2 18 RX6) (List.mem_of_getElem? (i := 6) rfl)) (hts (.instantiable RX6 1) (List.mem_of_getElem? (i := 7) rfl)) (hts (.initialized RX6) (List.mem_of_getElem? (i := 8) rfl)) hK hP hD hS hA rfl (fun j hj => by rcases (show j = 0 by omega) with rfl <;> rfl) (Nat.le_of_ble_eq_true rfl) (Nat.le_of_ble_eq_true rfl) dX2_init_15 (fun q1 H hP hD hS => ?_)
  have hP : va_P D vwCl [(a_this, .inr (2, [.int (8 : Int32), .null, .null, .null, .int (0 : Int32)])), (q1, .inr (6, [.null]))] H := hP
  have hD : va_D A [(a_this, .inr (2, [.int (8 : Int32), .null, .null, .null, .int (0 : Int32)])), (q1, .inr (6, [.null]))] := hD
  refine W.widen (k := 1) (n := 1) (Nat.le_refl _) (Nat.le_refl _) ?_
  refine lv_dup hx hb dX2_init_18 rfl ?_
  refine lv_iload_n hx hb dX2_init_19 rfl (lv_at hl 1 rfl) ?_
  refine lv_bipush (v := (8 : Int32)) hx hb dX2_init_20 (by decide) ?_
  refine lv_imul hx hb dX2_init_22 ?_
  refine wk_newI (S := Nat → Nat) C (c_X6_init l D cB cI cJ q1 64 ((8 : Int32) * (8 : Int32)) rfl (by decide)) (cwI 1 hts gX2_init_X6_init rfl rfl rfl (hts (.initialized RX6) (List.mem_of_getElem? (i := 8) rfl)) (hts (.methodLink RX2 20 yX6_init) (List.mem_of_getElem? (i := 12) rfl)) (hts (.instanceMethod yX6_init) (List.mem_of_getElem? (i := 13) rfl)) rfl hd_X6_init.2 ⟨Nat.le_of_ble_eq_true rfl, Nat.le_of_ble_eq_true rfl⟩) hP hD hS hl.1 ⟨Nat.le_of_ble_eq_true rfl, Nat.le_of_ble_eq_true rfl⟩ [1] [0] rfl rfl rfl rfl (by decide) rfl rfl (Nat.le_of_ble_eq_true rfl) dX2_init_23 (fun u2 H locs hP hD hS => ?_)
  have hP : va_P D vwCl [(a_this, .inr (2, [.int (8 : Int32), .null, .null, .null, .int (0 : Int32)])), (q1, .inr (6, [.ref (u2 0)])), ((u2 0), .inl (cI, 64, .inl (fun _ => 0)))] H := hP
  have hD : va_D A [(a_this, .inr (2, [.int (8 : Int32), .null, .null, .null, .int (0 : Int32)])), (q1, .inr (6, [.ref (u2 0)])), ((u2 0), .inl (cI, 64, .inl (fun _ => 0)))] := hD
  refine W.widen (k := 2) (n := 65) (Nat.le_refl _) (Nat.le_refl _) ?_
  refine va_putF (D := D) (ci := 2) (v := .ref q1) (ty := (.object "HangingCards$Row")) (C := RX2) (T := TX2) (N := 5) hx hb hts in_X2_init_X2 tyX2 tyX2_ok nmX2 hown hK hP hD hS 0 rfl rfl 1 (by decide) (hts (.fieldLink RX2 23 "HangingCards$People" "letters" "LHangingCards$Row;") (List.mem_of_getElem? (i := 9) rfl)) (fun _ h9 => h9) rfl hin rfl (by decide +kernel) rfl rfl (Nat.le_of_ble_eq_true rfl) dX2_init_26 (fun H locs hP hD hS => ?_)
  have hP : va_P D vwCl [(a_this, .inr (2, [.int (8 : Int32), .ref q1, .null, .null, .int (0 : Int32)])), (q1, .inr (6, [.ref (u2 0)])), ((u2 0), .inl (cI, 64, .inl (fun _ => 0)))] H := hP
  have hD : va_D A [(a_this, .inr (2, [.int (8 : Int32), .ref q1, .null, .null, .int (0 : Int32)])), (q1, .inr (6, [.ref (u2 0)])), ((u2 0), .inl (cI, 64, .inl (fun _ => 0)))] := hD
  refine lv_aload_n hx hb dX2_init_29 rfl (lv_at hl 0 rfl) ?_
  refine va_new (ci := 6) (fs := [.null]) (C := RX6) (T := TX6) (N := 1) hx hb hts in_X2_init_X6 tyX6 tyX6_ok hown (hts (.classLink RX2 18 RX6) (List.mem_of_getElem? (i := 6) rfl)) (hts (.instantiable RX6 1) (List.mem_of_getElem? (i := 7) rfl)) (hts (.initialized RX6) (List.mem_of_getElem? (i := 8) rfl)) hK hP hD hS hA rfl (fun j hj => by rcases (show j = 0 by omega) with rfl <;> rfl) (Nat.le_of_ble_eq_true rfl) (Nat.le_of_ble_eq_true rfl) dX2_init_30 (fun q3 H hP hD hS => ?_)
  have hP : va_P D vwCl [(a_this, .inr (2, [.int (8 : Int32), .ref q1, .null, .null, .int (0 : Int32)])), (q1, .inr (6, [.ref (u2 0)])), ((u2 0), .inl (cI, 64, .inl (fun _ => 0))), (q3, .inr (6, [.null]))] H := hP
  have hD : va_D A [(a_this, .inr (2, [.int (8 : Int32), .ref q1, .null, .null, .int (0 : Int32)])), (q1, .inr (6, [.ref (u2 0)])), ((u2 0), .inl (cI, 64, .inl (fun _ => 0))), (q3, .inr (6, [.null]))] := hD
  refine W.widen (k := 3) (n := 66) (Nat.le_refl _) (Nat.le_refl _) ?_
  refine lv_dup hx hb dX2_init_33 rfl ?_
  refine lv_iload_n hx hb dX2_init_34 rfl (lv_at hl 1 rfl) ?_
  refine wk_newI (S := Nat → Nat) C (c_X6_init l D cB cI cJ q3 8 (8 : Int32) rfl (by decide)) (cwI 1 hts gX2_init_X6_init rfl rfl rfl (hts (.initialized RX6) (List.mem_of_getElem? (i := 8) rfl)) (hts (.methodLink RX2 20 yX6_init) (List.mem_of_getElem? (i := 12) rfl)) (hts (.instanceMethod yX6_init) (List.mem_of_getElem? (i := 13) rfl)) rfl hd_X6_init.2 ⟨Nat.le_of_ble_eq_true rfl, Nat.le_of_ble_eq_true rfl⟩) hP hD hS hl.1 ⟨Nat.le_of_ble_eq_true rfl, Nat.le_of_ble_eq_true rfl⟩ [3] [0, 1, 2] rfl rfl rfl rfl (by decide) rfl rfl (Nat.le_of_ble_eq_true rfl) dX2_init_35 (fun u4 H locs hP hD hS => ?_)
  have hP : va_P D vwCl [(a_this, .inr (2, [.int (8 : Int32), .ref q1, .null, .null, .int (0 : Int32)])), (q1, .inr (6, [.ref (u2 0)])), ((u2 0), .inl (cI, 64, .inl (fun _ => 0))), (q3, .inr (6, [.ref (u4 0)])), ((u4 0), .inl (cI, 8, .inl (fun _ => 0)))] H := hP
  have hD : va_D A [(a_this, .inr (2, [.int (8 : Int32), .ref q1, .null, .null, .int (0 : Int32)])), (q1, .inr (6, [.ref (u2 0)])), ((u2 0), .inl (cI, 64, .inl (fun _ => 0))), (q3, .inr (6, [.ref (u4 0)])), ((u4 0), .inl (cI, 8, .inl (fun _ => 0)))] := hD
  refine W.widen (k := 4) (n := 74) (Nat.le_refl _) (Nat.le_refl _) ?_
  refine va_putF (D := D) (ci := 2) (v := .ref q3) (ty := (.object "HangingCards$Row")) (C := RX2) (T := TX2) (N := 5) hx hb hts in_X2_init_X2 tyX2 tyX2_ok nmX2 hown hK hP hD hS 0 rfl rfl 2 (by decide) (hts (.fieldLink RX2 27 "HangingCards$People" "days" "LHangingCards$Row;") (List.mem_of_getElem? (i := 10) rfl)) (fun _ h9 => h9) rfl hin rfl (by decide +kernel) rfl rfl (Nat.le_of_ble_eq_true rfl) dX2_init_38 (fun H locs hP hD hS => ?_)
  have hP : va_P D vwCl [(a_this, .inr (2, [.int (8 : Int32), .ref q1, .ref q3, .null, .int (0 : Int32)])), (q1, .inr (6, [.ref (u2 0)])), ((u2 0), .inl (cI, 64, .inl (fun _ => 0))), (q3, .inr (6, [.ref (u4 0)])), ((u4 0), .inl (cI, 8, .inl (fun _ => 0)))] H := hP
  have hD : va_D A [(a_this, .inr (2, [.int (8 : Int32), .ref q1, .ref q3, .null, .int (0 : Int32)])), (q1, .inr (6, [.ref (u2 0)])), ((u2 0), .inl (cI, 64, .inl (fun _ => 0))), (q3, .inr (6, [.ref (u4 0)])), ((u4 0), .inl (cI, 8, .inl (fun _ => 0)))] := hD
  refine lv_aload_n hx hb dX2_init_41 rfl (lv_at hl 0 rfl) ?_
  refine va_new (ci := 6) (fs := [.null]) (C := RX6) (T := TX6) (N := 1) hx hb hts in_X2_init_X6 tyX6 tyX6_ok hown (hts (.classLink RX2 18 RX6) (List.mem_of_getElem? (i := 6) rfl)) (hts (.instantiable RX6 1) (List.mem_of_getElem? (i := 7) rfl)) (hts (.initialized RX6) (List.mem_of_getElem? (i := 8) rfl)) hK hP hD hS hA rfl (fun j hj => by rcases (show j = 0 by omega) with rfl <;> rfl) (Nat.le_of_ble_eq_true rfl) (Nat.le_of_ble_eq_true rfl) dX2_init_42 (fun q5 H hP hD hS => ?_)
  have hP : va_P D vwCl [(a_this, .inr (2, [.int (8 : Int32), .ref q1, .ref q3, .null, .int (0 : Int32)])), (q1, .inr (6, [.ref (u2 0)])), ((u2 0), .inl (cI, 64, .inl (fun _ => 0))), (q3, .inr (6, [.ref (u4 0)])), ((u4 0), .inl (cI, 8, .inl (fun _ => 0))), (q5, .inr (6, [.null]))] H := hP
  have hD : va_D A [(a_this, .inr (2, [.int (8 : Int32), .ref q1, .ref q3, .null, .int (0 : Int32)])), (q1, .inr (6, [.ref (u2 0)])), ((u2 0), .inl (cI, 64, .inl (fun _ => 0))), (q3, .inr (6, [.ref (u4 0)])), ((u4 0), .inl (cI, 8, .inl (fun _ => 0))), (q5, .inr (6, [.null]))] := hD
  refine W.widen (k := 5) (n := 75) (Nat.le_refl _) (Nat.le_refl _) ?_
  refine lv_dup hx hb dX2_init_45 rfl ?_
  refine lv_iload_n hx hb dX2_init_46 rfl (lv_at hl 1 rfl) ?_
  refine wk_newI (S := Nat → Nat) C (c_X6_init l D cB cI cJ q5 8 (8 : Int32) rfl (by decide)) (cwI 1 hts gX2_init_X6_init rfl rfl rfl (hts (.initialized RX6) (List.mem_of_getElem? (i := 8) rfl)) (hts (.methodLink RX2 20 yX6_init) (List.mem_of_getElem? (i := 12) rfl)) (hts (.instanceMethod yX6_init) (List.mem_of_getElem? (i := 13) rfl)) rfl hd_X6_init.2 ⟨Nat.le_of_ble_eq_true rfl, Nat.le_of_ble_eq_true rfl⟩) hP hD hS hl.1 ⟨Nat.le_of_ble_eq_true rfl, Nat.le_of_ble_eq_true rfl⟩ [5] [0, 1, 2, 3, 4] rfl rfl rfl rfl (by decide) rfl rfl (Nat.le_of_ble_eq_true rfl) dX2_init_47 (fun u6 H locs hP hD hS => ?_)
  have hP : va_P D vwCl [(a_this, .inr (2, [.int (8 : Int32), .ref q1, .ref q3, .null, .int (0 : Int32)])), (q1, .inr (6, [.ref (u2 0)])), ((u2 0), .inl (cI, 64, .inl (fun _ => 0))), (q3, .inr (6, [.ref (u4 0)])), ((u4 0), .inl (cI, 8, .inl (fun _ => 0))), (q5, .inr (6, [.ref (u6 0)])), ((u6 0), .inl (cI, 8, .inl (fun _ => 0)))] H := hP
  have hD : va_D A [(a_this, .inr (2, [.int (8 : Int32), .ref q1, .ref q3, .null, .int (0 : Int32)])), (q1, .inr (6, [.ref (u2 0)])), ((u2 0), .inl (cI, 64, .inl (fun _ => 0))), (q3, .inr (6, [.ref (u4 0)])), ((u4 0), .inl (cI, 8, .inl (fun _ => 0))), (q5, .inr (6, [.ref (u6 0)])), ((u6 0), .inl (cI, 8, .inl (fun _ => 0)))] := hD
  refine W.widen (k := 6) (n := 83) (Nat.le_refl _) (Nat.le_refl _) ?_
  refine va_putF (D := D) (ci := 2) (v := .ref q5) (ty := (.object "HangingCards$Row")) (C := RX2) (T := TX2) (N := 5) hx hb hts in_X2_init_X2 tyX2 tyX2_ok nmX2 hown hK hP hD hS 0 rfl rfl 3 (by decide) (hts (.fieldLink RX2 30 "HangingCards$People" "counties" "LHangingCards$Row;") (List.mem_of_getElem? (i := 11) rfl)) (fun _ h9 => h9) rfl hin rfl (by decide +kernel) rfl rfl (Nat.le_of_ble_eq_true rfl) dX2_init_50 (fun H locs hP hD hS => ?_)
  have hP : va_P D vwCl [(a_this, .inr (2, [.int (8 : Int32), .ref q1, .ref q3, .ref q5, .int (0 : Int32)])), (q1, .inr (6, [.ref (u2 0)])), ((u2 0), .inl (cI, 64, .inl (fun _ => 0))), (q3, .inr (6, [.ref (u4 0)])), ((u4 0), .inl (cI, 8, .inl (fun _ => 0))), (q5, .inr (6, [.ref (u6 0)])), ((u6 0), .inl (cI, 8, .inl (fun _ => 0)))] H := hP
  have hD : va_D A [(a_this, .inr (2, [.int (8 : Int32), .ref q1, .ref q3, .ref q5, .int (0 : Int32)])), (q1, .inr (6, [.ref (u2 0)])), ((u2 0), .inl (cI, 64, .inl (fun _ => 0))), (q3, .inr (6, [.ref (u4 0)])), ((u4 0), .inl (cI, 8, .inl (fun _ => 0))), (q5, .inr (6, [.ref (u6 0)])), ((u6 0), .inl (cI, 8, .inl (fun _ => 0)))] := hD
  exact hret (fun i => ([q1, (u2 0), q3, (u4 0), q5, (u6 0)] : List Nat).getD i 0) _ _ _ _ dX2_init_53 hP hD hS
