theorem hd_X4_init : yX4_init.cls = RX4 ∧ yX4_init.cls ≠ "java/lang/invoke/MethodHandle" ∧ yX4_init.cls ≠ "java/lang/invoke/VarHandle" ∧ (parseMethodDescriptor yX4_init.desc).map (fun d => d.parameters.length) = some 0 := by decide +kernel
theorem in_X4_init_X4 : ∀ w ∈ wsX40, w ∈ wsX4_init := fun w h => List.mem_cons_of_mem _ (List.mem_append_right _ h)
theorem in_X4_init_X6 : ∀ w ∈ wsX60, w ∈ wsX4_init := fun w h => List.mem_cons_of_mem _ (List.mem_append_left _ (List.mem_append_right _ h))
abbrev rm_X4_init : Room := { frames := 2, cells := 4, slots := 12, locals := 46 }
abbrev wI_X4_init (cB cI cJ : ClassId) (a_this : Nat) (u : Nat → Nat) : va_W := [(a_this, .inr (4, [.ref (u 0), .ref (u 2)])), ((u 0), .inr (6, [.ref (u 1)])), ((u 1), .inl (cI, 5, .inl (fun _ => 0))), ((u 2), .inr (6, [.ref (u 3)])), ((u 3), .inl (cI, 5, .inl (fun _ => 0)))]
set_option maxHeartbeats 8000000 in
set_option maxRecDepth 100000 in
theorem c_X4_init (l : Launch) (D : va_G) (cB cI cJ : ClassId) (a_this : Nat) : MTn l yX4_init wsX4_init rm_X4_init D (wk_T cB cI cJ) [.ref a_this] [(a_this, .inr (4, [.null, .null]))] (fun u : Nat → Nat => wI_X4_init cB cI cJ a_this u) 4 12 := by
  refine MTn.of (cc := cX4_init) (nL := 1) (own := RX4) pn_X4 rfl rfl rfl (Nat.le_of_ble_eq_true rfl) ?_
  intro p e s m args below meth c A ls Q C hin hP hD hS hl hret
  obtain ⟨hx, hb, hml, hts, hown, hK, hN, hA, hlk⟩ := id C
  have hl : lv_has ls 1 [(0, .ref a_this)] := hl
  refine lv_aload_n hx hb dX4_init_0 rfl (lv_at hl 0 rfl) ?_
  refine W.objInit hx hb hown (hts (.methodLink RX4 3 objectInit) (List.mem_of_getElem? (i := 1) rfl)) (hts (.instanceMethod objectInit) (List.mem_of_getElem? (i := 2) rfl)) (hts (.code objectInit ⟨#[0xb1]⟩ 1 none) (List.mem_of_getElem? (i := 3) rfl)) rfl (by rw [hml]; exact hl.1) rfl dX4_init_1 (Nat.le_of_ble_eq_true rfl) (Nat.le_of_ble_eq_true rfl) ?_
  refine W.eq (g2 := F0 m 4 ls []) rfl ?_
  refine lv_aload_n hx hb dX4_init_4 rfl (lv_at hl 0 rfl) ?_
  refine va_new (ci := 6) (fs := [.null]) (C := RX6) (T := TX6) (N := 1) hx hb hts in_X4_init_X6 tyX6 tyX6_ok hown (hts (.classLink RX4 9 RX6) (List.mem_of_getElem? (i := 4) rfl)) (hts (.instantiable RX6 1) (List.mem_of_getElem? (i := 5) rfl)) (hts (.initialized RX6) (List.mem_of_getElem? (i := 6) rfl)) hK hP hD hS hA rfl (fun j hj => by rcases (show j = 0 by omega) with rfl <;> rfl) (Nat.le_of_ble_eq_true rfl) (Nat.le_of_ble_eq_true rfl) dX4_init_5 (fun q1 H hP hD hS => ?_)
  have hP : va_P D vwCl [(a_this, .inr (4, [.null, .null])), (q1, .inr (6, [.null]))] H := hP
  have hD : va_D A [(a_this, .inr (4, [.null, .null])), (q1, .inr (6, [.null]))] := hD
  refine W.widen (k := 1) (n := 1) (Nat.le_refl _) (Nat.le_refl _) ?_
  refine lv_dup hx hb dX4_init_8 rfl ?_
  refine lv_iconst (v := (5 : Int32)) hx hb dX4_init_9 (by decide) ?_
  refine wk_newI (S := Nat → Nat) C (c_X6_init l D cB cI cJ q1 5 (5 : Int32) rfl (by decide)) (cwI 1 hts gX4_init_X6_init rfl rfl rfl (hts (.initialized RX6) (List.mem_of_getElem? (i := 6) rfl)) (hts (.methodLink RX4 11 yX6_init) (List.mem_of_getElem? (i := 9) rfl)) (hts (.instanceMethod yX6_init) (List.mem_of_getElem? (i := 10) rfl)) rfl hd_X6_init.2 ⟨Nat.le_of_ble_eq_true rfl, Nat.le_of_ble_eq_true rfl⟩) hP hD hS hl.1 ⟨Nat.le_of_ble_eq_true rfl, Nat.le_of_ble_eq_true rfl⟩ [1] [0] rfl rfl rfl rfl (by decide) rfl rfl (Nat.le_of_ble_eq_true rfl) dX4_init_10 (fun u2 H locs hP hD hS => ?_)
  have hP : va_P D vwCl [(a_this, .inr (4, [.null, .null])), (q1, .inr (6, [.ref (u2 0)])), ((u2 0), .inl (cI, 5, .inl (fun _ => 0)))] H := hP
  have hD : va_D A [(a_this, .inr (4, [.null, .null])), (q1, .inr (6, [.ref (u2 0)])), ((u2 0), .inl (cI, 5, .inl (fun _ => 0)))] := hD
  refine W.widen (k := 2) (n := 6) (Nat.le_refl _) (Nat.le_refl _) ?_
  refine va_putF (D := D) (ci := 4) (v := .ref q1) (ty := (.object "HangingCards$Row")) (C := RX4) (T := TX4) (N := 2) hx hb hts in_X4_init_X4 tyX4 tyX4_ok nmX4 hown hK hP hD hS 0 rfl rfl 0 (by decide) (hts (.fieldLink RX4 14 "HangingCards$Reading" "states" "LHangingCards$Row;") (List.mem_of_getElem? (i := 7) rfl)) (fun _ h9 => h9) rfl hin rfl (by decide +kernel) rfl rfl (Nat.le_of_ble_eq_true rfl) dX4_init_13 (fun H locs hP hD hS => ?_)
  have hP : va_P D vwCl [(a_this, .inr (4, [.ref q1, .null])), (q1, .inr (6, [.ref (u2 0)])), ((u2 0), .inl (cI, 5, .inl (fun _ => 0)))] H := hP
  have hD : va_D A [(a_this, .inr (4, [.ref q1, .null])), (q1, .inr (6, [.ref (u2 0)])), ((u2 0), .inl (cI, 5, .inl (fun _ => 0)))] := hD
  refine lv_aload_n hx hb dX4_init_16 rfl (lv_at hl 0 rfl) ?_
  refine va_new (ci := 6) (fs := [.null]) (C := RX6) (T := TX6) (N := 1) hx hb hts in_X4_init_X6 tyX6 tyX6_ok hown (hts (.classLink RX4 9 RX6) (List.mem_of_getElem? (i := 4) rfl)) (hts (.instantiable RX6 1) (List.mem_of_getElem? (i := 5) rfl)) (hts (.initialized RX6) (List.mem_of_getElem? (i := 6) rfl)) hK hP hD hS hA rfl (fun j hj => by rcases (show j = 0 by omega) with rfl <;> rfl) (Nat.le_of_ble_eq_true rfl) (Nat.le_of_ble_eq_true rfl) dX4_init_17 (fun q3 H hP hD hS => ?_)
  have hP : va_P D vwCl [(a_this, .inr (4, [.ref q1, .null])), (q1, .inr (6, [.ref (u2 0)])), ((u2 0), .inl (cI, 5, .inl (fun _ => 0))), (q3, .inr (6, [.null]))] H := hP
  have hD : va_D A [(a_this, .inr (4, [.ref q1, .null])), (q1, .inr (6, [.ref (u2 0)])), ((u2 0), .inl (cI, 5, .inl (fun _ => 0))), (q3, .inr (6, [.null]))] := hD
  refine W.widen (k := 3) (n := 7) (Nat.le_refl _) (Nat.le_refl _) ?_
  refine lv_dup hx hb dX4_init_20 rfl ?_
  refine lv_iconst (v := (5 : Int32)) hx hb dX4_init_21 (by decide) ?_
  refine wk_newI (S := Nat → Nat) C (c_X6_init l D cB cI cJ q3 5 (5 : Int32) rfl (by decide)) (cwI 1 hts gX4_init_X6_init rfl rfl rfl (hts (.initialized RX6) (List.mem_of_getElem? (i := 6) rfl)) (hts (.methodLink RX4 11 yX6_init) (List.mem_of_getElem? (i := 9) rfl)) (hts (.instanceMethod yX6_init) (List.mem_of_getElem? (i := 10) rfl)) rfl hd_X6_init.2 ⟨Nat.le_of_ble_eq_true rfl, Nat.le_of_ble_eq_true rfl⟩) hP hD hS hl.1 ⟨Nat.le_of_ble_eq_true rfl, Nat.le_of_ble_eq_true rfl⟩ [3] [0, 1, 2] rfl rfl rfl rfl (by decide) rfl rfl (Nat.le_of_ble_eq_true rfl) dX4_init_22 (fun u4 H locs hP hD hS => ?_)
  have hP : va_P D vwCl [(a_this, .inr (4, [.ref q1, .null])), (q1, .inr (6, [.ref (u2 0)])), ((u2 0), .inl (cI, 5, .inl (fun _ => 0))), (q3, .inr (6, [.ref (u4 0)])), ((u4 0), .inl (cI, 5, .inl (fun _ => 0)))] H := hP
  have hD : va_D A [(a_this, .inr (4, [.ref q1, .null])), (q1, .inr (6, [.ref (u2 0)])), ((u2 0), .inl (cI, 5, .inl (fun _ => 0))), (q3, .inr (6, [.ref (u4 0)])), ((u4 0), .inl (cI, 5, .inl (fun _ => 0)))] := hD
  refine W.widen (k := 4) (n := 12) (Nat.le_refl _) (Nat.le_refl _) ?_
  refine va_putF (D := D) (ci := 4) (v := .ref q3) (ty := (.object "HangingCards$Row")) (C := RX4) (T := TX4) (N := 2) hx hb hts in_X4_init_X4 tyX4 tyX4_ok nmX4 hown hK hP hD hS 0 rfl rfl 1 (by decide) (hts (.fieldLink RX4 20 "HangingCards$Reading" "dimples" "LHangingCards$Row;") (List.mem_of_getElem? (i := 8) rfl)) (fun _ h9 => h9) rfl hin rfl (by decide +kernel) rfl rfl (Nat.le_of_ble_eq_true rfl) dX4_init_25 (fun H locs hP hD hS => ?_)
  have hP : va_P D vwCl [(a_this, .inr (4, [.ref q1, .ref q3])), (q1, .inr (6, [.ref (u2 0)])), ((u2 0), .inl (cI, 5, .inl (fun _ => 0))), (q3, .inr (6, [.ref (u4 0)])), ((u4 0), .inl (cI, 5, .inl (fun _ => 0)))] H := hP
  have hD : va_D A [(a_this, .inr (4, [.ref q1, .ref q3])), (q1, .inr (6, [.ref (u2 0)])), ((u2 0), .inl (cI, 5, .inl (fun _ => 0))), (q3, .inr (6, [.ref (u4 0)])), ((u4 0), .inl (cI, 5, .inl (fun _ => 0)))] := hD
  exact hret (fun i => ([q1, (u2 0), q3, (u4 0)] : List Nat).getD i 0) _ _ _ _ dX4_init_28 hP hD hS
