theorem hd_X6_init : yX6_init.cls = RX6 ∧ yX6_init.cls ≠ "java/lang/invoke/MethodHandle" ∧ yX6_init.cls ≠ "java/lang/invoke/VarHandle" ∧ (parseMethodDescriptor yX6_init.desc).map (fun d => d.parameters.length) = some 1 := by decide +kernel
theorem in_X6_init_X6 : ∀ w ∈ wsX60, w ∈ wsX6_init := fun w h => List.mem_cons_of_mem _ (List.mem_append_right _ h)
abbrev rm_X6_init (n : Nat) : Room := { frames := 1, cells := 1, slots := n, locals := 25 }
set_option maxHeartbeats 8000000 in
set_option maxRecDepth 100000 in
theorem c_X6_init (l : Launch) (D : va_G) (cB cI cJ : ClassId) (a_this n : Nat) (x : Int32) (hxn : x = nI n) (hn : n ≤ 1000) : MTn l yX6_init wsX6_init (rm_X6_init n) D (wk_T cB cI cJ) [.ref a_this, .int x] [(a_this, .inr (6, [.null]))] (fun u : Nat → Nat => [(a_this, .inr (6, [.ref (u 0)])), (u 0, .inl (cI, n, .inl (fun _ => 0)))]) 1 n := by
  subst hxn
  refine MTn.of (cc := cX6_init) (nL := 2) (own := RX6) pn_X6 rfl rfl rfl (Nat.le_of_ble_eq_true rfl) ?_
  intro p e s m args below meth c A ls Q C hin hP hD hS hl hret
  obtain ⟨hx, hb, hml, hts, hown, hK, hN, hA, hlk⟩ := id C
  have hl : lv_has ls 2 [(0, .ref a_this), (1, .int (nI n))] := hl
  have hp : 0 ≤ nI n := nI_pos' (by omega)
  refine lv_aload_n hx hb dX6_init_0 rfl (lv_at hl 0 rfl) ?_
  refine W.objInit hx hb hown (hts (.methodLink RX6 1 objectInit) (List.mem_of_getElem? (i := 1) rfl)) (hts (.instanceMethod objectInit) (List.mem_of_getElem? (i := 2) rfl)) (hts (.code objectInit ⟨#[0xb1]⟩ 1 none) (List.mem_of_getElem? (i := 3) rfl)) rfl (by rw [hml]; exact hl.1) rfl dX6_init_1 (Nat.le_refl _) (Nat.le_of_ble_eq_true rfl) ?_
  refine W.eq (g2 := F0 m 4 ls []) rfl ?_
  refine lv_aload_n hx hb dX6_init_4 rfl (lv_at hl 0 rfl) ?_
  refine lv_iload_n hx hb dX6_init_5 rfl (lv_at hl 1 rfl) ?_
  refine lv_if_ge (tgt := 13) hx hb dX6_init_6 (by decide) (fun c1 => ?_) (fun c1 => absurd hp c1)
  refine lv_iload_n hx hb dX6_init_13 rfl (lv_at hl 1 rfl) ?_
  refine wk_newarr (atype := .int) (ty := .int) (cA := cI) (a0 := (n, .inl (fun _ => 0))) (N' := n) C (hts (.arrayClass .int) (List.mem_of_getElem? (i := 4) rfl)) rfl (fun _ _ h => h) hP hD hS 0 rfl (fun _ => rfl) (nI_pos (by omega)) (nI_clamp (by omega)) (by show n * 4 ≤ _; omega) (Nat.le_refl _) (by show 0 + n ≤ n; omega) dX6_init_14 (fun q H hP hD hS => ?_)
  have hP : va_P D vwCl [(a_this, .inr (6, [.null])), (q, .inl (cI, n, .inl (fun _ => 0)))] H := hP
  have hD : va_D A [(a_this, .inr (6, [.null])), (q, .inl (cI, n, .inl (fun _ => 0)))] := hD
  refine W.widen (k := 1) (n := n) (Nat.le_refl _) (by omega) ?_
  refine va_putF (D := D) (ci := 6) (v := .ref q) (ty := .array .int) (C := RX6) (T := TX6) (N := 1) hx hb hts in_X6_init_X6 tyX6 tyX6_ok nmX6 hown hK hP hD hS 0 rfl rfl 0 (by decide) (hts (.fieldLink RX6 7 "HangingCards$Row" "cells" "[I") (List.mem_of_getElem? (i := 5) rfl)) (fun _ h9 => h9) rfl hin rfl (by decide +kernel) rfl rfl (Nat.le_of_ble_eq_true rfl) dX6_init_16 (fun H locs hP hD hS => ?_)
  have hP : va_P D vwCl [(a_this, .inr (6, [.ref q])), (q, .inl (cI, n, .inl (fun _ => 0)))] H := hP
  have hD : va_D A [(a_this, .inr (6, [.ref q])), (q, .inl (cI, n, .inl (fun _ => 0)))] := hD
  exact hret (fun _ => q) _ _ _ _ dX6_init_19 hP hD hS
def wk_fillv (v : Nat → Int32) (x : Int32) : Nat → (Nat → Int32) | 0 => v | k + 1 => upd (wk_fillv v x k) (nI k).toNatClampNeg x
theorem wk_fill_loop (N n : Nat) (hn : n ≤ 1000) (v : Nat → Int32) (x : Int32) : ∀ (r fuel i : Nat), i + r = n → r < fuel → wk_loop (fun k2 : (Nat → Int32) → Int32 → Int32 → Option (Nat → Int32) => B_X6_fill_2 N n k2) (fun _ _ _ => none) fuel (wk_fillv v x i) x (nI i) = some (wk_fillv v x n) := by
  intro r
  induction r with
  | zero =>
    intro fuel i h1 h2
    obtain ⟨f, rfl⟩ : ∃ f, fuel = f + 1 := ⟨fuel - 1, by omega⟩
    have e : i = n := by omega
    subst e
    show B_X6_fill_2 N i _ _ _ _ = _
    unfold B_X6_fill_2
    rw [if_pos (nI_le (Nat.le_refl i) (by omega))]
  | succ r ih =>
    intro fuel i h1 h2
    obtain ⟨f, rfl⟩ : ∃ f, fuel = f + 1 := ⟨fuel - 1, by omega⟩
    show B_X6_fill_2 N n _ _ _ _ = _
    unfold B_X6_fill_2
    rw [if_neg (nI_ge (by omega) (by omega)), wk_ck, if_neg (nI_in (by omega) (by omega))]
    have e := ih f (i + 1) (by omega) (by omega)
    rw [← nI_1] at e
    exact e
theorem wk_fill (N n : Nat) (hn : n ≤ 1000) (hN : n < N) (v : Nat → Int32) (x : Int32) : f_X6_fill N n v x = some (wk_fillv v x n) := by
  unfold f_X6_fill
  exact wk_fill_loop N n hn v x n N 0 (by omega) hN
