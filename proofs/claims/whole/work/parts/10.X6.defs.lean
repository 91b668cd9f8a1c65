-- X6_fill
def B_X6_fill_2 (N : Nat) (n_cells : Nat) (k2 : (Nat → Int32) → Int32 → Int32 → Option (Nat → Int32)) (v_cells : Nat → Int32) (x1 : Int32) (x2 : Int32) : Option (Nat → Int32) :=
  if (nI n_cells) ≤ x2 then (some v_cells) else (wk_ck x2 n_cells (wk_nm (x2 + (1 : Int32)) (fun y3 : Int32 => k2 (upd v_cells x2.toNatClampNeg x1) x1 y3)))
def f_X6_fill (N : Nat) (n_cells : Nat) (v_cells : Nat → Int32) (x1 : Int32) : Option (Nat → Int32) :=
  wk_loop (fun k2 : (Nat → Int32) → Int32 → Int32 → Option (Nat → Int32) => B_X6_fill_2 N n_cells k2) (fun _ _ _ => none) N v_cells x1 (0 : Int32)
-- X6_get
def f_X6_get (N : Nat) (n_cells : Nat) (v_cells : Nat → Int32) (x1 : Int32) : Option Int32 :=
  if x1 < 0 then (some (0 : Int32)) else (if (nI n_cells) ≤ x1 then (some (0 : Int32)) else (wk_ck x1 n_cells (some (v_cells x1.toNatClampNeg))))
-- X6_set
def f_X6_set (N : Nat) (n_cells : Nat) (v_cells : Nat → Int32) (x1 : Int32) (x2 : Int32) : Option (Nat → Int32) :=
  if x1 < 0 then (some v_cells) else (if (nI n_cells) ≤ x1 then (some v_cells) else (wk_ck x1 n_cells (some (upd v_cells x1.toNatClampNeg x2))))
-- X6_copy
def B_X6_copy_7 (N : Nat) (n_p1_cells : Nat) (n_cells : Nat) (v_p1_cells : Nat → Int32) (k7 : (Nat → Int32) → Int32 → Option (Nat → Int32)) (v_cells : Nat → Int32) (x2 : Int32) : Option (Nat → Int32) :=
  if (nI n_cells) ≤ x2 then (some v_cells) else (wk_b1 (f_X6_get N n_p1_cells v_p1_cells x2) (fun (r2 : Int32) => wk_ck x2 n_cells (wk_nm (x2 + (1 : Int32)) (fun y4 : Int32 => k7 (upd v_cells x2.toNatClampNeg r2) y4))))
def f_X6_copy (N : Nat) (n_p1_cells : Nat) (n_cells : Nat) (v_p1_cells : Nat → Int32) (v_cells : Nat → Int32) : Option (Nat → Int32) :=
  wk_loop (fun k7 : (Nat → Int32) → Int32 → Option (Nat → Int32) => B_X6_copy_7 N n_p1_cells n_cells v_p1_cells k7) (fun _ _ => none) N v_cells (0 : Int32)
-- X6_add
def f_X6_add (N : Nat) (n_cells : Nat) (v_cells : Nat → Int32) (x1 : Int32) (x2 : Int32) : Option (Nat → Int32) :=
  wk_b1 (f_X6_get N n_cells v_cells x1) (fun (r1 : Int32) => wk_b1 (f_X6_set N n_cells v_cells x1 (r1 + x2)) (fun (o2_0 : Nat → Int32) => some o2_0))
