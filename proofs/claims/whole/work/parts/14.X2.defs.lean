-- X2_size
def f_X2_size (N : Nat) (v_size : Int32) : Option Int32 :=
  some v_size
-- X2_has
def f_X2_has (N : Nat) (v_size : Int32) (x1 : Int32) : Option Bool :=
  if x1 < 0 then (some false) else (if v_size ≤ x1 then (some false) else (some true))
-- X2_dayOf
def f_X2_dayOf (N : Nat) (n_days : Nat) (v_days : Nat → Int32) (x1 : Int32) : Option Int32 :=
  wk_b1 (f_X6_get N n_days v_days x1) (fun (r1 : Int32) => some r1)
-- X2_isOf
def f_X2_isOf (N : Nat) (n_counties : Nat) (v_counties : Nat → Int32) (x1 : Int32) (x2 : Int32) : Option Bool :=
  if x2 = (5 : Int32) then (some true) else (wk_b1 (f_X6_get N n_counties v_counties x1) (fun (r2 : Int32) => if r2 = x2 then (some true) else (some false)))
-- X2_add
def B_X2_add_17 (N : Nat) (n_counties : Nat) (n_days : Nat) (n_letters : Nat) (v_limit : Int32) (k17 : Int32 → (Nat → Int32) → (Nat → Int32) → (Nat → Int32) → Int64 → Int32 → Int32 → Int32 → Option (Int32 × Int32 × (Nat → Int32) × (Nat → Int32) × (Nat → Int32))) (v_size : Int32) (v_counties : Nat → Int32) (v_days : Nat → Int32) (v_letters : Nat → Int32) (x1 : Int64) (x3 : Int32) (x4 : Int32) (x5 : Int32) : Option (Int32 × Int32 × (Nat → Int32) × (Nat → Int32) × (Nat → Int32)) :=
  if (8 : Int32) ≤ x5 then (wk_b1 (f_X6_set N n_days v_days v_size x3) (fun (o2_0 : Nat → Int32) => wk_b1 (f_X6_set N n_counties v_counties v_size x4) (fun (o3_0 : Nat → Int32) => some (((v_size + (1 : Int32)) - (1 : Int32)), (v_size + (1 : Int32)), o3_0, o2_0, v_letters)))) else (wk_b1 (f_X10_letterAt N x1 x5) (fun (r4 : Int32) => wk_b1 (f_X6_set N n_letters v_letters ((v_size * (8 : Int32)) + x5) r4) (fun (o5_0 : Nat → Int32) => wk_nm (x5 + (1 : Int32)) (fun y6 : Int32 => k17 v_size v_counties v_days o5_0 x1 x3 x4 y6))))
def f_X2_add (N : Nat) (n_counties : Nat) (n_days : Nat) (n_letters : Nat) (v_limit : Int32) (v_size : Int32) (v_counties : Nat → Int32) (v_days : Nat → Int32) (v_letters : Nat → Int32) (x1 : Int64) (x3 : Int32) (x4 : Int32) : Option (Int32 × Int32 × (Nat → Int32) × (Nat → Int32) × (Nat → Int32)) :=
  if v_size < v_limit then (wk_loop (fun k17 : Int32 → (Nat → Int32) → (Nat → Int32) → (Nat → Int32) → Int64 → Int32 → Int32 → Int32 → Option (Int32 × Int32 × (Nat → Int32) × (Nat → Int32) × (Nat → Int32)) => B_X2_add_17 N n_counties n_days n_letters v_limit k17) (fun _ _ _ _ _ _ _ _ => none) N v_size v_counties v_days v_letters x1 x3 x4 (0 : Int32)) else (some ((-3 : Int32), v_size, v_counties, v_days, v_letters))
-- X2_letter
def f_X2_letter (N : Nat) (n_letters : Nat) (v_letters : Nat → Int32) (x1 : Int32) (x2 : Int32) : Option Int32 :=
  wk_b1 (f_X6_get N n_letters v_letters ((x1 * (8 : Int32)) + x2)) (fun (r1 : Int32) => some r1)
-- X2_nameLength
def B_X2_nameLength_4 (N : Nat) (n_letters : Nat) (v_letters : Nat → Int32) (k4 : Int32 → Int32 → Int32 → Option Int32) (x1 : Int32) (x2 : Int32) (x3 : Int32) : Option Int32 :=
  if (8 : Int32) ≤ x3 then (some x2) else (wk_b1 (f_X2_letter N n_letters v_letters x1 x3) (fun (r2 : Int32) => if r2 = 0 then (wk_nm (x3 + (1 : Int32)) (fun y4 : Int32 => k4 x1 x2 y4)) else (wk_nm (x2 + (1 : Int32)) (fun y5 : Int32 => wk_nm (x3 + (1 : Int32)) (fun y6 : Int32 => k4 x1 y5 y6)))))
def f_X2_nameLength (N : Nat) (n_letters : Nat) (v_letters : Nat → Int32) (x1 : Int32) : Option Int32 :=
  wk_loop (fun k4 : Int32 → Int32 → Int32 → Option Int32 => B_X2_nameLength_4 N n_letters v_letters k4) (fun _ _ _ => none) N x1 (0 : Int32) (0 : Int32)
