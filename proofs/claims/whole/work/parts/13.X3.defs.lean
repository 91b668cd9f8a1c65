-- X3_size
def f_X3_size (N : Nat) (v_size : Int32) : Option Int32 :=
  some v_size
-- X3_countyOf
def f_X3_countyOf (N : Nat) (v_counties : Nat → Int32) (x1 : Int32) : Option Int32 :=
  wk_b1 (f_X6_get N 40 v_counties x1) (fun (r1 : Int32) => some r1)
-- X3_dimplesOf
def B_X3_dimplesOf_7 (N : Nat) (v_states : Nat → Int32) (k7 : Int32 → Int32 → Int32 → Option Int32) (x1 : Int32) (x2 : Int32) (x3 : Int32) : Option Int32 :=
  if ((x1 + (1 : Int32)) * (12 : Int32)) ≤ x3 then (some x2) else (wk_b1 (f_X6_get N 480 v_states x3) (fun (r2 : Int32) => if r2 = (1 : Int32) then (wk_nm (x2 + (1 : Int32)) (fun y5 : Int32 => wk_nm (x3 + (1 : Int32)) (fun y6 : Int32 => k7 x1 y5 y6))) else (wk_nm (x3 + (1 : Int32)) (fun y4 : Int32 => k7 x1 x2 y4))))
def f_X3_dimplesOf (N : Nat) (v_states : Nat → Int32) (x1 : Int32) : Option Int32 :=
  wk_nm (x1 * (12 : Int32)) (fun y7 : Int32 => wk_loop (fun k7 : Int32 → Int32 → Int32 → Option Int32 => B_X3_dimplesOf_7 N v_states k7) (fun _ _ _ => none) N x1 (0 : Int32) y7)
-- X3_state
def f_X3_state (N : Nat) (v_states : Nat → Int32) (x1 : Int32) (x2 : Int32) (x3 : Int32) : Option Int32 :=
  wk_b1 (f_X6_get N 480 v_states (((x1 * (12 : Int32)) + (x2 * (4 : Int32))) + x3)) (fun (r1 : Int32) => some r1)
-- X3_has
def f_X3_has (N : Nat) (v_size : Int32) (x1 : Int32) : Option Bool :=
  if x1 < 0 then (some false) else (if v_size ≤ x1 then (some false) else (some true))
-- X3_add
def B_X3_add_19 (N : Nat) (k19 : Int32 → (Nat → Int32) → (Nat → Int32) → Int32 → Int64 → Int32 → Option (Int32 × Int32 × (Nat → Int32) × (Nat → Int32))) (v_size : Int32) (v_counties : Nat → Int32) (v_states : Nat → Int32) (x1 : Int32) (x4 : Int64) (x6 : Int32) : Option (Int32 × Int32 × (Nat → Int32) × (Nat → Int32)) :=
  if x6 < 0 then (wk_b1 (f_X6_set N 40 v_counties v_size x1) (fun (o2_0 : Nat → Int32) => some (((v_size + (1 : Int32)) - (1 : Int32)), (v_size + (1 : Int32)), o2_0, v_states))) else (wk_dvl (6 : Int64) (wk_b1 (f_X6_set N 480 v_states ((v_size * (12 : Int32)) + x6) ((x4 - x4 / (6 : Int64) * (6 : Int64)).toInt32)) (fun (o4_0 : Nat → Int32) => wk_dvl (6 : Int64) (wk_nm (x4 / (6 : Int64)) (fun y6 : Int64 => wk_nm (x6 + (-1 : Int32)) (fun y7 : Int32 => k19 v_size v_counties o4_0 x1 y6 y7))))))
def f_X3_add (N : Nat) (v_size : Int32) (v_counties : Nat → Int32) (v_states : Nat → Int32) (x1 : Int32) (x2 : Int64) : Option (Int32 × Int32 × (Nat → Int32) × (Nat → Int32)) :=
  if v_size < (40 : Int32) then (wk_loop (fun k19 : Int32 → (Nat → Int32) → (Nat → Int32) → Int32 → Int64 → Int32 → Option (Int32 × Int32 × (Nat → Int32) × (Nat → Int32)) => B_X3_add_19 N k19) (fun _ _ _ _ _ _ => none) N v_size v_counties v_states x1 x2 (11 : Int32)) else (some ((-3 : Int32), v_size, v_counties, v_states))
-- X3_open
def B_X3_open_8 (N : Nat) (k8 : (Nat → Int32) → Int32 → Int32 → Int32 → Int32 → Option (Int32 × (Nat → Int32))) (v_states : Nat → Int32) (x1 : Int32) (x2 : Int32) (x3 : Int32) (x4 : Int32) : Option (Int32 × (Nat → Int32)) :=
  if ((x1 + (1 : Int32)) * (12 : Int32)) ≤ x4 then (some (x3, v_states)) else (wk_b1 (f_X6_get N 480 v_states x4) (fun (r2 : Int32) => if r2 < (if (1 : Int32) < ((5 : Int32) - x2) then ((5 : Int32) - x2) else (1 : Int32)) then (wk_nm (x4 + (1 : Int32)) (fun y4 : Int32 => k8 v_states x1 x2 x3 y4)) else (if (5 : Int32) ≤ r2 then (wk_nm (x4 + (1 : Int32)) (fun y6 : Int32 => k8 v_states x1 x2 x3 y6)) else (wk_b1 (f_X6_set N 480 v_states x4 (r2 + (1 : Int32))) (fun (o7_0 : Nat → Int32) => wk_nm (x3 + (1 : Int32)) (fun y8 : Int32 => wk_nm (x4 + (1 : Int32)) (fun y9 : Int32 => k8 o7_0 x1 x2 y8 y9)))))))
def f_X3_open (N : Nat) (v_states : Nat → Int32) (x1 : Int32) (x2 : Int32) : Option (Int32 × (Nat → Int32)) :=
  wk_nm (x1 * (12 : Int32)) (fun y10 : Int32 => wk_loop (fun k8 : (Nat → Int32) → Int32 → Int32 → Int32 → Int32 → Option (Int32 × (Nat → Int32)) => B_X3_open_8 N k8) (fun _ _ _ _ _ => none) N v_states x1 x2 (0 : Int32) y10)
-- X3_notWhole
def B_X3_notWhole_4 (N : Nat) (v_size : Int32) (v_states : Nat → Int32) (k4 : Int32 → Int32 → Option Int32) (x1 : Int32) (x2 : Int32) : Option Int32 :=
  if (v_size * (12 : Int32)) ≤ x2 then (some x1) else (wk_b1 (f_X6_get N 480 v_states x2) (fun (r2 : Int32) => if r2 ≤ 0 then (wk_nm (x2 + (1 : Int32)) (fun y4 : Int32 => k4 x1 y4)) else (wk_nm (x1 + (1 : Int32)) (fun y5 : Int32 => wk_nm (x2 + (1 : Int32)) (fun y6 : Int32 => k4 y5 y6)))))
def f_X3_notWhole (N : Nat) (v_size : Int32) (v_states : Nat → Int32) : Option Int32 :=
  wk_loop (fun k4 : Int32 → Int32 → Option Int32 => B_X3_notWhole_4 N v_size v_states k4) (fun _ _ => none) N (0 : Int32) (0 : Int32)
-- X3_bitsFrom
def B_X3_bitsFrom_6 (N : Nat) (v_states : Nat → Int32) (k6 : Int32 → Int32 → Int32 → Int32 → Int32 → Option Int32) (x1 : Int32) (x2 : Int32) (x3 : Int32) (x4 : Int32) (x5 : Int32) : Option Int32 :=
  if (4 : Int32) ≤ x5 then (some x4) else (wk_b1 (f_X3_state N v_states x1 x2 x5) (fun (r2 : Int32) => if r2 < x3 then (wk_nm (x5 + (1 : Int32)) (fun y4 : Int32 => k6 x1 x2 x3 x4 y4)) else (wk_nm (x4 ||| ((1 : Int32) <<< (x5 &&& 31))) (fun y5 : Int32 => wk_nm (x5 + (1 : Int32)) (fun y6 : Int32 => k6 x1 x2 x3 y5 y6)))))
def f_X3_bitsFrom (N : Nat) (v_states : Nat → Int32) (x1 : Int32) (x2 : Int32) (x3 : Int32) : Option Int32 :=
  wk_loop (fun k6 : Int32 → Int32 → Int32 → Int32 → Int32 → Option Int32 => B_X3_bitsFrom_6 N v_states k6) (fun _ _ _ _ _ => none) N x1 x2 x3 (0 : Int32) (0 : Int32)
-- X3_goneAlone
def B_X3_goneAlone_32 (N : Nat) (v_states : Nat → Int32) (x3 : Int32) (s0 : Int32) : Option Int32 :=
  if s0 = 0 then (some (0 : Int32)) else (some x3)
def f_X3_goneAlone (N : Nat) (v_states : Nat → Int32) (x1 : Int32) (x2 : Int32) : Option Int32 :=
  wk_b1 (f_X3_bitsFrom N v_states x1 x2 (5 : Int32)) (fun (r2 : Int32) => wk_b1 (f_J6_bitCount_0f7a4 N r2) (fun (r3 : Int32) => if r3 = (1 : Int32) then (wk_b1 (f_X3_bitsFrom N v_states x1 x2 (1 : Int32)) (fun (r5 : Int32) => if r5 = r2 then (B_X3_goneAlone_32 N v_states r2 (1 : Int32)) else (B_X3_goneAlone_32 N v_states r2 (0 : Int32)))) else (B_X3_goneAlone_32 N v_states r2 (0 : Int32))))
-- X3_meantElsewhere
def B_X3_meantElsewhere_6 (N : Nat) (v_states : Nat → Int32) (k6 : Int32 → Int32 → Int32 → Int32 → Option Int32) (x1 : Int32) (x2 : Int32) (x3 : Int32) (x4 : Int32) : Option Int32 :=
  if (3 : Int32) ≤ x4 then (some x3) else (if x4 = x2 then (wk_nm (x4 + (1 : Int32)) (fun y3 : Int32 => k6 x1 x2 x3 y3)) else (wk_b1 (f_X3_goneAlone N v_states x1 x4) (fun (r4 : Int32) => wk_nm (x3 &&& r4) (fun y5 : Int32 => wk_nm (x4 + (1 : Int32)) (fun y6 : Int32 => k6 x1 x2 y5 y6)))))
def f_X3_meantElsewhere (N : Nat) (v_states : Nat → Int32) (x1 : Int32) (x2 : Int32) : Option Int32 :=
  wk_loop (fun k6 : Int32 → Int32 → Int32 → Int32 → Option Int32 => B_X3_meantElsewhere_6 N v_states k6) (fun _ _ _ _ => none) N x1 x2 (15 : Int32) (0 : Int32)
-- X3_meantBits
def f_X3_meantBits (N : Nat) (v_states : Nat → Int32) (x1 : Int32) (x2 : Int32) : Option Int32 :=
  wk_b1 (f_X3_bitsFrom N v_states x1 x2 (5 : Int32)) (fun (r1 : Int32) => if r1 = 0 then (wk_b1 (f_X3_bitsFrom N v_states x1 x2 (1 : Int32)) (fun (r3 : Int32) => if r3 = 0 then (wk_b1 (f_X3_meantElsewhere N v_states x1 x2) (fun (r5 : Int32) => some r5)) else (some r3))) else (some r1))
-- X3_copy
def f_X3_copy (N : Nat) (v_p1_size : Int32) (v_p1_counties : Nat → Int32) (v_p1_states : Nat → Int32) (v_size : Int32) (v_counties : Nat → Int32) (v_states : Nat → Int32) : Option (Int32 × (Nat → Int32) × (Nat → Int32)) :=
  wk_b1 (f_X6_copy N 40 40 v_p1_counties v_counties) (fun (o1_0 : Nat → Int32) => wk_b1 (f_X6_copy N 480 480 v_p1_states v_states) (fun (o2_0 : Nat → Int32) => some (v_p1_size, o1_0, o2_0)))
