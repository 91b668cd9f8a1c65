-- X9_length
def f_X9_length (N : Nat) (v_length : Int32) : Option Int32 :=
  some v_length
-- X9_byteAt
def f_X9_byteAt (N : Nat) (v_length : Int32) (v_bytes : Nat → Int32) (x1 : Int32) : Option Int32 :=
  if v_length ≤ x1 then (some (-1 : Int32)) else (wk_b1 (f_X6_get N 200 v_bytes x1) (fun (r2 : Int32) => some r2))
-- X9_kindOf
def f_X9_kindOf (N : Nat) (x0 : Int32) : Option Int32 :=
  if x0 = (100 : Int32) then (some (1 : Int32)) else if x0 = (109 : Int32) then (some (2 : Int32)) else if x0 = (111 : Int32) then (some (3 : Int32)) else if x0 = (118 : Int32) then (some (0 : Int32)) else (some (-4 : Int32))
-- X9_numbersOf
def f_X9_numbersOf (N : Nat) (x0 : Int32) : Option Int32 :=
  if x0 = (0 : Int32) then (some (3 : Int32)) else if x0 = (1 : Int32) then (some (3 : Int32)) else if x0 = (2 : Int32) then (some (2 : Int32)) else if x0 = (3 : Int32) then (some (4 : Int32)) else (some (0 : Int32))
-- X9_isFigure
def f_X9_isFigure (N : Nat) (x0 : Int32) : Option Bool :=
  if x0 < (48 : Int32) then (some false) else (if (57 : Int32) < x0 then (some false) else (some true))
-- X9_readNumber
def B_X9_readNumber_47 (N : Nat) (v_length : Int32) (v_bytes : Nat → Int32) (v_numbers : Nat → Int32) (x2 : Int32) (x3 : Int32) (x4 : Int32) : Option (Int32 × (Nat → Int32)) :=
  wk_b1 (f_X6_set N 4 v_numbers x2 x4) (fun (o1_0 : Nat → Int32) => some (x3, o1_0))
def B_X9_readNumber_5 (N : Nat) (v_length : Int32) (v_bytes : Nat → Int32) (k5 : (Nat → Int32) → Int32 → Int32 → Int32 → Int32 → Option (Int32 × (Nat → Int32))) (v_numbers : Nat → Int32) (x1 : Int32) (x2 : Int32) (x3 : Int32) (x4 : Int32) : Option (Int32 × (Nat → Int32)) :=
  if (3 : Int32) ≤ x3 then (B_X9_readNumber_47 N v_length v_bytes v_numbers x2 x3 x4) else (wk_b1 (f_X9_byteAt N v_length v_bytes (x1 + x3)) (fun (r3 : Int32) => wk_b1 (f_X9_isFigure N r3) (fun (r4 : Bool) => if (wk_bI r4) = 0 then (B_X9_readNumber_47 N v_length v_bytes v_numbers x2 x3 x4) else (wk_b1 (f_X9_byteAt N v_length v_bytes (x1 + x3)) (fun (r6 : Int32) => wk_nm (((x4 * (10 : Int32)) + r6) - (48 : Int32)) (fun y7 : Int32 => wk_nm (x3 + (1 : Int32)) (fun y8 : Int32 => k5 v_numbers x1 x2 y8 y7)))))))
def f_X9_readNumber (N : Nat) (v_length : Int32) (v_bytes : Nat → Int32) (v_numbers : Nat → Int32) (x1 : Int32) (x2 : Int32) : Option (Int32 × (Nat → Int32)) :=
  wk_loop (fun k5 : (Nat → Int32) → Int32 → Int32 → Int32 → Int32 → Option (Int32 × (Nat → Int32)) => B_X9_readNumber_5 N v_length v_bytes k5) (fun _ _ _ _ _ => none) N v_numbers x1 x2 (0 : Int32) (0 : Int32)
-- X9_tellNumbers
def B_X9_tellNumbers_90 (N : Nat) (v_kind : Int32) (v_numbers : Nat → Int32) (v_county : Int32) (v_rank : Int32) (v_value : Int32) (v_hour : Int32) (s2 : Int32) : Option (Int32 × Int32 × Int32 × Int32) :=
  wk_b1 (f_X6_get N 4 v_numbers s2) (fun (r1 : Int32) => wk_b1 (f_X9_numbersOf N v_kind) (fun (r2 : Int32) => wk_b1 (f_X6_get N 4 v_numbers (r2 - (1 : Int32))) (fun (r3 : Int32) => some (v_county, v_rank, r1, r3))))
def B_X9_tellNumbers_65 (N : Nat) (v_kind : Int32) (v_numbers : Nat → Int32) (v_county : Int32) (v_rank : Int32) (v_value : Int32) (v_hour : Int32) (x1 : Int32) (x2 : Int32) (s1 : Int32) : Option (Int32 × Int32 × Int32 × Int32) :=
  if x1 = 0 then (if x2 = 0 then (B_X9_tellNumbers_90 N v_kind v_numbers v_county s1 v_value v_hour (1 : Int32)) else (B_X9_tellNumbers_90 N v_kind v_numbers v_county s1 v_value v_hour (2 : Int32))) else (B_X9_tellNumbers_90 N v_kind v_numbers v_county s1 v_value v_hour (0 : Int32))
def B_X9_tellNumbers_45 (N : Nat) (v_kind : Int32) (v_numbers : Nat → Int32) (v_county : Int32) (v_rank : Int32) (v_value : Int32) (v_hour : Int32) (x1 : Int32) (x2 : Int32) (s1 : Int32) : Option (Int32 × Int32 × Int32 × Int32) :=
  if x2 = 0 then (B_X9_tellNumbers_65 N v_kind v_numbers s1 v_rank v_value v_hour x1 x2 (0 : Int32)) else (wk_b1 (f_X6_get N 4 v_numbers (1 : Int32)) (fun (r7 : Int32) => B_X9_tellNumbers_65 N v_kind v_numbers s1 v_rank v_value v_hour x1 x2 r7))
def B_X9_tellNumbers_27 (N : Nat) (v_kind : Int32) (v_numbers : Nat → Int32) (v_county : Int32) (v_rank : Int32) (v_value : Int32) (v_hour : Int32) (x1 : Int32) (s0 : Int32) : Option (Int32 × Int32 × Int32 × Int32) :=
  if x1 = 0 then (wk_b1 (f_X6_get N 4 v_numbers (0 : Int32)) (fun (r9 : Int32) => B_X9_tellNumbers_45 N v_kind v_numbers v_county v_rank v_value v_hour x1 s0 r9)) else (B_X9_tellNumbers_45 N v_kind v_numbers v_county v_rank v_value v_hour x1 s0 (5 : Int32))
def B_X9_tellNumbers_13 (N : Nat) (v_kind : Int32) (v_numbers : Nat → Int32) (v_county : Int32) (v_rank : Int32) (v_value : Int32) (v_hour : Int32) (s0 : Int32) : Option (Int32 × Int32 × Int32 × Int32) :=
  if v_kind = (3 : Int32) then (B_X9_tellNumbers_27 N v_kind v_numbers v_county v_rank v_value v_hour s0 (1 : Int32)) else (B_X9_tellNumbers_27 N v_kind v_numbers v_county v_rank v_value v_hour s0 (0 : Int32))
def f_X9_tellNumbers (N : Nat) (v_kind : Int32) (v_numbers : Nat → Int32) (v_county : Int32) (v_rank : Int32) (v_value : Int32) (v_hour : Int32) : Option (Int32 × Int32 × Int32 × Int32) :=
  if v_kind = (2 : Int32) then (B_X9_tellNumbers_13 N v_kind v_numbers v_county v_rank v_value v_hour (1 : Int32)) else (B_X9_tellNumbers_13 N v_kind v_numbers v_county v_rank v_value v_hour (0 : Int32))
-- X9_lowest
def f_X9_lowest (N : Nat) (x0 : Int32) : Option Int32 :=
  if x0 = (0 : Int32) then (some (1 : Int32)) else if x0 = (2 : Int32) then (some (2 : Int32)) else (some (0 : Int32))
-- X9_highest
def f_X9_highest (N : Nat) (x0 : Int32) : Option Int32 :=
  if x0 = (1 : Int32) then (some (12 : Int32)) else if x0 = (3 : Int32) then (some (1 : Int32)) else (some (5 : Int32))
-- X9_isTold
def f_X9_isTold (N : Nat) (v_kind : Int32) (v_county : Int32) (v_rank : Int32) (v_value : Int32) (v_hour : Int32) : Option Bool :=
  wk_b1 (f_X10_isCountyOrAll N v_county) (fun (r1 : Bool) => if (wk_bI r1) = 0 then (some false) else (if (4 : Int32) ≤ v_rank then (some false) else (wk_b1 (f_X10_isHour N v_hour) (fun (r4 : Bool) => if (wk_bI r4) = 0 then (some false) else (wk_b1 (f_X9_lowest N v_kind) (fun (r6 : Int32) => if v_value < r6 then (some false) else (wk_b1 (f_X9_highest N v_kind) (fun (r8 : Int32) => if r8 < v_value then (some false) else (some true)))))))))
-- X9_read
def B_X9_read_68 (N : Nat) (v_length : Int32) (v_bytes : Nat → Int32) (k33 : Int32 → Int32 → Int32 → Int32 → Int32 → Int32 → (Nat → Int32) → Int32 → Int32 → Int32 → Option (Bool × Int32 × Int32 × Int32 × Int32 × Int32 × Int32 × (Nat → Int32))) (v_behind : Int32) (v_kind : Int32) (v_county : Int32) (v_rank : Int32) (v_value : Int32) (v_hour : Int32) (v_numbers : Nat → Int32) (x2 : Int32) (x3 : Int32) (x4 : Int32) (x5 : Int32) (s0 : Int32) : Option (Bool × Int32 × Int32 × Int32 × Int32 × Int32 × Int32 × (Nat → Int32)) :=
  if x5 = 0 then (some (false, v_behind, v_kind, v_county, v_rank, v_value, v_hour, v_numbers)) else (wk_b1 (f_X9_byteAt N v_length v_bytes x3) (fun (r2 : Int32) => if r2 = s0 then (wk_nm (x3 + (1 : Int32)) (fun y4 : Int32 => wk_nm (x4 + (1 : Int32)) (fun y5 : Int32 => k33 v_behind v_kind v_county v_rank v_value v_hour v_numbers x2 y4 y5))) else (some (false, v_behind, v_kind, v_county, v_rank, v_value, v_hour, v_numbers))))
def B_X9_read_33 (N : Nat) (v_length : Int32) (v_bytes : Nat → Int32) (k33 : Int32 → Int32 → Int32 → Int32 → Int32 → Int32 → (Nat → Int32) → Int32 → Int32 → Int32 → Option (Bool × Int32 × Int32 × Int32 × Int32 × Int32 × Int32 × (Nat → Int32))) (v_behind : Int32) (v_kind : Int32) (v_county : Int32) (v_rank : Int32) (v_value : Int32) (v_hour : Int32) (v_numbers : Nat → Int32) (x2 : Int32) (x3 : Int32) (x4 : Int32) : Option (Bool × Int32 × Int32 × Int32 × Int32 × Int32 × Int32 × (Nat → Int32)) :=
  if x2 ≤ x4 then (wk_b4 (f_X9_tellNumbers N v_kind v_numbers v_county v_rank v_value v_hour) (fun (o7_0 : Int32) (o7_1 : Int32) (o7_2 : Int32) (o7_3 : Int32) => wk_b1 (f_X9_isTold N v_kind o7_0 o7_1 o7_2 o7_3) (fun (r8 : Bool) => some (r8, x3, v_kind, o7_0, o7_1, o7_2, o7_3, v_numbers)))) else (wk_b2 (f_X9_readNumber N v_length v_bytes v_numbers x3 x4) (fun (r9 : Int32) (o9_0 : Nat → Int32) => wk_nm (x3 + r9) (fun y10 : Int32 => if x2 ≤ (x4 + (1 : Int32)) then (B_X9_read_68 N v_length v_bytes k33 v_behind v_kind v_county v_rank v_value v_hour o9_0 x2 y10 x4 r9 (59 : Int32)) else (B_X9_read_68 N v_length v_bytes k33 v_behind v_kind v_county v_rank v_value v_hour o9_0 x2 y10 x4 r9 (44 : Int32)))))
def f_X9_read (N : Nat) (v_length : Int32) (v_bytes : Nat → Int32) (v_behind : Int32) (v_kind : Int32) (v_county : Int32) (v_rank : Int32) (v_value : Int32) (v_hour : Int32) (v_numbers : Nat → Int32) (x1 : Int32) : Option (Bool × Int32 × Int32 × Int32 × Int32 × Int32 × Int32 × (Nat → Int32)) :=
  wk_b1 (f_X9_byteAt N v_length v_bytes x1) (fun (r12 : Int32) => wk_b1 (f_X9_kindOf N r12) (fun (r13 : Int32) => wk_b1 (f_X9_numbersOf N r13) (fun (r14 : Int32) => if r14 = 0 then (some (false, v_behind, r13, v_county, v_rank, v_value, v_hour, v_numbers)) else (wk_nm (x1 + (1 : Int32)) (fun y16 : Int32 => wk_loop (fun k33 : Int32 → Int32 → Int32 → Int32 → Int32 → Int32 → (Nat → Int32) → Int32 → Int32 → Int32 → Option (Bool × Int32 × Int32 × Int32 × Int32 × Int32 × Int32 × (Nat → Int32)) => B_X9_read_33 N v_length v_bytes k33) (fun _ _ _ _ _ _ _ _ _ _ => none) N v_behind r13 v_county v_rank v_value v_hour v_numbers r14 y16 (0 : Int32))))))
-- X9_kind
def f_X9_kind (N : Nat) (v_kind : Int32) : Option Int32 :=
  some v_kind
-- X9_county
def f_X9_county (N : Nat) (v_county : Int32) : Option Int32 :=
  some v_county
-- X9_rank
def f_X9_rank (N : Nat) (v_rank : Int32) : Option Int32 :=
  some v_rank
-- X9_value
def f_X9_value (N : Nat) (v_value : Int32) : Option Int32 :=
  some v_value
-- X9_hour
def f_X9_hour (N : Nat) (v_hour : Int32) : Option Int32 :=
  some v_hour
-- X9_behind
def f_X9_behind (N : Nat) (v_behind : Int32) : Option Int32 :=
  some v_behind
-- X9_append
def B_X9_append_20 (N : Nat) (k20 : Int32 → (Nat → Int32) → Int64 → Int32 → Option (Int32 × Int32 × (Nat → Int32))) (v_length : Int32) (v_bytes : Nat → Int32) (x2 : Int64) (x4 : Int32) : Option (Int32 × Int32 × (Nat → Int32)) :=
  if x4 < 0 then (some (v_length, v_length, v_bytes)) else (wk_b1 (f_X6_set N 200 v_bytes v_length ((((x2.toUInt64 >>> (((8 : Int32) * x4).toInt64.toUInt64 &&& Int64.toUInt64 63)).toInt64).toInt32) &&& (255 : Int32))) (fun (o2_0 : Nat → Int32) => wk_nm (x4 + (-1 : Int32)) (fun y3 : Int32 => k20 (v_length + (1 : Int32)) o2_0 x2 y3)))
def f_X9_append (N : Nat) (v_length : Int32) (v_bytes : Nat → Int32) (x1 : Int32) (x2 : Int64) : Option (Int32 × Int32 × (Nat → Int32)) :=
  if (v_length + x1) ≤ (200 : Int32) then (wk_nm (x1 - (1 : Int32)) (fun y5 : Int32 => wk_loop (fun k20 : Int32 → (Nat → Int32) → Int64 → Int32 → Option (Int32 × Int32 × (Nat → Int32)) => B_X9_append_20 N k20) (fun _ _ _ _ => none) N v_length v_bytes x2 y5)) else (some ((-3 : Int32), v_length, v_bytes))
-- X9_clear
def f_X9_clear (N : Nat) (v_length : Int32) : Option (Int32 × Int32) :=
  some (v_length, (0 : Int32))
-- X9_firstFault
def B_X9_firstFault_4 (N : Nat) (v_length : Int32) (v_bytes : Nat → Int32) (k4 : Int32 → Int32 → Int32 → Int32 → Int32 → Int32 → (Nat → Int32) → Int32 → Int32 → Option (Int32 × Int32 × Int32 × Int32 × Int32 × Int32 × Int32 × (Nat → Int32))) (v_behind : Int32) (v_kind : Int32) (v_county : Int32) (v_rank : Int32) (v_value : Int32) (v_hour : Int32) (v_numbers : Nat → Int32) (x1 : Int32) (x2 : Int32) : Option (Int32 × Int32 × Int32 × Int32 × Int32 × Int32 × Int32 × (Nat → Int32)) :=
  if (200 : Int32) ≤ x2 then (some ((-4 : Int32), v_behind, v_kind, v_county, v_rank, v_value, v_hour, v_numbers)) else (if v_length ≤ x1 then (some ((-4 : Int32), v_behind, v_kind, v_county, v_rank, v_value, v_hour, v_numbers)) else (wk_b8 (f_X9_read N v_length v_bytes v_behind v_kind v_county v_rank v_value v_hour v_numbers x1) (fun (r3 : Bool) (o3_0 : Int32) (o3_1 : Int32) (o3_2 : Int32) (o3_3 : Int32) (o3_4 : Int32) (o3_5 : Int32) (o3_6 : Nat → Int32) => if (wk_bI r3) = 0 then (some (x1, o3_0, o3_1, o3_2, o3_3, o3_4, o3_5, o3_6)) else (wk_nm (x2 + (1 : Int32)) (fun y5 : Int32 => k4 o3_0 o3_1 o3_2 o3_3 o3_4 o3_5 o3_6 o3_0 y5)))))
def f_X9_firstFault (N : Nat) (v_length : Int32) (v_bytes : Nat → Int32) (v_behind : Int32) (v_kind : Int32) (v_county : Int32) (v_rank : Int32) (v_value : Int32) (v_hour : Int32) (v_numbers : Nat → Int32) : Option (Int32 × Int32 × Int32 × Int32 × Int32 × Int32 × Int32 × (Nat → Int32)) :=
  wk_loop (fun k4 : Int32 → Int32 → Int32 → Int32 → Int32 → Int32 → (Nat → Int32) → Int32 → Int32 → Option (Int32 × Int32 × Int32 × Int32 × Int32 × Int32 × Int32 × (Nat → Int32)) => B_X9_firstFault_4 N v_length v_bytes k4) (fun _ _ _ _ _ _ _ _ _ => none) N v_behind v_kind v_county v_rank v_value v_hour v_numbers (0 : Int32) (0 : Int32)
