-- X10_onlyBit
def B_X10_onlyBit_2 (N : Nat) (k2 : Int32 → Int32 → Option Int32) (x0 : Int32) (x1 : Int32) : Option Int32 :=
  if (4 : Int32) ≤ x1 then (some (-4 : Int32)) else (if x0 = ((1 : Int32) <<< (x1 &&& 31)) then (some x1) else (wk_nm (x1 + (1 : Int32)) (fun y3 : Int32 => k2 x0 y3)))
def f_X10_onlyBit (N : Nat) (x0 : Int32) : Option Int32 :=
  wk_loop (fun k2 : Int32 → Int32 → Option Int32 => B_X10_onlyBit_2 N k2) (fun _ _ => none) N x0 (0 : Int32)
-- X10_oneVote
def f_X10_oneVote (N : Nat) (x0 : Int32) : Option Int32 :=
  some ((1 : Int32) <<< (((8 : Int32) * x0) &&& 31))
-- X10_votesFor
def f_X10_votesFor (N : Nat) (x0 : Int32) (x1 : Int32) : Option Int32 :=
  some ((x1 >>> (((8 : Int32) * x0) &&& 31)) &&& (255 : Int32))
-- X10_leadOf
def B_X10_leadOf_4 (N : Nat) (k4 : Int32 → Int32 → Int32 → Int32 → Option Int32) (x0 : Int32) (x1 : Int32) (x2 : Int32) (x3 : Int32) : Option Int32 :=
  if (4 : Int32) ≤ x3 then (wk_b1 (f_X10_votesFor N x0 x1) (fun (r2 : Int32) => some (r2 - x2))) else (if x3 = x0 then (wk_nm (x3 + (1 : Int32)) (fun y4 : Int32 => k4 x0 x1 x2 y4)) else (wk_b1 (f_X10_votesFor N x3 x1) (fun (r5 : Int32) => wk_nm (if x2 < r5 then r5 else x2) (fun y6 : Int32 => wk_nm (x3 + (1 : Int32)) (fun y7 : Int32 => k4 x0 x1 y6 y7)))))
def f_X10_leadOf (N : Nat) (x0 : Int32) (x1 : Int32) : Option Int32 :=
  wk_loop (fun k4 : Int32 → Int32 → Int32 → Int32 → Option Int32 => B_X10_leadOf_4 N k4) (fun _ _ _ _ => none) N x0 x1 (0 : Int32) (0 : Int32)
-- X10_winnerOf
def B_X10_winnerOf_2 (N : Nat) (k2 : Int32 → Int32 → Option Int32) (x0 : Int32) (x1 : Int32) : Option Int32 :=
  if (4 : Int32) ≤ x1 then (some (-4 : Int32)) else (wk_b1 (f_X10_leadOf N x1 x0) (fun (r2 : Int32) => if r2 ≤ 0 then (wk_nm (x1 + (1 : Int32)) (fun y4 : Int32 => k2 x0 y4)) else (some x1)))
def f_X10_winnerOf (N : Nat) (x0 : Int32) : Option Int32 :=
  wk_loop (fun k2 : Int32 → Int32 → Option Int32 => B_X10_winnerOf_2 N k2) (fun _ _ => none) N x0 (0 : Int32)
-- X10_hasBit
def f_X10_hasBit (N : Nat) (x0 : Int32) (x1 : Int32) : Option Bool :=
  if ((x0 >>> (x1 &&& 31)) &&& (1 : Int32)) = 0 then (some false) else (some true)
-- X10_isCounty
def f_X10_isCounty (N : Nat) (x0 : Int32) : Option Bool :=
  if x0 < 0 then (some false) else (if (5 : Int32) ≤ x0 then (some false) else (some true))
-- X10_isCountyOrAll
def f_X10_isCountyOrAll (N : Nat) (x0 : Int32) : Option Bool :=
  if x0 = (5 : Int32) then (some true) else (wk_b1 (f_X10_isCounty N x0) (fun (r2 : Bool) => if (wk_bI r2) = 0 then (some false) else (some true)))
-- X10_isHour
def f_X10_isHour (N : Nat) (x0 : Int32) : Option Bool :=
  if x0 < 0 then (some false) else (if (1000 : Int32) ≤ x0 then (some false) else (some true))
-- X10_letterAt
def f_X10_letterAt (N : Nat) (x0 : Int64) (x2 : Int32) : Option Int32 :=
  some ((((x0.toUInt64 >>> (((8 : Int32) * ((7 : Int32) - x2)).toInt64.toUInt64 &&& Int64.toUInt64 63)).toInt64).toInt32) &&& (255 : Int32))
-- X10_isRace
def f_X10_isRace (N : Nat) (x0 : Int32) : Option Bool :=
  if x0 < 0 then (some false) else (if (3 : Int32) ≤ x0 then (some false) else (some true))
-- X10_isHole
def f_X10_isHole (N : Nat) (x0 : Int32) : Option Bool :=
  if x0 < 0 then (some false) else (if (4 : Int32) ≤ x0 then (some false) else (some true))
-- X10_isWhat
def f_X10_isWhat (N : Nat) (x0 : Int32) (x1 : Int32) : Option Bool :=
  if x0 < 0 then (some false) else (if x1 ≤ x0 then (some false) else (some true))
-- X10_isRule
def f_X10_isRule (N : Nat) (x0 : Int32) : Option Bool :=
  if x0 < (1 : Int32) then (some false) else (if (5 : Int32) < x0 then (some false) else (some true))
-- X10_isRuleSet
def f_X10_isRuleSet (N : Nat) (x0 : Int32) : Option Bool :=
  if x0 < (1 : Int32) then (some false) else (if (32 : Int32) ≤ x0 then (some false) else (some true))
-- X10_isName
def B_X10_isName_4 (N : Nat) (k4 : Int64 → Int32 → Int32 → Option Bool) (x0 : Int64) (x2 : Int32) (x3 : Int32) : Option Bool :=
  if (8 : Int32) ≤ x3 then (some true) else (wk_b1 (f_X10_letterAt N x0 x3) (fun (r2 : Int32) => if r2 = 0 then (wk_nm (x3 + (1 : Int32)) (fun y8 : Int32 => k4 x0 (1 : Int32) y8)) else (if x2 = 0 then (if r2 < (97 : Int32) then (some false) else (if r2 ≤ (122 : Int32) then (wk_nm (x3 + (1 : Int32)) (fun y7 : Int32 => k4 x0 x2 y7)) else (some false))) else (some false))))
def f_X10_isName (N : Nat) (x0 : Int64) : Option Bool :=
  wk_loop (fun k4 : Int64 → Int32 → Int32 → Option Bool => B_X10_isName_4 N k4) (fun _ _ _ => none) N x0 (0 : Int32) (0 : Int32)
-- X10_isDay
def f_X10_isDay (N : Nat) (x0 : Int32) : Option Bool :=
  if x0 < (-1 : Int32) then (some false) else (if (36500 : Int32) < x0 then (some false) else (some true))
-- X10_isSpan
def f_X10_isSpan (N : Nat) (x0 : Int32) (x1 : Int32) : Option Bool :=
  wk_b1 (f_X10_isHour N x0) (fun (r1 : Bool) => if (wk_bI r1) = 0 then (some false) else (if x1 < x0 then (some false) else (if (1000 : Int32) < x1 then (some false) else (some true))))
-- X10_isHands
def f_X10_isHands (N : Nat) (x0 : Int32) : Option Bool :=
  if x0 < (1 : Int32) then (some false) else (if (20 : Int32) < x0 then (some false) else (some true))
