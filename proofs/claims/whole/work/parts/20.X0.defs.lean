-- X0_place
def f_X0_place (N : Nat) (x0 : Int32) (x1 : Int32) : Option Int32 :=
  some (((x0 * (5 : Int32)) + x1) - (1 : Int32))
-- X0_learn
def B_X0_learn_20 (N : Nat) (v_p1_pile_size : Int32) (v_p1_pile_counties : Nat → Int32) (v_p1_pile_states : Nat → Int32) (k7 : (Nat → Int32) → (Nat → Int32) → (Nat → Int32) → Int32 → Int32 → Option ((Nat → Int32) × (Nat → Int32) × (Nat → Int32))) (k20 : (Nat → Int32) → (Nat → Int32) → (Nat → Int32) → Int32 → Int32 → Int32 → Option ((Nat → Int32) × (Nat → Int32) × (Nat → Int32))) (v_p1_reading_dimples : Nat → Int32) (v_p1_reading_states : Nat → Int32) (v_votes : Nat → Int32) (x2 : Int32) (x3 : Int32) (x4 : Int32) : Option ((Nat → Int32) × (Nat → Int32) × (Nat → Int32)) :=
  if (5 : Int32) ≤ x4 then (wk_nm (x3 + (1 : Int32)) (fun y2 : Int32 => k7 v_p1_reading_dimples v_p1_reading_states v_votes x2 y2)) else (wk_b1 (f_X0_place N x4 x3) (fun (r3 : Int32) => wk_b1 (f_X8_sum N v_p1_pile_size v_p1_pile_counties v_p1_pile_states v_p1_reading_dimples v_p1_reading_states x4 x2) (fun (r4 : Int32) => wk_b1 (f_X6_set N 25 v_votes r3 r4) (fun (o5_0 : Nat → Int32) => wk_nm (x4 + (1 : Int32)) (fun y6 : Int32 => k20 v_p1_reading_dimples v_p1_reading_states o5_0 x2 x3 y6)))))
def B_X0_learn_7 (N : Nat) (v_p1_pile_size : Int32) (v_p1_pile_counties : Nat → Int32) (v_p1_pile_states : Nat → Int32) (k7 : (Nat → Int32) → (Nat → Int32) → (Nat → Int32) → Int32 → Int32 → Option ((Nat → Int32) × (Nat → Int32) × (Nat → Int32))) (v_p1_reading_dimples : Nat → Int32) (v_p1_reading_states : Nat → Int32) (v_votes : Nat → Int32) (x2 : Int32) (x3 : Int32) : Option ((Nat → Int32) × (Nat → Int32) × (Nat → Int32)) :=
  if (5 : Int32) < x3 then (some (v_p1_reading_dimples, v_p1_reading_states, v_votes)) else (wk_b2 (f_X8_readBy N v_p1_reading_dimples v_p1_reading_states x3) (fun (o8_0 : Nat → Int32) (o8_1 : Nat → Int32) => wk_loop (fun k20 : (Nat → Int32) → (Nat → Int32) → (Nat → Int32) → Int32 → Int32 → Int32 → Option ((Nat → Int32) × (Nat → Int32) × (Nat → Int32)) => B_X0_learn_20 N v_p1_pile_size v_p1_pile_counties v_p1_pile_states k7 k20) (fun _ _ _ _ _ _ => none) N o8_0 o8_1 v_votes x2 x3 (0 : Int32)))
def f_X0_learn (N : Nat) (v_p1_pile_size : Int32) (v_p1_pile_counties : Nat → Int32) (v_p1_pile_states : Nat → Int32) (v_p1_reading_dimples : Nat → Int32) (v_p1_reading_states : Nat → Int32) (v_votes : Nat → Int32) (x2 : Int32) : Option ((Nat → Int32) × (Nat → Int32) × (Nat → Int32)) :=
  wk_loop (fun k7 : (Nat → Int32) → (Nat → Int32) → (Nat → Int32) → Int32 → Int32 → Option ((Nat → Int32) × (Nat → Int32) × (Nat → Int32)) => B_X0_learn_7 N v_p1_pile_size v_p1_pile_counties v_p1_pile_states k7) (fun _ _ _ _ _ => none) N v_p1_reading_dimples v_p1_reading_states v_votes x2 (1 : Int32)
-- X0_winners
def f_X0_winners (N : Nat) (v_winners : Int32) : Option Int32 :=
  some v_winners
-- X0_lead
def f_X0_lead (N : Nat) (v_lead : Int32) : Option Int32 :=
  some v_lead
-- X0_fewest
def f_X0_fewest (N : Nat) (v_fewest : Int32) : Option Int32 :=
  some v_fewest
-- X0_winnerBy
def B_X0_winnerBy_4 (N : Nat) (v_votes : Nat → Int32) (k4 : Int32 → Int32 → Int32 → Option Int32) (x1 : Int32) (x2 : Int32) (x3 : Int32) : Option Int32 :=
  if (5 : Int32) ≤ x3 then (wk_b1 (f_X10_winnerOf N x2) (fun (r2 : Int32) => some r2)) else (wk_b1 (f_X0_place N x3 x1) (fun (r3 : Int32) => wk_b1 (f_X6_get N 25 v_votes r3) (fun (r4 : Int32) => wk_nm (x2 + r4) (fun y5 : Int32 => wk_nm (x3 + (1 : Int32)) (fun y6 : Int32 => k4 x1 y5 y6)))))
def f_X0_winnerBy (N : Nat) (v_votes : Nat → Int32) (x1 : Int32) : Option Int32 :=
  wk_loop (fun k4 : Int32 → Int32 → Int32 → Option Int32 => B_X0_winnerBy_4 N v_votes k4) (fun _ _ _ => none) N x1 (0 : Int32) (0 : Int32)
-- X0_isCountedAlready
def B_X0_isCountedAlready_42 (N : Nat) (v_votes : Nat → Int32) (k3 : Int32 → Int32 → Int32 → Int32 → Option Bool) (x1 : Int32) (x2 : Int32) (x3 : Int32) (x4 : Int32) (s0 : Int32) : Option Bool :=
  if s0 = 0 then (wk_nm (x4 + (1 : Int32)) (fun y2 : Int32 => k3 x1 x2 x3 y2)) else (wk_b1 (f_X10_hasBit N x3 (x4 - (1 : Int32))) (fun (r3 : Bool) => if (wk_bI r3) = 0 then (wk_nm (x4 + (1 : Int32)) (fun y5 : Int32 => k3 x1 x2 x3 y5)) else (some true)))
def B_X0_isCountedAlready_3 (N : Nat) (v_votes : Nat → Int32) (k3 : Int32 → Int32 → Int32 → Int32 → Option Bool) (x1 : Int32) (x2 : Int32) (x3 : Int32) (x4 : Int32) : Option Bool :=
  if (5 : Int32) < x4 then (some false) else (wk_b1 (f_X0_place N x1 x2) (fun (r7 : Int32) => wk_b1 (f_X6_get N 25 v_votes r7) (fun (r8 : Int32) => wk_b1 (f_X0_place N x1 x4) (fun (r9 : Int32) => wk_b1 (f_X6_get N 25 v_votes r9) (fun (r10 : Int32) => if r8 = r10 then (B_X0_isCountedAlready_42 N v_votes k3 x1 x2 x3 x4 (1 : Int32)) else (B_X0_isCountedAlready_42 N v_votes k3 x1 x2 x3 x4 (0 : Int32)))))))
def f_X0_isCountedAlready (N : Nat) (v_votes : Nat → Int32) (x1 : Int32) (x2 : Int32) (x3 : Int32) : Option Bool :=
  wk_loop (fun k3 : Int32 → Int32 → Int32 → Int32 → Option Bool => B_X0_isCountedAlready_3 N v_votes k3) (fun _ _ _ _ => none) N x1 x2 x3 (1 : Int32)
-- X0_unlikeChoices
def B_X0_unlikeChoices_23 (N : Nat) (v_base : Int32) (v_votes : Nat → Int32) (k23 : Int32 → Int32 → Int32 → Int32 → Option Int32) (x1 : Int32) (x2 : Int32) (x3 : Int32) (x4 : Int32) : Option Int32 :=
  if (5 : Int32) < x4 then (some x3) else (wk_b1 (f_X10_hasBit N x2 (x4 - (1 : Int32))) (fun (r2 : Bool) => if (wk_bI r2) = 0 then (wk_nm (x4 + (1 : Int32)) (fun y4 : Int32 => k23 x1 x2 x3 y4)) else (wk_b1 (f_X0_isCountedAlready N v_votes x1 x4 x3) (fun (r5 : Bool) => if (wk_bI r5) = 0 then (wk_nm (x3 ||| ((1 : Int32) <<< ((x4 - (1 : Int32)) &&& 31))) (fun y8 : Int32 => wk_nm (x4 + (1 : Int32)) (fun y9 : Int32 => k23 x1 x2 y8 y9))) else (wk_nm (x4 + (1 : Int32)) (fun y7 : Int32 => k23 x1 x2 x3 y7))))))
def f_X0_unlikeChoices (N : Nat) (v_base : Int32) (v_votes : Nat → Int32) (x1 : Int32) (x2 : Int32) : Option Int32 :=
  if v_base = 0 then (wk_loop (fun k23 : Int32 → Int32 → Int32 → Int32 → Option Int32 => B_X0_unlikeChoices_23 N v_base v_votes k23) (fun _ _ _ _ => none) N x1 x2 (0 : Int32) (1 : Int32)) else (wk_nm ((1 : Int32) <<< ((v_base - (1 : Int32)) &&& 31)) (fun y11 : Int32 => wk_loop (fun k23 : Int32 → Int32 → Int32 → Int32 → Option Int32 => B_X0_unlikeChoices_23 N v_base v_votes k23) (fun _ _ _ _ => none) N x1 x2 y11 (1 : Int32)))
-- X0_isFewer
def f_X0_isFewer (N : Nat) (v_fewest : Int32) (x1 : Int32) : Option Bool :=
  if v_fewest = (-4 : Int32) then (some true) else (wk_b1 (f_J6_bitCount_0f7a4 N x1) (fun (r2 : Int32) => wk_b1 (f_J6_bitCount_0f7a4 N v_fewest) (fun (r3 : Int32) => wk_nm (r2 - r3) (fun y4 : Int32 => if y4 < 0 then (some true) else (if y4 = 0 then (if v_fewest ≤ x1 then (some false) else (some true)) else (some false))))))
-- X0_weigh
def f_X0_weigh (N : Nat) (v_favoured : Int32) (v_standing : Int32) (v_winners : Int32) (v_lead : Int32) (v_fewest : Int32) (x1 : Int32) (x2 : Int32) : Option (Int32 × Int32 × Int32) :=
  wk_b1 (f_X10_leadOf N v_favoured x2) (fun (r1 : Int32) => wk_b1 (f_X10_winnerOf N x2) (fun (r2 : Int32) => if r2 = (-4 : Int32) then (some (v_winners, (if v_lead < r1 then r1 else v_lead), v_fewest)) else (if r2 = v_standing then (some ((v_winners ||| ((1 : Int32) <<< (r2 &&& 31))), (if v_lead < r1 then r1 else v_lead), v_fewest)) else (wk_b1 (f_X0_isFewer N v_fewest x1) (fun (r5 : Bool) => if (wk_bI r5) = 0 then (some ((v_winners ||| ((1 : Int32) <<< (r2 &&& 31))), (if v_lead < r1 then r1 else v_lead), v_fewest)) else (some ((v_winners ||| ((1 : Int32) <<< (r2 &&& 31))), (if v_lead < r1 then r1 else v_lead), x1)))))))
-- X0_mix
-- X0_tryAll
def B_X0_tryAll_49 (N : Nat) (v_votes : Nat → Int32) (k49 : Int32 → Int32 → Int32 → Int32 → Int32 → Int32 → (Nat → Int32) → Int32 → Int32 → Option (Int32 × Int32 × Int32 × Int32 × Int32 × Int32 × (Nat → Int32))) (v_base : Int32) (v_favoured : Int32) (v_standing : Int32) (v_winners : Int32) (v_lead : Int32) (v_fewest : Int32) (v_choices : Nat → Int32) (x2 : Int32) (x4 : Int32) : Option (Int32 × Int32 × Int32 × Int32 × Int32 × Int32 × (Nat → Int32)) :=
  if (5 : Int32) ≤ x4 then (wk_b3 (f_X0_mix N 6 v_base v_favoured v_standing v_choices v_votes v_winners v_lead v_fewest (0 : Int32) (0 : Int32) (0 : Int32)) (fun (o2_0 : Int32) (o2_1 : Int32) (o2_2 : Int32) => some (v_base, v_favoured, v_standing, o2_0, o2_1, o2_2, v_choices))) else (wk_b1 (f_X0_unlikeChoices N v_base v_votes x4 x2) (fun (r3 : Int32) => wk_b1 (f_X6_set N 5 v_choices x4 r3) (fun (o4_0 : Nat → Int32) => wk_nm (x4 + (1 : Int32)) (fun y5 : Int32 => k49 v_base v_favoured v_standing v_winners v_lead v_fewest o4_0 x2 y5))))
def B_X0_tryAll_20 (N : Nat) (v_votes : Nat → Int32) (v_base : Int32) (v_favoured : Int32) (v_standing : Int32) (v_winners : Int32) (v_lead : Int32) (v_fewest : Int32) (v_choices : Nat → Int32) (x2 : Int32) (x3 : Int32) (s1 : Int32) : Option (Int32 × Int32 × Int32 × Int32 × Int32 × Int32 × (Nat → Int32)) :=
  wk_loop (fun k49 : Int32 → Int32 → Int32 → Int32 → Int32 → Int32 → (Nat → Int32) → Int32 → Int32 → Option (Int32 × Int32 × Int32 × Int32 × Int32 × Int32 × (Nat → Int32)) => B_X0_tryAll_49 N v_votes k49) (fun _ _ _ _ _ _ _ _ _ => none) N v_base x3 s1 (0 : Int32) (-1000 : Int32) (-4 : Int32) v_choices x2 (0 : Int32)
def f_X0_tryAll (N : Nat) (v_votes : Nat → Int32) (v_base : Int32) (v_favoured : Int32) (v_standing : Int32) (v_winners : Int32) (v_lead : Int32) (v_fewest : Int32) (v_choices : Nat → Int32) (x1 : Int32) (x2 : Int32) (x3 : Int32) : Option (Int32 × Int32 × Int32 × Int32 × Int32 × Int32 × (Nat → Int32)) :=
  if x1 = 0 then (B_X0_tryAll_20 N v_votes x1 v_favoured v_standing v_winners v_lead v_fewest v_choices x2 x3 (-4 : Int32)) else (wk_b1 (f_X0_winnerBy N v_votes x1) (fun (r7 : Int32) => B_X0_tryAll_20 N v_votes x1 v_favoured v_standing v_winners v_lead v_fewest v_choices x2 x3 r7))
