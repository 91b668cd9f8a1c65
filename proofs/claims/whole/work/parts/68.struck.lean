/-! PURE: struck -/
theorem p_lc0 (x y : Int64) : lg_cmp x y = 0 ↔ x = y := by
  unfold lg_cmp
  by_cases a : y < x
  · rw [if_pos a]
    refine ⟨fun w => absurd w (by decide), fun w => ?_⟩
    subst w
    have := Int64.lt_iff_toInt_lt.mp a
    omega
  · rw [if_neg a]
    by_cases b : x = y
    · rw [if_pos b]; exact ⟨fun _ => b, fun _ => rfl⟩
    · rw [if_neg b]; exact ⟨fun w => absurd w (by decide), fun w => (b w).elim⟩
theorem q_struck (N : Nat) (hN : 41 ≤ N) {th : Int32} {al : Nat → Int32} {lim ls : Int32} {ld ll sg : Nat → Int32} {vlim vs : Int32} {vc vd vl : Nat → Int32} {ul uv un : Int32} {uld : Nat → Int32} {uln : Nat → Int64} {uvc uvd : Nat → Int32} {uvn : Nat → Int64} {na nb : Nat} (hR : RRoll th al lim ls ld ll sg vlim vs vc vd vl ul uv un uld uln uvc uvd uvn na nb) (x y : Int32) : ∃ r, f_X10_struck N 8 12 th al ls ld sg vs vd x y = some r ∧ f_X11_struck N ul uv un uld uln uvd uvn x y = some r := by
  have hR0 := hR
  obtain ⟨hb, ha, rfl, rfl, -, rfl, rfl, -, -, -, hL, hV, hp⟩ := hR
  unfold f_X10_struck f_X11_struck f_X5_hasVoter f_X11_isVoter
  simp only [p_has2 N (show na < 2 ^ 31 by omega), p_isWhat, p_in, p_lim (show na < 2 ^ 30 by omega), p_i2l, p_b1, p_bI, decide_eq_false_iff_not, show (0 : Int64).toInt = 0 from rfl, show (1 : Int64).toInt = 1 from rfl, show (2 : Int32).toInt = 2 from rfl]
  by_cases a : 0 ≤ x.toInt ∧ x.toInt < na
  · rw [if_neg (not_not_intro a), if_neg (show ¬ ¬ (0 ≤ x.toInt ∧ x.toInt ≤ (na : Int) - 1) by omega)]
    by_cases b : 0 ≤ y.toInt ∧ y.toInt < 2
    · rw [if_neg (not_not_intro b), if_neg (show ¬ ¬ (0 ≤ y.toInt ∧ y.toInt ≤ 1) by omega)]
      obtain ⟨i, hi, rfl⟩ := p_rng a.1 a.2
      obtain ⟨r, e1, e2, h⟩ := q_struckAs N hN hR0 hi
      by_cases c : y = 0
      · rw [if_pos c, if_pos c, e1, e2]; exact ⟨_, rfl, rfl⟩
      · rw [if_neg c, if_neg c]
        unfold f_X5_rightness f_X11_rightly
        rw [e1, e2, p_b1, p_b1]
        rcases h with rfl | ⟨j, hj, rfl, t, t1, t2, t3⟩
        · rw [if_pos rfl, if_neg (by decide)]; exact ⟨_, rfl, rfl⟩
        · obtain ⟨m, n, h1, h2, h3, h4⟩ := hp i hi j hj
          have e3 := q_likeOf N hN (show i < 12 by omega) (show j < 8 by omega) h1 h2
          have et : p_alk (uvn i) (uln j) m n = t := by
            rw [t3] at e3
            have := (p_nIe (by omega) (by have := p_alk_le (uvn i) (uln j) m n; omega)).mp (Option.some.inj e3)
            exact this.symm
          have eq := p_alk_eq h1 h2 (by omega)
          rw [if_neg (fun w => by have := congrArg Int32.toInt w; rw [nI_toInt (by omega), show (-4 : Int32).toInt = -4 from rfl] at this; omega), if_pos (show (0 : Int32) ≤ nI j from nI_le (a := 0) (by omega) (by omega))]
          unfold f_X5_isDayUntold f_X2_dayOf f_X5_alikeness f_X5_pair B_X11_rightly_36
          simp only [p_get (N := N) (v := vd) (show i < 12 by omega) (by decide), p_get (N := N) (v := ld) (show j < 8 by omega) (by decide), p_b1, p_ck (show i < 12 by omega) (by decide), p_ck (show j < 8 by omega) (by decide), nI_clamp (show i < 2 ^ 31 by omega), nI_clamp (show j < 2 ^ 31 by omega), (hV i hi).1, (hL j hj).1]
          by_cases q1 : uvd i < 0
          · rw [if_pos q1, if_pos q1, p_b1, if_neg (show ¬ wk_bI true = 0 from by decide), if_pos trivial]; exact ⟨_, rfl, rfl⟩
          · rw [if_neg q1, if_neg q1]
            by_cases q2 : uld j < 0
            · have q2' : ¬ 0 ≤ uld j := fun w => by rw [p_toInt_lt] at q2; rw [p_toInt_le] at w; omega
              rw [if_neg q2', if_pos q2, p_b1, if_neg (show ¬ wk_bI true = 0 from by decide), if_pos trivial]; exact ⟨_, rfl, rfl⟩
            · have q2' : 0 ≤ uld j := by rw [p_toInt_lt] at q2; rw [p_toInt_le]; omega
              rw [if_pos q2', if_neg q2, p_b1, if_pos (show wk_bI false = 0 from rfl), if_neg (show ¬ (1 : Int32) = 0 by decide), show (nI i * (8 : Int32)) + nI j = nI (8 * i + j) from by rw [show (8 : Int32) = nI 8 from rfl, pk_mul, nI_add, Nat.mul_comm], p_get (by omega) (by decide), p_b1, p_b1, h3]
              by_cases q3 : uvn i = uln j
              · rw [if_pos ((p_lc0 _ _).mpr q3), eq.mpr q3, if_pos (show nI 100 = (100 : Int32) from rfl)]; exact ⟨_, rfl, rfl⟩
              · rw [if_neg (fun w => q3 ((p_lc0 _ _).mp w)), if_neg (show ¬ nI (p_alk (uvn i) (uln j) m n) = (100 : Int32) from fun w => q3 (eq.mp ((p_nIe (by have := p_alk_le (uvn i) (uln j) m n; omega) (by decide : 100 < 2 ^ 31)).mp w)))]; exact ⟨_, rfl, rfl⟩
    · rw [if_pos b, if_pos (show ¬ (0 ≤ y.toInt ∧ y.toInt ≤ 1) by omega)]; exact ⟨_, rfl, rfl⟩
  · rw [if_pos a, if_pos (show ¬ (0 ≤ x.toInt ∧ x.toInt ≤ (na : Int) - 1) by omega)]; exact ⟨_, rfl, rfl⟩
