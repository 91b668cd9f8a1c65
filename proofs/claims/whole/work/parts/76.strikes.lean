/-! PURE: strikes -/
theorem q_rightly (N : Nat) (hN : 41 ≤ N) {th : Int32} {al : Nat → Int32} {lim ls : Int32} {ld ll sg : Nat → Int32} {vlim vs : Int32} {vc vd vl : Nat → Int32} {ul uv un : Int32} {uld : Nat → Int32} {uln : Nat → Int64} {uvc uvd : Nat → Int32} {uvn : Nat → Int64} {na nb : Nat} (hR : RRoll th al lim ls ld ll sg vlim vs vc vd vl ul uv un uld uln uvc uvd uvn na nb) {i : Nat} (hi : i < na) :
    ∃ r, f_X5_rightness N 8 12 th al ls ld sg vd (nI i) = some r ∧ f_X11_rightly N ul un uld uln uvd uvn (nI i) = some r ∧ (r = -4 ∨ r = 0 ∨ r = 1 ∨ r = 2) := by
  have hR0 := hR
  obtain ⟨hb, ha, rfl, rfl, -, rfl, rfl, -, -, -, hL, hV, hp⟩ := hR
  obtain ⟨r, e1, e2, -⟩ := q_struckAs N hN hR0 hi
  obtain ⟨r', g1, g2⟩ := q_struck N hN hR0 (nI i) 1
  have hin : (0 : Int) ≤ (nI i).toInt ∧ (nI i).toInt < na := by rw [nI_toInt (by omega)]; omega
  unfold f_X10_struck f_X11_struck f_X5_hasVoter f_X11_isVoter at *
  simp only [p_has2 N (show na < 2 ^ 31 by omega), p_isWhat, p_in, p_lim (show na < 2 ^ 30 by omega), p_i2l, p_b1, p_bI, decide_eq_false_iff_not, show (0 : Int64).toInt = 0 from rfl, show (1 : Int64).toInt = 1 from rfl, show (2 : Int32).toInt = 2 from rfl, show (1 : Int32).toInt = 1 from rfl] at g1 g2
  rw [if_neg (not_not_intro hin), if_neg (by decide), if_neg (show ¬ (1 : Int32) = 0 by decide)] at g1
  rw [if_neg (show ¬ ¬ (0 ≤ (nI i).toInt ∧ (nI i).toInt ≤ (na : Int) - 1) by omega), if_neg (by decide), if_neg (show ¬ (1 : Int32) = 0 by decide)] at g2
  have w1 : f_X5_rightness N 8 12 th al (nI nb) ld sg vd (nI i) = some r' := by
    cases h : f_X5_rightness N 8 12 th al (nI nb) ld sg vd (nI i) with
    | none => rw [h] at g1; cases g1
    | some v => rw [h, p_b1] at g1; exact g1
  have w2 : f_X11_rightly N (nI nb) un uld uln uvd uvn (nI i) = some r' := by
    cases h : f_X11_rightly N (nI nb) un uld uln uvd uvn (nI i) with
    | none => rw [h] at g2; cases g2
    | some v => rw [h, p_b1] at g2; exact g2
  refine ⟨r', w1, w2, ?_⟩
  unfold f_X5_rightness at w1
  cases h1 : f_X5_struckAs N th (nI nb) sg (nI i) with
  | none => rw [h1] at w1; cases w1
  | some a =>
    rw [h1, p_b1] at w1
    by_cases a4 : a = -4
    · rw [if_pos a4] at w1; exact Or.inl (Option.some.inj w1).symm
    · rw [if_neg a4] at w1
      cases h2 : f_X5_isDayUntold N 8 12 ld vd (nI i) a with
      | none => rw [h2] at w1; cases w1
      | some b =>
        rw [h2, p_b1] at w1
        by_cases b0 : wk_bI b = 0
        · rw [if_pos b0] at w1
          cases h3 : f_X5_alikeness N al (nI i) a with
          | none => rw [h3] at w1; cases w1
          | some c =>
            rw [h3, p_b1] at w1
            by_cases c0 : c = 100
            · rw [if_pos c0] at w1; exact Or.inr (Or.inr (Or.inr (Option.some.inj w1).symm))
            · rw [if_neg c0] at w1; exact Or.inr (Or.inl (Option.some.inj w1).symm)
        · rw [if_neg b0] at w1; exact Or.inr (Or.inr (Or.inl (Option.some.inj w1).symm))
/-- how many of a county are struck -/
theorem q_struckIn (N : Nat) (hN : 41 ≤ N) {th : Int32} {al : Nat → Int32} {lim ls : Int32} {ld ll sg : Nat → Int32} {vlim vs : Int32} {vc vd vl : Nat → Int32} {ul uv un : Int32} {uld : Nat → Int32} {uln : Nat → Int64} {uvc uvd : Nat → Int32} {uvn : Nat → Int64} {na nb : Nat} (hR : RRoll th al lim ls ld ll sg vlim vs vc vd vl ul uv un uld uln uvc uvd uvn na nb) (x w : Int32) :
    ∃ r, f_X5_struckIn N 8 12 12 th al ls ld sg vs vc vd x (if w = 0 then 0 else 1) = some r ∧ wk_loop (fun k46 : Int32 → Int32 → Int32 → Int32 → Option Int32 => B_X11_strikes_46 N ul uv un uld uln uvc uvd uvn k46) (fun _ _ _ _ => none) N x w (0 : Int32) (0 : Int32) = some r := by
  have hR0 := hR
  obtain ⟨hb, ha, hls, hul, -, hvs, huv, -, hth, -, hL, hV, hp⟩ := hR
  unfold f_X5_struckIn
  obtain ⟨z, hz⟩ : ∃ z : Nat, z = 0 := ⟨_, rfl⟩
  have hz0 : nI z = 0 := by rw [hz]; rfl
  have ew : ∀ v : Int32, (if w = 0 then (0 : Int32) else 1) = v → (v = 0 ↔ w = 0) := by
    intro v hv
    by_cases a : w = 0
    · rw [if_pos a] at hv; subst hv; exact ⟨fun _ => a, fun _ => rfl⟩
    · rw [if_neg a] at hv; subst hv; exact ⟨fun c => absurd c (by decide), fun c => absurd c a⟩
  obtain ⟨w', hw'⟩ : ∃ v : Int32, (if w = 0 then (0 : Int32) else 1) = v := ⟨_, rfl⟩
  have ew' := ew w' hw'
  rw [hw', ← hz0]
  refine p_sim (σ := Int32) (τ := Int32)
    (W := fun m i s => wk_loop (fun k5 : Int32 → Int32 → Int32 → Int32 → Option Int32 => B_X5_struckIn_5 N 8 12 12 th al ls ld sg vs vc vd k5) (fun _ _ _ _ => none) m x w' s (nI i))
    (V := fun m i s => wk_loop (fun k46 : Int32 → Int32 → Int32 → Int32 → Option Int32 => B_X11_strikes_46 N ul uv un uld uln uvc uvd uvn k46) (fun _ _ _ _ => none) m x w s (nI i))
    (fun _ s s' => s = s')
    (fun A B => ∃ r, A = some r ∧ B = some r) na ?_ ?_ na N N z (nI z) (nI z) (by omega) (by omega) (by omega) rfl
  · intro m m' i s s' hi hI
    subst hI
    obtain ⟨r, e1, e2, h4⟩ := q_rightly N hN hR0 hi
    have g1 : ¬ vs ≤ nI i := by rw [hvs]; exact nI_ge hi (by omega)
    have g2 : ¬ uv ≤ nI i := by rw [huv]; exact nI_ge hi (by omega)
    have hvc := (hV i hi).2.1
    have eof : f_X2_isOf N 12 vc (nI i) x = some (decide (x = 5 ∨ vc i = x)) := by
      unfold f_X2_isOf
      by_cases a : x = 5
      · rw [if_pos a, decide_eq_true (Or.inl a)]
      · rw [if_neg a, p_get (by omega) (by omega), p_b1]
        by_cases b : vc i = x
        · rw [if_pos b, decide_eq_true (Or.inr b)]
        · rw [if_neg b, decide_eq_false (by rintro (c | c) <;> contradiction)]
    have hW : ∀ s' : Int32, (B_X5_struckIn_5 N 8 12 12 th al ls ld sg vs vc vd (wk_loop (fun k5 : Int32 → Int32 → Int32 → Int32 → Option Int32 => B_X5_struckIn_5 N 8 12 12 th al ls ld sg vs vc vd k5) (fun _ _ _ _ => none) m) x w' s (nI i) = wk_loop (fun k5 : Int32 → Int32 → Int32 → Int32 → Option Int32 => B_X5_struckIn_5 N 8 12 12 th al ls ld sg vs vc vd k5) (fun _ _ _ _ => none) m x w' s' (nI (i + 1))) →
      (B_X11_strikes_46 N ul uv un uld uln uvc uvd uvn (wk_loop (fun k46 : Int32 → Int32 → Int32 → Int32 → Option Int32 => B_X11_strikes_46 N ul uv un uld uln uvc uvd uvn k46) (fun _ _ _ _ => none) m') x w s (nI i) = wk_loop (fun k46 : Int32 → Int32 → Int32 → Int32 → Option Int32 => B_X11_strikes_46 N ul uv un uld uln uvc uvd uvn k46) (fun _ _ _ _ => none) m' x w s' (nI (i + 1))) →
      ∃ s1 t1 : Int32, wk_loop (fun k5 : Int32 → Int32 → Int32 → Int32 → Option Int32 => B_X5_struckIn_5 N 8 12 12 th al ls ld sg vs vc vd k5) (fun _ _ _ _ => none) (m + 1) x w' s (nI i) = wk_loop (fun k5 : Int32 → Int32 → Int32 → Int32 → Option Int32 => B_X5_struckIn_5 N 8 12 12 th al ls ld sg vs vc vd k5) (fun _ _ _ _ => none) m x w' s1 (nI (i + 1)) ∧
        wk_loop (fun k46 : Int32 → Int32 → Int32 → Int32 → Option Int32 => B_X11_strikes_46 N ul uv un uld uln uvc uvd uvn k46) (fun _ _ _ _ => none) (m' + 1) x w s (nI i) = wk_loop (fun k46 : Int32 → Int32 → Int32 → Int32 → Option Int32 => B_X11_strikes_46 N ul uv un uld uln uvc uvd uvn k46) (fun _ _ _ _ => none) m' x w t1 (nI (i + 1)) ∧ s1 = t1 := fun s' h1 h2 => ⟨s', s', h1, h2, rfl⟩
    have eM : ∀ (k46 : Int32 → Int32 → Int32 → Int32 → Option Int32), B_X11_strikes_46 N ul uv un uld uln uvc uvd uvn k46 x w s (nI i) = B_X11_strikes_76 N ul uv un uld uln uvc uvd uvn k46 x w s (nI i) (if x = 5 ∨ vc i = x then 1 else 0) := by
      intro k46
      rw [B_X11_strikes_46, if_neg g2]
      by_cases a : x = 5
      · rw [if_pos a, if_pos (Or.inl a)]
      · rw [if_neg a, p_ck (by omega) (by omega), nI_clamp (by omega), ← hvc]
        by_cases b : vc i = x
        · rw [if_pos b, if_pos (Or.inr b)]
        · rw [if_neg b, if_neg (by rintro (c | c) <;> contradiction)]
    by_cases here : x = 5 ∨ vc i = x
    · have eC : ∀ (k5 : Int32 → Int32 → Int32 → Int32 → Option Int32), B_X5_struckIn_5 N 8 12 12 th al ls ld sg vs vc vd k5 x w' s (nI i) = B_X5_struckIn_41 N 8 12 12 th al ls ld sg vs vc vd k5 x w' s (nI i) r := by
        intro k5
        rw [B_X5_struckIn_5, f_X2_size, p_b1, if_neg g1, eof, p_b1, decide_eq_true here, if_neg (show ¬ wk_bI true = 0 by decide), e1, p_b1]
      have eM2 : ∀ (k46 : Int32 → Int32 → Int32 → Int32 → Option Int32), B_X11_strikes_46 N ul uv un uld uln uvc uvd uvn k46 x w s (nI i) = B_X11_strikes_76 N ul uv un uld uln uvc uvd uvn k46 x w s (nI i) 1 := fun k46 => by rw [eM, if_pos here]
      by_cases w0 : w = 0
      · have w0' : w' = 0 := ew'.mpr w0
        by_cases r4 : r = -4
        · refine hW s ?_ ?_
          · rw [eC, B_X5_struckIn_41, if_neg (show ¬ r = 0 by rw [r4]; decide), if_pos r4, p_nm, nI_1]
          · rw [eM2, B_X11_strikes_76, if_neg (by decide), if_pos w0, e2, p_b1, if_pos (show r < 0 by rw [r4]; decide), p_nm, p_nm, nI_1, Int32.add_zero]
        · have rp : ¬ r < 0 := by
            rcases h4 with h | h | h | h
            · exact absurd h r4
            all_goals rw [h]; decide
          refine hW (s + 1) ?_ ?_
          · rw [eC, B_X5_struckIn_41]
            by_cases r0 : r = 0
            · rw [if_pos r0, p_nm, p_nm, nI_1]
            · rw [if_neg r0, if_neg r4, if_pos w0', p_nm, p_nm, nI_1]
          · rw [eM2, B_X11_strikes_76, if_neg (by decide), if_pos w0, e2, p_b1, if_neg rp, p_nm, p_nm, nI_1]
      · have w0' : ¬ w' = 0 := fun c => w0 (ew'.mp c)
        by_cases r0 : r = 0
        · refine hW (s + 1) ?_ ?_
          · rw [eC, B_X5_struckIn_41, if_pos r0, p_nm, p_nm, nI_1]
          · rw [eM2, B_X11_strikes_76, if_neg (by decide), if_neg w0, e2, p_b1, if_pos r0, p_nm, p_nm, nI_1]
        · refine hW s ?_ ?_
          · rw [eC, B_X5_struckIn_41, if_neg r0]
            by_cases r4 : r = -4
            · rw [if_pos r4, p_nm, nI_1]
            · rw [if_neg r4, if_neg w0', p_nm, nI_1]
          · rw [eM2, B_X11_strikes_76, if_neg (by decide), if_neg w0, e2, p_b1, if_neg r0, p_nm, p_nm, nI_1, Int32.add_zero]
    · refine hW s ?_ ?_
      · rw [B_X5_struckIn_5, f_X2_size, p_b1, if_neg g1, eof, p_b1, decide_eq_false here, if_pos (show wk_bI false = 0 from rfl), B_X5_struckIn_41, if_neg (by decide), if_pos rfl, p_nm, nI_1]
      · rw [eM, if_neg here, B_X11_strikes_76, if_pos rfl, p_nm, p_nm, nI_1, Int32.add_zero]
  · intro m m' s s' hI
    subst hI
    refine ⟨s, ?_, ?_⟩
    · show B_X5_struckIn_5 N 8 12 12 th al ls ld sg vs vc vd _ x w' s (nI na) = _
      rw [B_X5_struckIn_5, f_X2_size, p_b1, if_pos (by rw [hvs]; exact nI_le (Nat.le_refl na) (by omega))]
    · show B_X11_strikes_46 N ul uv un uld uln uvc uvd uvn _ x w s (nI na) = _
      rw [B_X11_strikes_46, if_pos (by rw [huv]; exact nI_le (Nat.le_refl na) (by omega))]
