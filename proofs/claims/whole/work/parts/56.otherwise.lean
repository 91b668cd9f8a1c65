/-! PURE: otherwise -/
theorem p_coa (x : Int32) : (if x = (5 : Int32) then some true else if ¬ (0 ≤ x.toInt ∧ x.toInt ≤ 4) then some false else some true) = some (decide (0 ≤ x.toInt ∧ x.toInt ≤ 5)) := by
  by_cases a : x = 5
  · subst a; rfl
  · have a' : ¬ x.toInt = 5 := fun q => a (Int32.toInt_inj.mp q)
    rw [if_neg a]
    by_cases b : 0 ≤ x.toInt ∧ x.toInt ≤ 4
    · rw [if_neg (not_not_intro b), decide_eq_true (by omega)]
    · rw [if_pos b, decide_eq_false (by omega)]
theorem q_otherwise (N : Nat) (hN : 41 ≤ N) {sz it : Int32} {co hr kd rk vl uh ul ur uv uw : Nat → Int32} {n : Nat} (hR : ROrd sz co hr kd rk vl it uh ul ur uv uw n) {pz : Int32} {pc st cd ct hs : Nat → Int32} {k : Nat} (hP : RPile pz pc st cd ct hs 0 k) (ld ls dm ss : Nat → Int32) (x y z w : Int32) :
    ∃ r o1 o2 o3 o4, f_X10_otherwise N sz co hr kd rk vl pz pc st ld ls dm ss x y z w = some (r, o1, o2, o3, o4) ∧ f_X11_otherwise N it cd ct hs uh ul ur uv uw x y z w = some r := by
  have hP0 := hP
  obtain ⟨hk, rfl, hcd, hco, hst⟩ := hP
  unfold f_X10_otherwise f_X11_otherwise f_X10_isCountyOrAll
  simp only [p_isCounty, p_isRace, p_isHour, p_mhour, p_inI, p_b1, p_bI, decide_eq_false_iff_not, show (0 : Int64).toInt = 0 from rfl, show (2 : Int64).toInt = 2 from rfl, show (5 : Int64).toInt = 5 from rfl]
  simp only [p_coa, p_b1, p_bI, decide_eq_false_iff_not]
  by_cases a : 0 ≤ x.toInt ∧ x.toInt ≤ 5
  · by_cases b : 0 ≤ y.toInt ∧ y.toInt ≤ 2
    · by_cases c : 0 ≤ z.toInt ∧ z.toInt ≤ 999
      · by_cases d : 0 ≤ w.toInt ∧ w.toInt ≤ 999
        · simp only [if_neg (not_not_intro a), if_neg (not_not_intro b), if_neg (not_not_intro c), if_neg (not_not_intro d)]
          obtain ⟨j, hj, rfl⟩ := p_of (n := 2) b.1 b.2
          obtain ⟨od, os, e1, hD⟩ := q_readIn N hN hR dm ss z 0
          obtain ⟨od2, os2, e2, hD2⟩ := q_readIn N hN hR ld ls w 0
          obtain ⟨vt, hv⟩ := p_vts N hN hR hP0 hD (r := j) (by omega)
          obtain ⟨vt2, hv2⟩ := p_vts N hN hR hP0 hD2 (r := j) (by omega)
          have hpc : ∀ j, j < k → pc j = ct j := fun j hj => by
            obtain ⟨q, -⟩ := hco j hj
            rw [Nat.mul_zero, Nat.zero_add] at q
            exact q
          unfold f_X8_changedBetween
          rw [e1, p_b2, e2, p_b2]
          have key : ∃ r, wk_loop (fun k33 : (Nat → Int32) → (Nat → Int32) → (Nat → Int32) → (Nat → Int32) → Int32 → Int32 → Int32 → Int32 → Option (Int32 × (Nat → Int32) × (Nat → Int32) × (Nat → Int32) × (Nat → Int32)) => B_X8_changedBetween_33 N sz co hr kd rk vl (nI k) pc st k33) (fun _ _ _ _ _ _ _ _ => none) N od2 os2 od os x (nI j) (0 : Int32) (0 : Int32) = some (r, od2, os2, od, os) ∧ wk_loop (fun k47 : Int32 → Int32 → Int32 → Int32 → Int32 → Int32 → Option Int32 => B_X11_otherwise_47 N it cd ct hs uh ul ur uv uw k47) (fun _ _ _ _ _ _ => none) N x (nI j) z w (0 : Int32) (0 : Int32) = some r := by
            obtain ⟨y0, hy0⟩ : ∃ y : Int32, y = 0 := ⟨_, rfl⟩
            have ey : (0 : Int32) = nI 0 := rfl
            refine p_sim (σ := Int32) (τ := Int32)
              (W := fun m i s => wk_loop (fun k33 : (Nat → Int32) → (Nat → Int32) → (Nat → Int32) → (Nat → Int32) → Int32 → Int32 → Int32 → Int32 → Option (Int32 × (Nat → Int32) × (Nat → Int32) × (Nat → Int32) × (Nat → Int32)) => B_X8_changedBetween_33 N sz co hr kd rk vl (nI k) pc st k33) (fun _ _ _ _ _ _ _ _ => none) m od2 os2 od os x (nI j) s (nI i))
              (V := fun m i s => wk_loop (fun k47 : Int32 → Int32 → Int32 → Int32 → Int32 → Int32 → Option Int32 => B_X11_otherwise_47 N it cd ct hs uh ul ur uv uw k47) (fun _ _ _ _ _ _ => none) m x (nI j) z w s (nI i))
              (fun _ s t => s = t) (fun A B => ∃ r, A = some (r, od2, os2, od, os) ∧ B = some r) k ?_ ?_ k N N 0 0 0 (by omega) (by omega) (by omega) rfl
            · intro m m' i s t hi hI
              subst hI
              have g : ¬ nI k ≤ nI i := nI_ge hi (by omega)
              obtain ⟨i1, i2⟩ := p_isOf N pc (k := i) (by omega) x
              obtain ⟨i3, i4⟩ := p_isIn N ct (k := i) (by omega) x
              by_cases q : x = 5 ∨ ct i = x
              · by_cases u : vt i = vt2 i
                · refine ⟨s, s, ?_, ?_, rfl⟩
                  · show B_X8_changedBetween_33 N sz co hr kd rk vl (nI k) pc st _ od2 os2 od os x (nI j) s (nI i) = _
                    rw [B_X8_changedBetween_33, show f_X8_cards N (nI k) = some (nI k) from rfl, p_b1, if_neg g, i1 (by rw [hpc i hi]; exact q), p_b1, if_neg (by decide), f_X8_isUnlikeLater, f_X8_choiceOf, (hv i hi).1, p_b1, p_b1, (hv2 i hi).1, p_b1, if_pos u, p_b1, if_pos (show wk_bI false = 0 from rfl), p_nm, nI_1]
                  · show B_X11_otherwise_47 N it cd ct hs uh ul ur uv uw _ x (nI j) z w s (nI i) = _
                    rw [B_X11_otherwise_47, p_ck0, p_cl0, hcd, if_neg g, i3 q, p_b1, if_neg (by decide), (hv i hi).2.1, p_b1, (hv2 i hi).2.1, p_b1, if_pos u, p_nm, p_nm, nI_1, Int32.add_zero]
                · refine ⟨s + 1, s + 1, ?_, ?_, rfl⟩
                  · show B_X8_changedBetween_33 N sz co hr kd rk vl (nI k) pc st _ od2 os2 od os x (nI j) s (nI i) = _
                    rw [B_X8_changedBetween_33, show f_X8_cards N (nI k) = some (nI k) from rfl, p_b1, if_neg g, i1 (by rw [hpc i hi]; exact q), p_b1, if_neg (by decide), f_X8_isUnlikeLater, f_X8_choiceOf, (hv i hi).1, p_b1, p_b1, (hv2 i hi).1, p_b1, if_neg u, p_b1, if_neg (by decide), p_nm, p_nm, nI_1 i]
                  · show B_X11_otherwise_47 N it cd ct hs uh ul ur uv uw _ x (nI j) z w s (nI i) = _
                    rw [B_X11_otherwise_47, p_ck0, p_cl0, hcd, if_neg g, i3 q, p_b1, if_neg (by decide), (hv i hi).2.1, p_b1, (hv2 i hi).2.1, p_b1, if_neg u, p_nm, p_nm, nI_1 i]
              · refine ⟨s, s, ?_, ?_, rfl⟩
                · show B_X8_changedBetween_33 N sz co hr kd rk vl (nI k) pc st _ od2 os2 od os x (nI j) s (nI i) = _
                  rw [B_X8_changedBetween_33, show f_X8_cards N (nI k) = some (nI k) from rfl, p_b1, if_neg g, i2 (by rw [hpc i hi]; exact q), p_b1, if_pos (show wk_bI false = 0 from rfl), p_nm, nI_1]
                · show B_X11_otherwise_47 N it cd ct hs uh ul ur uv uw _ x (nI j) z w s (nI i) = _
                  rw [B_X11_otherwise_47, p_ck0, p_cl0, hcd, if_neg g, i4 q, p_b1, if_pos (show wk_bI false = 0 from rfl), p_nm, p_nm, nI_1, Int32.add_zero]
            · intro m m' s t hI
              subst hI
              refine ⟨s, ?_, ?_⟩
              · show B_X8_changedBetween_33 N sz co hr kd rk vl (nI k) pc st _ od2 os2 od os x (nI j) s (nI k) = _
                rw [B_X8_changedBetween_33, show f_X8_cards N (nI k) = some (nI k) from rfl, p_b1, if_pos (nI_le (Nat.le_refl k) (by omega))]
              · show B_X11_otherwise_47 N it cd ct hs uh ul ur uv uw _ x (nI j) z w s (nI k) = _
                rw [B_X11_otherwise_47, p_ck0, p_cl0, hcd, if_pos (nI_le (Nat.le_refl k) (by omega))]
          obtain ⟨r, e5, e6⟩ := key
          rw [e5, e6]
          exact ⟨_, _, _, _, _, rfl, rfl⟩
        · simp only [if_neg (not_not_intro a), if_neg (not_not_intro b), if_neg (not_not_intro c), if_pos d]; exact ⟨_, _, _, _, _, rfl, rfl⟩
      · simp only [if_neg (not_not_intro a), if_neg (not_not_intro b), if_pos c]; exact ⟨_, _, _, _, _, rfl, rfl⟩
    · simp only [if_neg (not_not_intro a), if_pos b]; exact ⟨_, _, _, _, _, rfl, rfl⟩
  · simp only [if_pos a]; exact ⟨_, _, _, _, _, rfl, rfl⟩
