/-! PURE: run -/
def p_vot (pc : Nat → Int32) (cy : Int32) (vt : Nat → Int32) (k : Nat) : Bool := decide ((cy = 5 ∨ pc k = cy) ∧ ¬ vt k = -4)
theorem p_four {pc : Nat → Int32} {cy : Int32} {vt : Nat → Int32} : ∀ n, (∀ k, k < n → vt k = -4 ∨ ∃ h, h < 4 ∧ vt k = nI h) → p_cnt (p_sel pc cy vt 0) n + p_cnt (p_sel pc cy vt 1) n + p_cnt (p_sel pc cy vt 2) n + p_cnt (p_sel pc cy vt 3) n = p_cnt (p_vot pc cy vt) n
  | 0, _ => rfl
  | n + 1, h => by
    have ih := p_four (pc := pc) (cy := cy) n (fun k hk => h k (by omega))
    simp only [p_cnt_s]
    by_cases a : cy = 5 ∨ pc n = cy
    · rcases h n (by omega) with q | ⟨g, hg, q⟩
      · have e : ∀ j, j < 4 → ¬ p_sel pc cy vt j n = true := fun j hj w => p_n4 j hj ((of_decide_eq_true w).2.symm.trans q)
        rw [if_neg (e 0 (by decide)), if_neg (e 1 (by decide)), if_neg (e 2 (by decide)), if_neg (e 3 (by decide)), if_neg (fun w => (of_decide_eq_true w).2 q)]
        omega
      · have e : ∀ j, j < 4 → (if p_sel pc cy vt j n = true then 1 else 0) = if g = j then 1 else 0 := fun j hj => by
          by_cases w : g = j
          · subst w; rw [if_pos rfl, if_pos (show p_sel pc cy vt g n = true from decide_eq_true ⟨a, q⟩)]
          · rw [if_neg w, if_neg (fun x => w ((p_nh g hg j hj).mp (q.symm.trans (of_decide_eq_true x).2)))]
        rw [e 0 (by decide), e 1 (by decide), e 2 (by decide), e 3 (by decide), if_pos (show p_vot pc cy vt n = true from decide_eq_true ⟨a, fun w => p_n4 g hg (q.symm.trans w)⟩)]
        rcases (show g = 0 ∨ g = 1 ∨ g = 2 ∨ g = 3 by omega) with rfl | rfl | rfl | rfl <;> simp <;> omega
    · have e : ∀ j, ¬ p_sel pc cy vt j n = true := fun j w => a (of_decide_eq_true w).1
      rw [if_neg (e 0), if_neg (e 1), if_neg (e 2), if_neg (e 3), if_neg (fun w => a (of_decide_eq_true w).1)]
      omega
theorem q_cards (N : Nat) (hN : 41 ≤ N) {pz : Int32} {pc st od os : Nat → Int32} {cy rc : Int32} {c : Nat → Nat} (hc : ∀ g, c g ≤ 40) (h : f_X8_sum N pz pc st od os cy rc = some (nI (p_pk c))) : f_X8_countingCards N pz pc st od os cy rc = some (nI (c 0 + c 1 + c 2 + c 3)) := by
  unfold f_X8_countingCards
  rw [h, p_b1]
  have f : ∀ h, h < 4 → f_X10_votesFor N (nI h) (nI (p_pk c)) = some (nI (c h)) := fun h hh => p_for N c (fun g => by have := hc g; omega) hh
  obtain ⟨n, rfl⟩ : ∃ n, N = n + 5 := ⟨N - 5, by omega⟩
  have step : ∀ (k : Int32 → Int32 → Int32 → Option Int32) (s i : Nat), i < 4 → B_X8_countingCards_13 (n + 5) pz pc st od os k (nI (p_pk c)) (nI s) (nI i) = k (nI (p_pk c)) (nI (s + c i)) (nI (i + 1)) := fun k s i hi => by
    rw [B_X8_countingCards_13, if_neg (show ¬ (4 : Int32) ≤ nI i from nI_ge (b := 4) (by omega) (by omega)), f i hi, p_b1, p_nm, p_nm, nI_add, nI_1]
  have e : ∀ (m : Nat) (s i : Nat), i < 4 → wk_loop (fun k13 : Int32 → Int32 → Int32 → Option Int32 => B_X8_countingCards_13 (n + 5) pz pc st od os k13) (fun _ _ _ => none) (m + 1) (nI (p_pk c)) (nI s) (nI i) = wk_loop (fun k13 : Int32 → Int32 → Int32 → Option Int32 => B_X8_countingCards_13 (n + 5) pz pc st od os k13) (fun _ _ _ => none) m (nI (p_pk c)) (nI (s + c i)) (nI (i + 1)) := fun m s i hi => step _ s i hi
  rw [show (0 : Int32) = nI 0 from rfl, e _ 0 0 (by omega), e _ _ 1 (by omega), e _ _ 2 (by omega), e _ _ 3 (by omega)]
  show B_X8_countingCards_13 (n + 5) pz pc st od os _ (nI (p_pk c)) (nI (0 + c 0 + c 1 + c 2 + c 3)) (nI 4) = _
  rw [B_X8_countingCards_13, if_pos (by decide), Nat.zero_add]
theorem q_run (N : Nat) (hN : 41 ≤ N) {sz it : Int32} {co hr kd rk vl uh ul ur uv uw : Nat → Int32} {n : Nat} (hR : ROrd sz co hr kd rk vl it uh ul ur uv uw n) {pz : Int32} {pc st cd ct hs : Nat → Int32} {k : Nat} (hP : RPile pz pc st cd ct hs 0 k) (dm ss : Nat → Int32) (x y z : Int32) :
    ∃ r o od os p, f_X10_run N sz co hr kd rk vl pz pc st dm ss x y z = some (r, o, od, os) ∧ f_X11_run N it cd ct uh ul ur uv uw hs x y z = some (r, p) ∧ RPile pz pc o cd ct p 0 k ∧ ∀ j, 480 ≤ j → p j = hs j := by
  have hP0 := hP
  obtain ⟨hk, rfl, hcd, hco, hst⟩ := hP
  have same : ∀ r : Int32, ∃ r' o od os p, some (r, st, dm, ss) = some (r', o, od, os) ∧ some (r, hs) = some (r', p) ∧ RPile (nI k) pc o cd ct p 0 k ∧ ∀ j, 480 ≤ j → p j = hs j := fun r => ⟨_, _, _, _, _, rfl, rfl, hP0, fun _ _ => rfl⟩
  unfold f_X10_run f_X11_run f_X8_readIn
  simp only [p_isCounty, p_isRace, p_isHour, p_mhour, p_inI, p_b1, p_bI, decide_eq_false_iff_not, show (0 : Int64).toInt = 0 from rfl, show (2 : Int64).toInt = 2 from rfl, show (4 : Int64).toInt = 4 from rfl]
  by_cases a : 0 ≤ x.toInt ∧ x.toInt ≤ 4
  · by_cases b : 0 ≤ y.toInt ∧ y.toInt ≤ 2
    · by_cases c : 0 ≤ z.toInt ∧ z.toInt ≤ 999
      · simp only [if_neg (not_not_intro a), if_neg (not_not_intro b), if_neg (not_not_intro c)]
        obtain ⟨cy, hcy, rfl⟩ := p_of (n := 4) a.1 a.2
        obtain ⟨j, hj, rfl⟩ := p_of (n := 2) b.1 b.2
        obtain ⟨od, os, e1, hD⟩ := q_readIn N hN hR dm ss z 1
        obtain ⟨vt, hv⟩ := p_vts N hN hR hP0 hD (r := j) (by omega)
        have e2 := q_sum N hN hk (fun c hc => (hv c hc).1) (fun c hc => (hv c hc).2.2) (nI cy)
        have e3 := q_cards N hN (c := fun g => p_cnt (p_sel pc (nI cy) vt g) k) (fun g => Nat.le_trans (p_cnt_le _ _) hk) e2
        rw [e1, p_b2, p_b2, e3, p_b1, p_four k (fun c hc => (hv c hc).2.2)]
        have hpc : ∀ j, j < k → pc j = ct j := fun j hj => by
          obtain ⟨q, -⟩ := hco j hj
          rw [Nat.mul_zero, Nat.zero_add] at q
          exact q
        rw [p_cnt_c (g := p_vot ct (nI cy) vt) (fun i hi => by unfold p_vot; rw [hpc i hi])]
        have e4 : wk_loop (fun k39 : (Nat → Int32) → Int32 → Int32 → Int32 → Int32 → Int32 → Option (Int32 × (Nat → Int32)) => B_X11_run_39 N it cd ct uh ul ur uv uw k39) (fun _ _ _ _ _ _ => none) N hs (nI cy) (nI j) z (0 : Int32) (0 : Int32) = wk_loop (fun k92 : (Nat → Int32) → Int32 → Int32 → Int32 → Option (Int32 × (Nat → Int32)) => B_X11_run_92 N it cd ct uh ul ur uv uw k92) (fun _ _ _ _ => none) N hs (nI cy) (nI (p_cnt (p_vot ct (nI cy) vt) k)) (0 : Int32) := by
          obtain ⟨w, hw⟩ : ∃ w : Nat, w = 0 := ⟨_, rfl⟩
          have e0 : wk_loop (fun k39 : (Nat → Int32) → Int32 → Int32 → Int32 → Int32 → Int32 → Option (Int32 × (Nat → Int32)) => B_X11_run_39 N it cd ct uh ul ur uv uw k39) (fun _ _ _ _ _ _ => none) N hs (nI cy) (nI j) z (0 : Int32) (0 : Int32) = wk_loop (fun k39 : (Nat → Int32) → Int32 → Int32 → Int32 → Int32 → Int32 → Option (Int32 × (Nat → Int32)) => B_X11_run_39 N it cd ct uh ul ur uv uw k39) (fun _ _ _ _ _ _ => none) N hs (nI cy) (nI j) z (nI (p_cnt (p_vot ct (nI cy) vt) w)) (nI w) := by rw [hw]; rfl
          rw [e0]
          refine p_run (σ := Unit) (W := fun m i _ => wk_loop (fun k39 : (Nat → Int32) → Int32 → Int32 → Int32 → Int32 → Int32 → Option (Int32 × (Nat → Int32)) => B_X11_run_39 N it cd ct uh ul ur uv uw k39) (fun _ _ _ _ _ _ => none) m hs (nI cy) (nI j) z (nI (p_cnt (p_vot ct (nI cy) vt) i)) (nI i)) (fun _ _ => True) (fun A => A = wk_loop (fun k92 : (Nat → Int32) → Int32 → Int32 → Int32 → Option (Int32 × (Nat → Int32)) => B_X11_run_92 N it cd ct uh ul ur uv uw k92) (fun _ _ _ _ => none) N hs (nI cy) (nI (p_cnt (p_vot ct (nI cy) vt) k)) (0 : Int32)) k ?_ ?_ k N w () (by omega) (by omega) trivial
          · intro m i _ hi _
            refine ⟨(), ?_, trivial⟩
            show B_X11_run_39 N it cd ct uh ul ur uv uw _ hs (nI cy) (nI j) z _ (nI i) = _
            have g : ¬ nI k ≤ nI i := nI_ge hi (by omega)
            rw [B_X11_run_39, p_ck0, p_cl0, hcd, if_neg g, p_ck (by omega) (by omega), nI_clamp (by omega), (hv i hi).2.1, p_cnt_s]
            by_cases q : ct i = nI cy
            · rw [if_pos q, p_b1]
              rcases (hv i hi).2.2 with u | ⟨h, hh, u⟩
              · rw [u, if_pos (by decide), p_nm, p_nm, nI_1, Int32.add_zero, if_neg (fun w => (of_decide_eq_true w).2 u)]
                simp only [Nat.add_zero]
              · rw [u, if_neg (nI_pos (by omega)), p_nm, p_nm, nI_1, nI_1, if_pos (show p_vot ct (nI cy) vt i = true from decide_eq_true ⟨Or.inr q, fun w => p_n4 h hh (u.symm.trans w)⟩)]
            · rw [if_neg q, p_nm, p_nm, nI_1, Int32.add_zero, if_neg (fun w => (of_decide_eq_true w).1.elim (p_n55 cy (by omega)) q)]
              simp only [Nat.add_zero]
          · intro m _ _
            show B_X11_run_39 N it cd ct uh ul ur uv uw _ hs (nI cy) (nI j) z _ (nI k) = _
            rw [B_X11_run_39, p_ck0, p_cl0, hcd, if_pos (nI_le (Nat.le_refl k) (by omega))]
        rw [e4, show (0 : Int32) = nI 0 from rfl]
        refine p_sim (σ := Nat → Int32) (τ := Nat → Int32)
          (W := fun m i s => wk_loop (fun k46 : (Nat → Int32) → (Nat → Int32) → (Nat → Int32) → Int32 → Int32 → Int32 → Option (Int32 × (Nat → Int32) × (Nat → Int32) × (Nat → Int32)) => B_X10_run_46 N sz co hr kd rk vl (nI k) pc k46) (fun _ _ _ _ _ _ => none) m s od os (nI cy) (nI (p_cnt (p_vot ct (nI cy) vt) k)) (nI i))
          (V := fun m i t => wk_loop (fun k92 : (Nat → Int32) → Int32 → Int32 → Int32 → Option (Int32 × (Nat → Int32)) => B_X11_run_92 N it cd ct uh ul ur uv uw k92) (fun _ _ _ _ => none) m t (nI cy) (nI (p_cnt (p_vot ct (nI cy) vt) k)) (nI i))
          (fun _ s t => RPile (nI k) pc s cd ct t 0 k ∧ ∀ j, 480 ≤ j → t j = hs j)
          (fun A B => ∃ r o od os p, A = some (r, o, od, os) ∧ B = some (r, p) ∧ RPile (nI k) pc o cd ct p 0 k ∧ ∀ j, 480 ≤ j → p j = hs j) k ?_ ?_ k N N 0 st hs (by omega) (by omega) (by omega) ⟨hP0, fun _ _ => rfl⟩
        · rintro m m' i s t hi ⟨hI1, hI2⟩
          have g : ¬ nI k ≤ nI i := nI_ge hi (by omega)
          by_cases q : ct i = nI cy
          · obtain ⟨r, o, p, u1, u2, u3, u4⟩ := q_open N (by omega) hI1 hi (s := 1) (by omega) (by omega)
            refine ⟨o, p, ?_, ?_, u3, fun j hj => (u4 j hj).trans (hI2 j hj)⟩
            · show B_X10_run_46 N sz co hr kd rk vl (nI k) pc _ s od os (nI cy) _ (nI i) = _
              rw [B_X10_run_46, show f_X3_size N (nI k) = some (nI k) from rfl, p_b1, if_neg g, f_X3_countyOf, p_get (by omega) (by omega), p_b1, p_b1, hpc i hi, if_pos q, show (1 : Int32) = nI 1 from rfl, u1, p_b2, p_nm, nI_add]
            · show B_X11_run_92 N it cd ct uh ul ur uv uw _ t (nI cy) _ (nI i) = _
              rw [B_X11_run_92, p_ck0, p_cl0, hcd, if_neg g, p_ck (by omega) (by omega), nI_clamp (by omega), if_pos q, show (1 : Int32) = nI 1 from rfl, u2, p_b2, p_nm, nI_add]
          · refine ⟨s, t, ?_, ?_, hI1, hI2⟩
            · show B_X10_run_46 N sz co hr kd rk vl (nI k) pc _ s od os (nI cy) _ (nI i) = _
              rw [B_X10_run_46, show f_X3_size N (nI k) = some (nI k) from rfl, p_b1, if_neg g, f_X3_countyOf, p_get (by omega) (by omega), p_b1, p_b1, hpc i hi, if_neg q, p_nm, nI_1]
            · show B_X11_run_92 N it cd ct uh ul ur uv uw _ t (nI cy) _ (nI i) = _
              rw [B_X11_run_92, p_ck0, p_cl0, hcd, if_neg g, p_ck (by omega) (by omega), nI_clamp (by omega), if_neg q, p_nm, nI_1]
        · rintro m m' s t ⟨hI1, hI2⟩
          refine ⟨nI (p_cnt (p_vot ct (nI cy) vt) k), s, od, os, t, ?_, ?_, hI1, hI2⟩
          · show B_X10_run_46 N sz co hr kd rk vl (nI k) pc _ s od os (nI cy) _ (nI k) = _
            rw [B_X10_run_46, show f_X3_size N (nI k) = some (nI k) from rfl, p_b1, if_pos (nI_le (Nat.le_refl k) (by omega))]
          · show B_X11_run_92 N it cd ct uh ul ur uv uw _ t (nI cy) _ (nI k) = _
            rw [B_X11_run_92, p_ck0, p_cl0, hcd, if_pos (nI_le (Nat.le_refl k) (by omega))]
      · simp only [if_neg (not_not_intro a), if_neg (not_not_intro b), if_pos c]; exact same _
    · simp only [if_neg (not_not_intro a), if_pos b]; exact same _
  · simp only [if_pos a]; exact same _
