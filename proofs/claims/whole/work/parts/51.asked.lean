/-! PURE: card, vote, counted, count -/
theorem p_lof {x : Int64} (h : 0 ≤ x.toInt) : ∃ K : Nat, K < 2 ^ 63 ∧ x = lN K ∧ x.toInt = K := by
  have hlt := Int64.toInt_lt x
  refine ⟨x.toInt.toNat, by omega, ?_, by omega⟩
  apply Int64.toInt_inj.mp
  rw [show (lN x.toInt.toNat).toInt = (x.toInt.toNat : Int) from lg_ofNat_toInt (by omega)]
  omega
theorem q_card (N : Nat) (hN : 40 ≤ N) {sz : Int32} {co st cd ct hs : Nat → Int32} {n : Nat} (hR : RPile sz co st cd ct hs 0 n) (x : Int32) (y : Int64) :
    ∃ r o0 o1 o2 p1 p2 p3 n', f_X10_card N sz co st x y = some (r, o0, o1, o2) ∧ f_X11_card N cd ct hs x y = some (r, p1, p2, p3) ∧ RPile o0 o1 o2 p1 p2 p3 0 n' ∧ (∀ j, 1 ≤ j → p1 j = cd j) ∧ (∀ j, 40 ≤ j → p2 j = ct j) ∧ ∀ j, 480 ≤ j → p3 j = hs j := by
  have hR0 := hR
  obtain ⟨hn, rfl, hcd, -, -⟩ := hR
  have same : ∀ r : Int32, ∃ r' o0 o1 o2 p1 p2 p3 n', some (r, nI n, co, st) = some (r', o0, o1, o2) ∧ some (r, cd, ct, hs) = some (r', p1, p2, p3) ∧ RPile o0 o1 o2 p1 p2 p3 0 n' ∧ (∀ j, 1 ≤ j → p1 j = cd j) ∧ (∀ j, 40 ≤ j → p2 j = ct j) ∧ ∀ j, 480 ≤ j → p3 j = hs j :=
    fun r => ⟨r, _, _, _, _, _, _, n, rfl, rfl, hR0, fun _ _ => rfl, fun _ _ => rfl, fun _ _ => rfl⟩
  unfold f_X10_card f_X11_card
  simp only [p_isCounty, p_in, p_i2l, p_b1, p_bI, decide_eq_false_iff_not, p_lcmp, show (0 : Int64).toInt = 0 from rfl, show (4 : Int64).toInt = 4 from rfl, show (2176782335 : Int64).toInt = 2176782335 from rfl, show (2176782336 : Int64).toInt = 2176782336 from rfl]
  by_cases a : 0 ≤ x.toInt ∧ x.toInt ≤ 4
  · simp only [if_neg (not_not_intro a)]
    by_cases b : 0 ≤ y.toInt ∧ y.toInt ≤ 2176782335
    · simp only [if_neg (not_not_intro b), if_neg (show ¬ y.toInt < 0 by omega), if_pos (show y.toInt < 2176782336 by omega)]
      rw [p_ck0, p_cl0, hcd]
      by_cases c : n < 40
      · obtain ⟨i, hi, rfl⟩ := p_of (n := 4) a.1 a.2
        obtain ⟨K, hK, rfl, -⟩ := p_lof b.1
        have g : ¬ nI n = (40 : Int32) := fun q => by
          have := congrArg Int32.toInt q
          rw [nI_toInt (by omega), show (40 : Int32).toInt = 40 from rfl] at this
          omega
        obtain ⟨o1, o2, p1, p2, p3, e1, e2, hR2, f1, f2, f3⟩ := q_add N hN hR0 c (c := i) (by omega) hK
        rw [if_neg g, e1, e2, p_b4]
        exact ⟨_, _, _, _, _, _, _, n + 1, rfl, rfl, hR2, f1, f2, f3⟩
      · have e : n = 40 := by omega
        subst e
        unfold f_X3_add
        rw [if_pos (show nI 40 = (40 : Int32) from rfl), if_neg (show ¬ nI 40 < (40 : Int32) from by decide), p_b4]
        exact same _
    · simp only [if_pos b]
      by_cases c : y.toInt < 0
      · rw [if_pos c]; exact same _
      · rw [if_neg c, if_neg (by omega)]; exact same _
  · simp only [if_pos a]
    exact same _
theorem q_vote (N : Nat) (hN : 41 ≤ N) {sz it : Int32} {co hr kd rk vl uh ul ur uv uw : Nat → Int32} {n : Nat} (hR : ROrd sz co hr kd rk vl it uh ul ur uv uw n) {pz : Int32} {pc st cd ct hs : Nat → Int32} {k : Nat} (hP : RPile pz pc st cd ct hs 0 k) (dm ss : Nat → Int32) (x y z w : Int32) :
    ∃ r od os, f_X10_vote N sz co hr kd rk vl pz pc st dm ss x y z w = some (r, od, os) ∧ f_X11_vote N it cd ct hs uh ul ur uv uw x y z w = some r := by
  have hP0 := hP
  obtain ⟨hk, rfl, hcd, -, -⟩ := hP
  unfold f_X10_vote f_X11_vote f_X8_readIn f_X8_choiceOf
  simp only [p_has N k hk, p_isCard N k hk cd hcd, p_isRace, p_isHour, p_mhour, p_inI, p_b1, p_bI, decide_eq_false_iff_not, show (0 : Int64).toInt = 0 from rfl, show (2 : Int64).toInt = 2 from rfl]
  by_cases a : 0 ≤ x.toInt ∧ x.toInt < k
  · by_cases b : 0 ≤ y.toInt ∧ y.toInt ≤ 2
    · by_cases c : 0 ≤ z.toInt ∧ z.toInt ≤ 999
      · simp only [if_neg (not_not_intro a), if_neg (not_not_intro b), if_neg (not_not_intro c)]
        obtain ⟨i, hi, rfl⟩ := p_rng a.1 a.2
        obtain ⟨j, hj, rfl⟩ := p_of (n := 2) b.1 b.2
        obtain ⟨od, os, e1, hD⟩ := q_readIn N hN hR dm ss z w
        obtain ⟨v, e2, e3, -⟩ := q_vote1 N hN hR hP0 hD hi (r := j) (by omega)
        rw [e1, p_b2, p_b2, e2, e3]
        exact ⟨_, _, _, rfl, rfl⟩
      · simp only [if_neg (not_not_intro a), if_neg (not_not_intro b), if_pos c]; exact ⟨_, _, _, rfl, rfl⟩
    · simp only [if_neg (not_not_intro a), if_pos b]; exact ⟨_, _, _, rfl, rfl⟩
  · simp only [if_pos a]; exact ⟨_, _, _, rfl, rfl⟩
theorem p_cnt_c {f g : Nat → Bool} : ∀ {n : Nat}, (∀ k, k < n → f k = g k) → p_cnt f n = p_cnt g n
  | 0, _ => rfl
  | n + 1, h => by rw [p_cnt_s, p_cnt_s, p_cnt_c (fun k hk => h k (by omega)), h n (by omega)]
/-- the votes of all cards in one function -/
theorem p_vts (N : Nat) (hN : 41 ≤ N) {sz it : Int32} {co hr kd rk vl uh ul ur uv uw : Nat → Int32} {n : Nat} (hR : ROrd sz co hr kd rk vl it uh ul ur uv uw n) {pz : Int32} {pc st cd ct hs : Nat → Int32} {k : Nat} (hP : RPile pz pc st cd ct hs 0 k) {t mach : Int32} {od os : Nat → Int32} (hD : RRead N sz co hr kd rk vl t mach od os) {r : Nat} (hr3 : r < 3) :
    ∃ vt : Nat → Int32, ∀ c, c < k → f_X4_choiceOf N pc st od os (nI c) (nI r) = some (vt c) ∧ f_X11_voteOf N it ct hs uh ul ur uv uw (nI c) (nI r) t mach = some (vt c) ∧ (vt c = -4 ∨ ∃ h, h < 4 ∧ vt c = nI h) := by
  have h : ∀ c : Nat, ∃ v : Int32, c < k → f_X4_choiceOf N pc st od os (nI c) (nI r) = some v ∧ f_X11_voteOf N it ct hs uh ul ur uv uw (nI c) (nI r) t mach = some v ∧ (v = -4 ∨ ∃ h, h < 4 ∧ v = nI h) := fun c => by
    by_cases hc : c < k
    · obtain ⟨v, h⟩ := q_vote1 N hN hR hP hD hc hr3
      exact ⟨v, fun _ => h⟩
    · exact ⟨0, fun q => (hc q).elim⟩
  exact ⟨fun c => Classical.choose (h c), fun c => Classical.choose_spec (h c)⟩
/-- county by county, all counts: the class in one sum, the check one by one -/
theorem q_cnt (N : Nat) (hN : 41 ≤ N) {sz it : Int32} {co hr kd rk vl uh ul ur uv uw : Nat → Int32} {n : Nat} (hR : ROrd sz co hr kd rk vl it uh ul ur uv uw n) {pz : Int32} {pc st cd ct hs : Nat → Int32} {k : Nat} (hP : RPile pz pc st cd ct hs 0 k) {t mach : Int32} {od os : Nat → Int32} (hD : RRead N sz co hr kd rk vl t mach od os) {r : Nat} (hr3 : r < 3) (cy : Int32) :
    ∃ c : Nat → Nat, (∀ g, c g ≤ 40) ∧ f_X8_sum N pz pc st od os cy (nI r) = some (nI (p_pk c)) ∧ ∀ h, f_X11_countedOf N it cd ct hs uh ul ur uv uw cy (nI r) (nI h) t mach = some (nI (c h)) := by
  obtain ⟨vt, hv⟩ := p_vts N hN hR hP hD hr3
  obtain ⟨hk, rfl, hcd, hco, -⟩ := hP
  refine ⟨fun g => p_cnt (p_sel pc cy vt g) k, fun g => Nat.le_trans (p_cnt_le _ _) hk, q_sum N hN hk (fun c hc => (hv c hc).1) (fun c hc => (hv c hc).2.2) cy, fun h => ?_⟩
  rw [q_counted1 N hN hk hcd (fun c hc => (hv c hc).2.1) cy h]
  congr 2
  refine p_cnt_c fun c hc => ?_
  have e := (hco c hc).1
  rw [Nat.mul_zero, Nat.zero_add] at e
  unfold p_sel
  rw [e]
theorem q_counted (N : Nat) (hN : 41 ≤ N) {sz it : Int32} {co hr kd rk vl uh ul ur uv uw : Nat → Int32} {n : Nat} (hR : ROrd sz co hr kd rk vl it uh ul ur uv uw n) {pz : Int32} {pc st cd ct hs : Nat → Int32} {k : Nat} (hP : RPile pz pc st cd ct hs 0 k) (dm ss : Nat → Int32) (x y z w u : Int32) :
    ∃ r od os, f_X10_counted N sz co hr kd rk vl pz pc st dm ss x y z w u = some (r, od, os) ∧ f_X11_counted N it cd ct hs uh ul ur uv uw x y z w u = some r := by
  unfold f_X10_counted f_X11_counted f_X8_readIn f_X10_isCountyOrAll
  simp only [p_isCounty, p_isRace, p_isHole, p_isHour, p_mhour, p_inI, p_b1, p_bI, decide_eq_false_iff_not, show (0 : Int64).toInt = 0 from rfl, show (2 : Int64).toInt = 2 from rfl, show (3 : Int64).toInt = 3 from rfl, show (5 : Int64).toInt = 5 from rfl]
  have hx : (if x = (5 : Int32) then some true else if ¬ (0 ≤ x.toInt ∧ x.toInt ≤ 4) then some false else some true) = some (decide (0 ≤ x.toInt ∧ x.toInt ≤ 5)) := by
    by_cases a : x = 5
    · subst a; rfl
    · have a' : ¬ x.toInt = 5 := fun q => a (Int32.toInt_inj.mp q)
      rw [if_neg a]
      by_cases b : 0 ≤ x.toInt ∧ x.toInt ≤ 4
      · rw [if_neg (not_not_intro b), decide_eq_true (by omega)]
      · rw [if_pos b, decide_eq_false (by omega)]
  simp only [hx, p_b1, p_bI, decide_eq_false_iff_not]
  by_cases a : 0 ≤ x.toInt ∧ x.toInt ≤ 5
  · by_cases b : 0 ≤ y.toInt ∧ y.toInt ≤ 2
    · by_cases c : 0 ≤ z.toInt ∧ z.toInt ≤ 3
      · by_cases d : 0 ≤ w.toInt ∧ w.toInt ≤ 999
        · simp only [if_neg (not_not_intro a), if_neg (not_not_intro b), if_neg (not_not_intro c), if_neg (not_not_intro d)]
          obtain ⟨j, hj, rfl⟩ := p_of (n := 2) b.1 b.2
          obtain ⟨h, hh, rfl⟩ := p_of (n := 3) c.1 c.2
          obtain ⟨od, os, e1, hD⟩ := q_readIn N hN hR dm ss w u
          obtain ⟨f, f1, f2, f3⟩ := q_cnt N hN hR hP hD (r := j) (by omega) x
          rw [e1, p_b2, p_b2, f2, f3, p_b1, p_for N f (fun g => by have := f1 g; omega) (by omega), p_b1, p_b1]
          exact ⟨_, _, _, rfl, rfl⟩
        · simp only [if_neg (not_not_intro a), if_neg (not_not_intro b), if_neg (not_not_intro c), if_pos d]; exact ⟨_, _, _, rfl, rfl⟩
      · simp only [if_neg (not_not_intro a), if_neg (not_not_intro b), if_pos c]; exact ⟨_, _, _, rfl, rfl⟩
    · simp only [if_neg (not_not_intro a), if_pos b]; exact ⟨_, _, _, rfl, rfl⟩
  · simp only [if_pos a]; exact ⟨_, _, _, rfl, rfl⟩
theorem q_count (N : Nat) (hN : 481 ≤ N) {sz it ls lv kp tl : Int32} {hz : sz = it} {pz : Int32} {pc st cd ct hs : Nat → Int32} {k : Nat} (hP : RPile pz pc st cd ct hs 0 k) (x : Int32) : ∃ r, f_X10_count N kp sz pz st ls lv tl x = some r ∧ f_X11_count N kp tl it ls lv cd hs x = some r := by
  subst hz
  obtain ⟨hk, rfl, hcd, -, hst⟩ := hP
  have hst' : ∀ j, j < 12 * k → st j = hs j := fun j hj => by
    have := (hst j hj).1
    rw [Nat.mul_zero, Nat.zero_add] at this
    exact this
  have h1 : f_X3_notWhole N (nI k) st = some (nI (p_cnt (fun j => !decide (hs j ≤ 0)) (12 * k))) := by
    unfold f_X3_notWhole
    obtain ⟨z, hz⟩ : ∃ z : Nat, z = 0 := ⟨_, rfl⟩
    have e1 : wk_loop (fun k4 : Int32 → Int32 → Option Int32 => B_X3_notWhole_4 N (nI k) st k4) (fun _ _ => none) N (0 : Int32) (0 : Int32) = wk_loop (fun k4 : Int32 → Int32 → Option Int32 => B_X3_notWhole_4 N (nI k) st k4) (fun _ _ => none) N (nI (p_cnt (fun j => !decide (hs j ≤ 0)) z)) (nI z) := by rw [hz]; rfl
    rw [e1]
    refine p_run (σ := Unit) (W := fun m i _ => wk_loop (fun k4 : Int32 → Int32 → Option Int32 => B_X3_notWhole_4 N (nI k) st k4) (fun _ _ => none) m (nI (p_cnt (fun j => !decide (hs j ≤ 0)) i)) (nI i)) (fun _ _ => True) (fun A => A = some (nI (p_cnt (fun j => !decide (hs j ≤ 0)) (12 * k)))) (12 * k) ?_ ?_ (12 * k) N z () (by omega) (by omega) trivial
    · intro m i _ hi _
      refine ⟨(), ?_, trivial⟩
      show B_X3_notWhole_4 N (nI k) st _ _ (nI i) = _
      have g : ¬ (nI k * (12 : Int32)) ≤ nI i := by
        rw [show (12 : Int32) = nI 12 from rfl, pk_mul]
        exact nI_ge (by omega) (by omega)
      rw [B_X3_notWhole_4, if_neg g, p_get (by omega) (by omega), p_b1, hst' i hi]
      by_cases q : hs i ≤ 0
      · rw [if_pos q, p_nm, nI_1, p_cnt_s, if_neg (by simp [q])]; simp only [Nat.add_zero]
      · rw [if_neg q, p_nm, p_nm, nI_1, nI_1, p_cnt_s, if_pos (by simp [q])]
    · intro m _ _
      show B_X3_notWhole_4 N (nI k) st _ _ (nI (12 * k)) = _
      rw [B_X3_notWhole_4, if_pos]
      rw [show (12 : Int32) = nI 12 from rfl, pk_mul, Nat.mul_comm]
      exact nI_le (Nat.le_refl _) (by omega)
  have h2 : f_X11_count N kp tl sz ls lv cd hs x = if x = (0 : Int32) then some (nI k) else if x = (1 : Int32) then some (nI (p_cnt (fun j => !decide (hs j ≤ 0)) (12 * k))) else if x = (2 : Int32) then some tl else if x = (3 : Int32) then some sz else if x = (4 : Int32) then some ls else if x = (5 : Int32) then some lv else if x = (6 : Int32) then some kp else some (-1 : Int32) := by
    unfold f_X11_count
    obtain ⟨z, hz⟩ : ∃ z : Nat, z = 0 := ⟨_, rfl⟩
    have e1 : wk_loop (fun k4 : Int32 → Int32 → Int32 → Option Int32 => B_X11_count_4 N kp tl sz ls lv cd hs k4) (fun _ _ _ => none) N x (0 : Int32) (0 : Int32) = wk_loop (fun k4 : Int32 → Int32 → Int32 → Option Int32 => B_X11_count_4 N kp tl sz ls lv cd hs k4) (fun _ _ _ => none) N x (nI (p_cnt (fun j => !decide (hs j ≤ 0)) z)) (nI z) := by rw [hz]; rfl
    rw [e1]
    refine p_run (σ := Unit) (W := fun m i _ => wk_loop (fun k4 : Int32 → Int32 → Int32 → Option Int32 => B_X11_count_4 N kp tl sz ls lv cd hs k4) (fun _ _ _ => none) m x (nI (p_cnt (fun j => !decide (hs j ≤ 0)) i)) (nI i)) (fun _ _ => True) (fun A => A = if x = (0 : Int32) then some (nI k) else if x = (1 : Int32) then some (nI (p_cnt (fun j => !decide (hs j ≤ 0)) (12 * k))) else if x = (2 : Int32) then some tl else if x = (3 : Int32) then some sz else if x = (4 : Int32) then some ls else if x = (5 : Int32) then some lv else if x = (6 : Int32) then some kp else some (-1 : Int32)) (12 * k) ?_ ?_ (12 * k) N z () (by omega) (by omega) trivial
    · intro m i _ hi _
      refine ⟨(), ?_, trivial⟩
      show B_X11_count_4 N kp tl sz ls lv cd hs _ x _ (nI i) = _
      have g : ¬ ((12 : Int32) * nI k) ≤ nI i := by
        rw [show (12 : Int32) = nI 12 from rfl, pk_mul]
        exact nI_ge (by omega) (by omega)
      rw [B_X11_count_4, p_ck0, p_cl0, hcd, if_neg g, p_ck (by omega) (by omega), nI_clamp (by omega)]
      by_cases q : hs i ≤ 0
      · rw [if_pos q, p_nm, p_nm, nI_1, p_cnt_s, if_neg (by simp [q]), Int32.add_zero]; simp only [Nat.add_zero]
      · rw [if_neg q, p_nm, p_nm, nI_1, nI_1, p_cnt_s, if_pos (by simp [q])]
    · intro m _ _
      show B_X11_count_4 N kp tl sz ls lv cd hs _ x _ (nI (12 * k)) = _
      have g : ((12 : Int32) * nI k) ≤ nI (12 * k) := by
        rw [show (12 : Int32) = nI 12 from rfl, pk_mul]
        exact nI_le (Nat.le_refl _) (by omega)
      rw [B_X11_count_4, p_ck0, p_cl0, hcd, if_pos g, p_ck0]
  rw [h2]
  unfold f_X10_count f_X3_size f_X9_length f_X1_size f_X5_listedSize f_X5_votersSize f_X2_size
  rw [h1]
  simp only [p_b1]
  by_cases c0 : x = (0 : Int32)
  · simp only [if_pos c0]; exact ⟨_, rfl, rfl⟩
  simp only [if_neg c0]
  by_cases c1 : x = (1 : Int32)
  · simp only [if_pos c1]; exact ⟨_, rfl, rfl⟩
  simp only [if_neg c1]
  by_cases c2 : x = (2 : Int32)
  · simp only [if_pos c2]; exact ⟨_, rfl, rfl⟩
  simp only [if_neg c2]
  by_cases c3 : x = (3 : Int32)
  · simp only [if_pos c3]; exact ⟨_, rfl, rfl⟩
  simp only [if_neg c3]
  by_cases c4 : x = (4 : Int32)
  · simp only [if_pos c4]; exact ⟨_, rfl, rfl⟩
  simp only [if_neg c4]
  by_cases c5 : x = (5 : Int32)
  · simp only [if_pos c5]; exact ⟨_, rfl, rfl⟩
  simp only [if_neg c5]
  by_cases c6 : x = (6 : Int32)
  · simp only [if_pos c6]; exact ⟨_, rfl, rfl⟩
  simp only [if_neg c6]
  exact ⟨_, rfl, rfl⟩
