/-! PURE: the lists -/
def RRoll (th : Int32) (al : Nat → Int32) (lim ls : Int32) (ld ll sg : Nat → Int32) (vlim vs : Int32) (vc vd vl : Nat → Int32) (ul uv un : Int32) (uld : Nat → Int32) (uln : Nat → Int64) (uvc uvd : Nat → Int32) (uvn : Nat → Int64) (na nb : Nat) : Prop :=
  nb ≤ 8 ∧ na ≤ 12 ∧ ls = nI nb ∧ ul = nI nb ∧ lim = 8 ∧ vs = nI na ∧ uv = nI na ∧ vlim = 12 ∧ th = un ∧ (1 ≤ un.toInt ∧ un.toInt ≤ 100) ∧
  (∀ b, b < nb → ld b = uld b ∧ p_ltrs ll b (uln b) ∧ ∃ n, p_name (uln b) n) ∧
  (∀ a, a < na → vd a = uvd a ∧ vc a = uvc a ∧ (∃ c, c < 5 ∧ vc a = nI c) ∧ p_ltrs vl a (uvn a) ∧ ∃ m, p_name (uvn a) m) ∧
  (∀ a, a < na → ∀ b, b < nb → ∃ m n, p_name (uvn a) m ∧ p_name (uln b) n ∧ al (8 * a + b) = nI (p_alk (uvn a) (uln b) m n) ∧ sg (8 * a + b) = nI (p_str2 (p_alk (uvn a) (uln b) m n) (vd a) (ld b)))
theorem p_isDay (N : Nat) (x : Int32) : f_X10_isDay N x = some (decide (-1 ≤ x.toInt ∧ x.toInt ≤ 36500)) := by
  unfold f_X10_isDay
  simp only [p_toInt_lt, show (-1 : Int32).toInt = -1 from rfl, show (36500 : Int32).toInt = 36500 from rfl]
  by_cases a : x.toInt < -1
  · rw [if_pos a, decide_eq_false (by omega)]
  · rw [if_neg a]
    by_cases b : 36500 < x.toInt
    · rw [if_pos b, decide_eq_false (by omega)]
    · rw [if_neg b, decide_eq_true (by omega)]
theorem q_addName (N : Nat) (hN : 41 ≤ N) {nc nd nl k L : Nat} {sz lim : Int32} {c d l : Nat → Int32} (hsz : sz = nI k) (hlim : lim = nI L) (hk : k < L) (hL : L ≤ 12) (hnc : L ≤ nc) (hnc2 : nc ≤ 2000) (hnd : L ≤ nd) (hnd2 : nd ≤ 2000) (hnl : 8 * L ≤ nl) (hnl2 : nl ≤ 2000) (x : Int64) (day cy : Int32) :
    ∃ l', f_X2_add N nc nd nl lim sz c d l x day cy = some (nI k, nI (k + 1), upd c k cy, upd d k day, l') ∧ p_ltrs l' k x ∧ ∀ j, j < 8 * k → l' j = l j := by
  subst hsz; subst hlim
  unfold f_X2_add
  rw [if_pos (nI_lt hk (by omega))]
  obtain ⟨e, he⟩ : ∃ e : Nat, e = 8 := ⟨_, rfl⟩
  rw [show (0 : Int32) = nI 0 from rfl]
  refine p_run (σ := Nat → Int32) (W := fun m i s => wk_loop (fun k17 : Int32 → (Nat → Int32) → (Nat → Int32) → (Nat → Int32) → Int64 → Int32 → Int32 → Int32 → Option (Int32 × Int32 × (Nat → Int32) × (Nat → Int32) × (Nat → Int32)) => B_X2_add_17 N nc nd nl (nI L) k17) (fun _ _ _ _ _ _ _ _ => none) m (nI k) c d s x day cy (nI i)) (fun i s => (∀ j, j < i → s (8 * k + j) = nI (p_lt x j)) ∧ ∀ j, j < 8 * k → s j = l j) (fun A => ∃ l', A = some (nI k, nI (k + 1), upd c k cy, upd d k day, l') ∧ p_ltrs l' k x ∧ ∀ j, j < 8 * k → l' j = l j) e ?_ ?_ 8 N 0 l (by omega) (by omega) ⟨fun j hj => by omega, fun _ _ => rfl⟩
  · rintro m i s hi ⟨h1, h2⟩
    refine ⟨upd s (8 * k + i) (nI (p_lt x i)), ?_, fun j hj => ?_, fun j hj => by rw [pk_un (by omega)]; exact h2 j hj⟩
    · show B_X2_add_17 N nc nd nl (nI L) _ (nI k) c d s x day cy (nI i) = _
      rw [B_X2_add_17, if_neg (show ¬ (8 : Int32) ≤ nI i from nI_ge (b := 8) (by omega) (by omega)), p_let N x (by omega), p_b1, show (nI k * (8 : Int32)) + nI i = nI (8 * k + i) from by rw [show (8 : Int32) = nI 8 from rfl, pk_mul, nI_add, Nat.mul_comm], p_set (by omega) hnl2, p_b1, p_nm, nI_1]
    · by_cases w : j = i
      · rw [w, pk_us]
      · rw [pk_un (by omega)]; exact h1 j (by omega)
  · rintro m s ⟨h1, h2⟩
    refine ⟨s, ?_, fun j hj => h1 j (by omega), h2⟩
    show B_X2_add_17 N nc nd nl (nI L) _ (nI k) c d s x day cy (nI e) = _
    rw [B_X2_add_17, if_pos (show (8 : Int32) ≤ nI e from nI_le (a := 8) (by omega) (by omega)), p_set (by omega) hnd2, p_b1, p_set (by omega) hnc2, p_b1, nI_1, show (1 : Int32) = nI 1 from rfl, pk_sub (by omega), Nat.add_sub_cancel]
theorem p_has2 (N : Nat) {k : Nat} (hk : k < 2 ^ 31) (x : Int32) : f_X2_has N (nI k) x = some (decide (0 ≤ x.toInt ∧ x.toInt < k)) := by
  unfold f_X2_has
  simp only [p_toInt_lt, p_toInt_le, show (0 : Int32).toInt = 0 from rfl, nI_toInt hk]
  by_cases a : x.toInt < 0
  · rw [if_pos a, decide_eq_false (by omega)]
  · rw [if_neg a]
    by_cases b : (k : Int) ≤ x.toInt
    · rw [if_pos b, decide_eq_false (by omega)]
    · rw [if_neg b, decide_eq_true (by omega)]
theorem p_lim {k : Nat} (hk : k < 2 ^ 30) : (nI k - (1 : Int32)).toInt64.toInt = (k : Int) - 1 := by
  rw [p_i2l, show (1 : Int32) = nI 1 from rfl, pk_sub_toInt hk (by omega)]
  rfl
theorem q_like (N : Nat) (hN : 41 ≤ N) {th : Int32} {al : Nat → Int32} {lim ls : Int32} {ld ll sg : Nat → Int32} {vlim vs : Int32} {vc vd vl : Nat → Int32} {ul uv un : Int32} {uld : Nat → Int32} {uln : Nat → Int64} {uvc uvd : Nat → Int32} {uvn : Nat → Int64} {na nb : Nat} (hR : RRoll th al lim ls ld ll sg vlim vs vc vd vl ul uv un uld uln uvc uvd uvn na nb) (x y : Int32) : ∃ r, f_X10_like N al ls vs x y = some r ∧ f_X11_like N ul uv uln uvn x y = some r := by
  obtain ⟨hb, ha, rfl, rfl, -, rfl, rfl, -, -, -, -, -, hp⟩ := hR
  unfold f_X10_like f_X11_like f_X5_hasVoter f_X5_hasListed f_X11_isVoter
  simp only [p_has2 N (show na < 2 ^ 31 by omega), p_has2 N (show nb < 2 ^ 31 by omega), p_in, p_lim (show na < 2 ^ 30 by omega), p_lim (show nb < 2 ^ 30 by omega), p_i2l, p_b1, p_bI, decide_eq_false_iff_not, show (0 : Int64).toInt = 0 from rfl]
  by_cases a : 0 ≤ x.toInt ∧ x.toInt < na
  · rw [if_neg (not_not_intro a), if_neg (show ¬ ¬ (0 ≤ x.toInt ∧ x.toInt ≤ (na : Int) - 1) by omega)]
    by_cases b : 0 ≤ y.toInt ∧ y.toInt < nb
    · rw [if_neg (not_not_intro b), if_neg (show ¬ ¬ (0 ≤ y.toInt ∧ y.toInt ≤ (nb : Int) - 1) by omega)]
      obtain ⟨i, hi, rfl⟩ := p_rng a.1 a.2
      obtain ⟨j, hj, rfl⟩ := p_rng b.1 b.2
      obtain ⟨m, n, h1, h2, h3, h4⟩ := hp i hi j hj
      rw [q_likeOf N hN (by omega) (by omega) h1 h2, p_b1]
      unfold f_X5_alikeness f_X5_pair
      rw [p_b1, show (nI i * (8 : Int32)) + nI j = nI (8 * i + j) from by rw [show (8 : Int32) = nI 8 from rfl, pk_mul, nI_add, Nat.mul_comm], p_get (by omega) (by omega), p_b1, p_b1, h3]
      exact ⟨_, rfl, rfl⟩
    · rw [if_pos b, if_pos (show ¬ (0 ≤ y.toInt ∧ y.toInt ≤ (nb : Int) - 1) by omega)]
      exact ⟨_, rfl, rfl⟩
  · rw [if_pos a, if_pos (show ¬ (0 ≤ x.toInt ∧ x.toInt ≤ (na : Int) - 1) by omega)]
    exact ⟨_, rfl, rfl⟩
