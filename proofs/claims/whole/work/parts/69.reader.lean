/-! PURE: the text's reader, sign by sign -/
/-- a figure stands at a place -/
abbrev p_dgt (T : Nat → Nat) (L k : Nat) : Prop := k < L ∧ 48 ≤ T k ∧ T k ≤ 57
/-- of how many figures, three at most, and what they tell -/
def p_fg (T : Nat → Nat) (L p : Nat) : Nat := if p_dgt T L p then (if p_dgt T L (p + 1) then (if p_dgt T L (p + 2) then 3 else 2) else 1) else 0
def p_vl (T : Nat → Nat) (L p : Nat) : Nat := if p_dgt T L p then (if p_dgt T L (p + 1) then (if p_dgt T L (p + 2) then 10 * (10 * (T p - 48) + (T (p + 1) - 48)) + (T (p + 2) - 48) else 10 * (T p - 48) + (T (p + 1) - 48)) else T p - 48) else 0
theorem p_vl_lt (T : Nat → Nat) (L p : Nat) : p_vl T L p < 1000 := by
  unfold p_vl
  split
  · rename_i a
    split
    · rename_i b
      split
      · rename_i c
        unfold p_dgt at a b c
        omega
      · unfold p_dgt at a b; omega
    · unfold p_dgt at a; omega
  · omega
theorem p_fg_le (T : Nat → Nat) (L p : Nat) : p_fg T L p ≤ 3 := by
  unfold p_fg
  split <;> (try split) <;> (try split) <;> omega
/-- the class's signs -/
theorem p_byteAt (N : Nat) {L : Nat} (hL : L ≤ 200) {tb : Nat → Int32} {T : Nat → Nat} (hT : ∀ k, k < L → T k < 256 ∧ tb k = nI (T k)) {k : Nat} (hk : k < 2 ^ 30) : f_X9_byteAt N (nI L) tb (nI k) = some (if k < L then nI (T k) else -1) := by
  unfold f_X9_byteAt
  by_cases a : k < L
  · rw [if_neg (nI_ge a (by omega)), p_get (by omega) (by omega), p_b1, if_pos a, (hT k a).2]
  · rw [if_pos (nI_le (by omega) (by omega)), if_neg a]
theorem p_isFig (N : Nat) {L : Nat} {T : Nat → Nat} (hT : ∀ k, k < L → T k < 256) {k : Nat} : f_X9_isFigure N (if k < L then nI (T k) else -1) = some (decide (p_dgt T L k)) := by
  unfold f_X9_isFigure
  by_cases a : k < L
  · have h1 := hT k a
    rw [if_pos a, show (48 : Int32) = nI 48 from rfl, show (57 : Int32) = nI 57 from rfl]
    by_cases b : T k < 48
    · rw [if_pos (nI_lt b (by omega)), decide_eq_false (fun c => by unfold p_dgt at c; omega)]
    · rw [if_neg (nI_nlt (by omega) (by omega))]
      by_cases c : 57 < T k
      · rw [if_pos (nI_lt c (by omega)), decide_eq_false (fun d => by unfold p_dgt at d; omega)]
      · rw [if_neg (nI_nlt (by omega) (by omega)), decide_eq_true (show p_dgt T L k by unfold p_dgt; omega)]
  · rw [if_neg a, decide_eq_false (fun c => by unfold p_dgt at c; omega)]
    rfl
/-- a number, as the class reads it: one figure, and the end -/
theorem p_rd1 (N : Nat) {L : Nat} (hL : L ≤ 200) {tb : Nat → Int32} {T : Nat → Nat} (hT : ∀ k, k < L → T k < 256 ∧ tb k = nI (T k)) (k5 : (Nat → Int32) → Int32 → Int32 → Int32 → Int32 → Option (Int32 × (Nat → Int32))) (nm : Nat → Int32) {p j i v : Nat} (hp : p < 1000) (hj : j < 4) (hi : i < 3) :
    (p_dgt T L (p + i) → B_X9_readNumber_5 N (nI L) tb k5 nm (nI p) (nI j) (nI i) (nI v) = k5 nm (nI p) (nI j) (nI (i + 1)) (nI (10 * v + (T (p + i) - 48)))) ∧
    (¬ p_dgt T L (p + i) → B_X9_readNumber_5 N (nI L) tb k5 nm (nI p) (nI j) (nI i) (nI v) = some (nI i, upd nm j (nI v))) := by
  have g : ¬ (3 : Int32) ≤ nI i := nI_ge (b := 3) hi (by omega)
  have fd : ¬ wk_bI true = 0 := by decide
  have fe : wk_bI false = 0 := rfl
  constructor
  · intro h
    rw [B_X9_readNumber_5, if_neg g, nI_add, p_byteAt N hL hT (by omega), p_b1, p_isFig N (fun k hk => (hT k hk).1), p_b1, decide_eq_true h, if_neg fd, p_b1, p_nm, p_nm, if_pos h.1, nI_1,
      show (10 : Int32) = nI 10 from rfl, show (48 : Int32) = nI 48 from rfl, pk_mul, nI_add, pk_sub (by have := h.2.1; omega), show v * 10 + T (p + i) - 48 = 10 * v + (T (p + i) - 48) by have := h.2.1; omega]
  · intro h
    rw [B_X9_readNumber_5, if_neg g, nI_add, p_byteAt N hL hT (by omega), p_b1, p_isFig N (fun k hk => (hT k hk).1), p_b1, decide_eq_false h, if_pos fe, B_X9_readNumber_47, p_set hj (by omega), p_b1]
theorem p_rdn (N : Nat) (hN : 41 ≤ N) {L : Nat} (hL : L ≤ 200) {tb : Nat → Int32} {T : Nat → Nat} (hT : ∀ k, k < L → T k < 256 ∧ tb k = nI (T k)) (nm : Nat → Int32) {p j : Nat} (hp : p < 1000) (hj : j < 4) :
    f_X9_readNumber N (nI L) tb nm (nI p) (nI j) = some (nI (p_fg T L p), upd nm j (nI (p_vl T L p))) := by
  obtain ⟨n, e⟩ : ∃ n, N = n + 4 := ⟨N - 4, by omega⟩
  unfold f_X9_readNumber
  rw [show (0 : Int32) = nI 0 from rfl]
  unfold p_fg p_vl
  have lp : ∀ W nm x y z w, wk_loop (fun k5 : (Nat → Int32) → Int32 → Int32 → Int32 → Int32 → Option (Int32 × (Nat → Int32)) => B_X9_readNumber_5 N (nI L) tb k5) (fun _ _ _ _ _ => none) (W + 1) nm x y z w = B_X9_readNumber_5 N (nI L) tb (wk_loop (fun k5 : (Nat → Int32) → Int32 → Int32 → Int32 → Int32 → Option (Int32 × (Nat → Int32)) => B_X9_readNumber_5 N (nI L) tb k5) (fun _ _ _ _ _ => none) W) nm x y z w := fun _ _ _ _ _ _ => rfl
  rw [show wk_loop (fun k5 : (Nat → Int32) → Int32 → Int32 → Int32 → Int32 → Option (Int32 × (Nat → Int32)) => B_X9_readNumber_5 N (nI L) tb k5) (fun _ _ _ _ _ => none) N = wk_loop (fun k5 : (Nat → Int32) → Int32 → Int32 → Int32 → Int32 → Option (Int32 × (Nat → Int32)) => B_X9_readNumber_5 N (nI L) tb k5) (fun _ _ _ _ _ => none) (n + 4) from congrArg _ e]
  rw [lp]
  by_cases a : p_dgt T L p
  · rw [if_pos a, if_pos a, (p_rd1 N hL hT _ nm (i := 0) hp hj (by omega)).1 a, lp]
    by_cases b : p_dgt T L (p + 1)
    · rw [if_pos b, if_pos b, (p_rd1 N hL hT _ nm (i := 0 + 1) hp hj (by omega)).1 b, lp]
      by_cases c : p_dgt T L (p + 2)
      · rw [if_pos c, if_pos c, (p_rd1 N hL hT _ nm (i := 0 + 1 + 1) hp hj (by omega)).1 c, lp]
        rw [B_X9_readNumber_5, if_pos (show (3 : Int32) ≤ nI (0 + 1 + 1 + 1) by decide), B_X9_readNumber_47, p_set hj (by omega), p_b1]
        simp
      · rw [if_neg c, if_neg c, (p_rd1 N hL hT _ nm (i := 0 + 1 + 1) hp hj (by omega)).2 c]
        simp
    · rw [if_neg b, if_neg b, (p_rd1 N hL hT _ nm (i := 0 + 1) hp hj (by omega)).2 b]
      simp
  · rw [if_neg a, if_neg a, (p_rd1 N hL hT _ nm (i := 0) hp hj (by omega)).2 a]
/-! the check's number -/
theorem p_sb_fig : ∀ b, b < 256 → ((48 ≤ (sb_b b).toInt ∧ (sb_b b).toInt ≤ 57) ↔ (48 ≤ b ∧ b ≤ 57)) := by decide +kernel
theorem p_sb_num : ∀ b, b < 128 → sb_b b = nI b := by decide +kernel
theorem p_sb_44 : ∀ b, b < 256 → (sb_b b = (44 : Int32) ↔ b = 44) := by decide +kernel
theorem p_sb_59 : ∀ b, b < 256 → (sb_b b = (59 : Int32) ↔ b = 59) := by decide +kernel
theorem p_sb_100 : ∀ b, b < 256 → (sb_b b = (100 : Int32) ↔ b = 100) := by decide +kernel
theorem p_sb_109 : ∀ b, b < 256 → (sb_b b = (109 : Int32) ↔ b = 109) := by decide +kernel
theorem p_sb_111 : ∀ b, b < 256 → (sb_b b = (111 : Int32) ↔ b = 111) := by decide +kernel
theorem p_sb_118 : ∀ b, b < 256 → (sb_b b = (118 : Int32) ↔ b = 118) := by decide +kernel
/-- one sign of the check's number -/
theorem p_mn1 (N : Nat) {L : Nat} (hL : L ≤ 200) {ut : Nat → Int32} {T : Nat → Nat} (hT : ∀ k, k < L → T k < 256 ∧ ut k = sb_b (T k)) (k4 : Int32 → Int32 → Int32 → Option (Int32 × Int32)) {q i v : Nat} (hq : q < 2 ^ 30) (hi : i < 2 ^ 30) :
    (p_dgt T L q → B_X11_number_4 N (nI L) ut k4 (nI q) (nI v) (nI i) = k4 (nI (q + 1)) (if i < 3 then nI (10 * v + (T q - 48)) else nI v) (nI (i + 1))) ∧
    (¬ p_dgt T L q → B_X11_number_4 N (nI L) ut k4 (nI q) (nI v) (nI i) = some (if 1 ≤ i ∧ i ≤ 3 then nI v else -1, nI q)) := by
  have fd : ¬ wk_bI true = 0 := by decide
  have fe : wk_bI false = 0 := rfl
  have h80 : B_X11_number_80 N (nI L) ut (nI q) (nI v) (nI i) = some (if 1 ≤ i ∧ i ≤ 3 then nI v else -1, nI q) := by
    rw [B_X11_number_80, p_inI, p_b1, nI_toInt (by omega), show (1 : Int64).toInt = 1 from rfl, show (3 : Int64).toInt = 3 from rfl]
    by_cases a : 1 ≤ i ∧ i ≤ 3
    · rw [decide_eq_true (by omega), if_neg fd, if_pos a]
    · rw [decide_eq_false (by omega), if_pos fe, if_neg a]
  constructor
  · intro h
    obtain ⟨h1, h2, h3⟩ := h
    rw [B_X11_number_4, if_neg (nI_ge h1 (by omega)), p_ck (by omega) (by omega), nI_clamp (by omega), (hT q h1).2, p_inI, p_b1, show (48 : Int64).toInt = 48 from rfl, show (57 : Int64).toInt = 57 from rfl, decide_eq_true ((p_sb_fig _ (hT q h1).1).mpr ⟨h2, h3⟩), if_neg fd]
    by_cases a : i < 3
    · rw [if_neg (show ¬ (3 : Int32) ≤ nI i from nI_ge (b := 3) a (by omega)), p_ck (by omega) (by omega), B_X11_number_63, p_nm, nI_1, nI_1, if_pos a, p_sb_num _ (by omega),
        show (10 : Int32) = nI 10 from rfl, show (48 : Int32) = nI 48 from rfl, pk_mul, nI_add, pk_sub (by omega), show 10 * v + T q - 48 = 10 * v + (T q - 48) by omega]
    · rw [if_pos (show (3 : Int32) ≤ nI i from nI_le (a := 3) (by omega) (by omega)), B_X11_number_63, p_nm, nI_1, nI_1, if_neg a]
  · intro h
    rw [B_X11_number_4]
    by_cases a : q < L
    · rw [if_neg (nI_ge a (by omega)), p_ck (by omega) (by omega), nI_clamp (by omega), (hT q a).2, p_inI, p_b1, show (48 : Int64).toInt = 48 from rfl, show (57 : Int64).toInt = 57 from rfl, decide_eq_false (fun c => h ⟨a, (p_sb_fig _ (hT q a).1).mp c⟩), if_pos fe, h80]
    · rw [if_pos (nI_le (by omega) (by omega)), h80]
abbrev p_mnl (N L : Nat) (ut : Nat → Int32) (m : Nat) : Int32 → Int32 → Int32 → Option (Int32 × Int32) := wk_loop (fun k4 : Int32 → Int32 → Int32 → Option (Int32 × Int32) => B_X11_number_4 N (nI L) ut k4) (fun _ _ _ => none) m
theorem p_mnl_s (N L : Nat) (ut : Nat → Int32) (m : Nat) (x y z : Int32) : p_mnl N L ut (m + 1) x y z = B_X11_number_4 N (nI L) ut (p_mnl N L ut m) x y z := rfl
/-- more than three figures -/
theorem p_mn4 (N : Nat) {L : Nat} (hL : L ≤ 200) {ut : Nat → Int32} {T : Nat → Nat} (hT : ∀ k, k < L → T k < 256 ∧ ut k = sb_b (T k)) (v : Nat) : ∀ (d m q i : Nat), 4 ≤ i → i + d < 1000 → L ≤ q + d → q + d < 1000 → d < m → ∃ q', q' < 1000 ∧ p_mnl N L ut m (nI q) (nI v) (nI i) = some (-1, nI q') := by
  intro d
  induction d with
  | zero =>
    intro m q i h1 h2 h3 h4 h5
    obtain ⟨n, rfl⟩ : ∃ n, m = n + 1 := ⟨m - 1, by omega⟩
    refine ⟨q, by omega, ?_⟩
    rw [p_mnl_s, (p_mn1 N hL hT _ (by omega) (by omega)).2 (fun c => by unfold p_dgt at c; omega), if_neg (by omega)]
  | succ d ih =>
    intro m q i h1 h2 h3 h4 h5
    obtain ⟨n, rfl⟩ : ∃ n, m = n + 1 := ⟨m - 1, by omega⟩
    by_cases a : p_dgt T L q
    · obtain ⟨q', hq', e⟩ := ih n (q + 1) (i + 1) (by omega) (by omega) (by omega) (by omega) (by omega)
      refine ⟨q', hq', ?_⟩
      rw [p_mnl_s, (p_mn1 N hL hT _ (by omega) (by omega)).1 a, if_neg (by omega), e]
    · refine ⟨q, by omega, ?_⟩
      rw [p_mnl_s, (p_mn1 N hL hT _ (by omega) (by omega)).2 a, if_neg (by omega)]
theorem p_mnum (N : Nat) (hN : 401 ≤ N) {L : Nat} (hL : L ≤ 200) {ut : Nat → Int32} {T : Nat → Nat} (hT : ∀ k, k < L → T k < 256 ∧ ut k = sb_b (T k)) {p : Nat} (hp : p ≤ 200) :
    (p_fg T L p ≠ 0 ∧ ¬ p_dgt T L (p + p_fg T L p) → f_X11_number N (nI L) ut (nI p) = some (nI (p_vl T L p), nI (p + p_fg T L p))) ∧
    (¬ (p_fg T L p ≠ 0 ∧ ¬ p_dgt T L (p + p_fg T L p)) → ∃ q', q' < 1000 ∧ f_X11_number N (nI L) ut (nI p) = some (-1, nI q')) := by
  obtain ⟨n, e⟩ : ∃ n, N = n + 5 := ⟨N - 5, by omega⟩
  have e0 : f_X11_number N (nI L) ut (nI p) = p_mnl N L ut (n + 5) (nI p) (nI 0) (nI 0) := by
    unfold f_X11_number
    rw [show (0 : Int32) = nI 0 from rfl]
    exact congrFun (congrFun (congrFun (congrArg (p_mnl N L ut) e) _) _) _
  rw [e0, p_mnl_s]
  unfold p_fg p_vl
  by_cases a : p_dgt T L p
  · rw [if_pos a, if_pos a, (p_mn1 N hL hT _ (by omega) (by omega)).1 a, if_pos (show 0 < 3 by omega), p_mnl_s]
    by_cases b : p_dgt T L (p + 1)
    · rw [if_pos b, if_pos b, (p_mn1 N hL hT _ (by omega) (by omega)).1 b, if_pos (show 0 + 1 < 3 by omega), p_mnl_s]
      by_cases c : p_dgt T L (p + 2)
      · rw [if_pos c, if_pos c, (p_mn1 N hL hT _ (by omega) (by omega)).1 c, if_pos (show 0 + 1 + 1 < 3 by omega), p_mnl_s]
        by_cases d : p_dgt T L (p + 3)
        · refine ⟨fun h => absurd d h.2, fun _ => ?_⟩
          rw [(p_mn1 N hL hT _ (by omega) (by omega)).1 d, if_neg (show ¬ 0 + 1 + 1 + 1 < 3 by omega)]
          exact p_mn4 N hL hT _ 200 (n + 1) (p + 1 + 1 + 1 + 1) (0 + 1 + 1 + 1 + 1) (by omega) (by omega) (by omega) (by omega) (by omega)
        · refine ⟨fun _ => ?_, fun h => absurd ⟨by omega, d⟩ h⟩
          rw [(p_mn1 N hL hT _ (by omega) (by omega)).2 d, if_pos (show 1 ≤ 0 + 1 + 1 + 1 ∧ 0 + 1 + 1 + 1 ≤ 3 by omega)]
          simp
      · rw [if_neg c, if_neg c]
        refine ⟨fun _ => ?_, fun h => absurd ⟨by omega, c⟩ h⟩
        rw [(p_mn1 N hL hT _ (by omega) (by omega)).2 c, if_pos (show 1 ≤ 0 + 1 + 1 ∧ 0 + 1 + 1 ≤ 3 by omega)]
        simp
    · rw [if_neg b, if_neg b]
      refine ⟨fun _ => ?_, fun h => absurd ⟨by omega, b⟩ h⟩
      rw [(p_mn1 N hL hT _ (by omega) (by omega)).2 b, if_pos (show 1 ≤ 0 + 1 ∧ 0 + 1 ≤ 3 by omega)]
      simp
  · rw [if_neg a, if_neg a]
    refine ⟨fun h => absurd rfl h.1, fun _ => ⟨p, by omega, ?_⟩⟩
    rw [(p_mn1 N hL hT _ (by omega) (by omega)).2 a, if_neg (show ¬ (1 ≤ 0 ∧ 0 ≤ 3) by omega)]
