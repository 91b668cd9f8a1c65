/-! PURE: how like two names are -/
theorem p_nI0 {a : Nat} (ha : a < 2 ^ 31) : nI a = (0 : Int32) ↔ a = 0 := by
  constructor
  · intro w
    have := congrArg Int32.toInt w
    rw [nI_toInt ha, show (0 : Int32).toInt = 0 from rfl] at this
    omega
  · intro w; rw [w]; rfl
theorem p_nIe {a b : Nat} (ha : a < 2 ^ 31) (hb : b < 2 ^ 31) : nI a = nI b ↔ a = b := by
  constructor
  · intro w
    have := congrArg Int32.toInt w
    rw [nI_toInt ha, nI_toInt hb] at this
    omega
  · intro w; rw [w]
/-- the letters of a name as the class keeps them -/
def p_ltrs (lt : Nat → Int32) (a : Nat) (x : Int64) : Prop := ∀ j, j < 8 → lt (8 * a + j) = nI (p_lt x j)
theorem p_letr (N : Nat) {L : Nat} {lt : Nat → Int32} {a : Nat} {x : Int64} (h : p_ltrs lt a x) (hL : 8 * a + 8 ≤ L) (hL2 : L ≤ 2000) {j : Nat} (hj : j < 8) : f_X2_letter N L lt (nI a) (nI j) = some (nI (p_lt x j)) := by
  unfold f_X2_letter
  rw [show (8 : Int32) = nI 8 from rfl, pk_mul, nI_add, Nat.mul_comm, p_get (by omega) hL2, p_b1, h j hj]
theorem q_len (N : Nat) (hN : 41 ≤ N) {L : Nat} {lt : Nat → Int32} {a : Nat} {x : Int64} {n : Nat} (hx : p_name x n) (h : p_ltrs lt a x) (hL : 8 * a + 8 ≤ L) (hL2 : L ≤ 2000) : f_X2_nameLength N L lt (nI a) = some (nI n) := by
  unfold f_X2_nameLength
  obtain ⟨e, he⟩ : ∃ e : Nat, e = 8 := ⟨_, rfl⟩
  obtain ⟨z, hz⟩ : ∃ z : Nat, z = 0 := ⟨_, rfl⟩
  obtain ⟨h1, h2, h3⟩ := hx
  rw [show (0 : Int32) = nI z from by rw [hz]; rfl]
  refine p_run (σ := Nat) (W := fun m i s => wk_loop (fun k4 : Int32 → Int32 → Int32 → Option Int32 => B_X2_nameLength_4 N L lt k4) (fun _ _ _ => none) m (nI a) (nI s) (nI i)) (fun i s => s = if i < n then i else n) (fun A => A = some (nI n)) e ?_ ?_ 8 N z z (by omega) (by omega) (by rw [hz]; by_cases w : 0 < n <;> simp [w] <;> omega)
  · intro m i s hi hI
    have g : ¬ (8 : Int32) ≤ nI i := nI_ge (b := 8) (by omega) (by omega)
    have hl := p_lt_lt x i
    by_cases w : i < n
    · rw [if_pos w] at hI
      refine ⟨s + 1, ?_, by by_cases u : i + 1 < n <;> simp [u] <;> omega⟩
      show B_X2_nameLength_4 N L lt _ (nI a) (nI s) (nI i) = _
      have := h2 i w
      rw [B_X2_nameLength_4, if_neg g, p_letr N h hL hL2 (by omega), p_b1, if_neg (fun u => by have := (p_nI0 (by omega)).mp u; omega), p_nm, p_nm, nI_1, nI_1]
    · rw [if_neg w] at hI
      refine ⟨s, ?_, by rw [if_neg (by omega)]; exact hI⟩
      show B_X2_nameLength_4 N L lt _ (nI a) (nI s) (nI i) = _
      rw [B_X2_nameLength_4, if_neg g, p_letr N h hL hL2 (by omega), p_b1, if_pos ((p_nI0 (by omega)).mpr (h3 i (by omega) (by omega))), p_nm, nI_1]
  · intro m s hI
    rw [if_neg (by omega)] at hI
    subst hI
    show B_X2_nameLength_4 N L lt _ (nI a) (nI s) (nI e) = _
    rw [B_X2_nameLength_4, if_pos (show (8 : Int32) ≤ nI e from nI_le (a := 8) (by omega) (by omega))]
theorem q_long (N : Nat) (hN : 41 ≤ N) {x : Int64} {n : Nat} (hx : p_name x n) : f_X11_long1 N x = some (nI n) := by
  unfold f_X11_long1
  obtain ⟨h1, h2, h3⟩ := hx
  rw [show (0 : Int32) = nI 0 from rfl]
  have fin : ∀ m, wk_loop (fun k2 : Int64 → Int32 → Option Int32 => B_X11_long1_2 N k2) (fun _ _ => none) (m + 1) x (nI n) = some (nI n) := fun m => by
    show B_X11_long1_2 N _ x (nI n) = _
    by_cases w : n = 8
    · rw [B_X11_long1_2, if_pos (show (8 : Int32) ≤ nI n from nI_le (a := 8) (by omega) (by omega))]
    · rw [B_X11_long1_2, if_neg (show ¬ (8 : Int32) ≤ nI n from nI_ge (b := 8) (by omega) (by omega)), p_sgn N x (by omega), p_b1, if_pos ((p_nI0 (by have := p_lt_lt x n; omega)).mpr (h3 n (by omega) (by omega)))]
  refine p_run (σ := Unit) (W := fun m i _ => wk_loop (fun k2 : Int64 → Int32 → Option Int32 => B_X11_long1_2 N k2) (fun _ _ => none) m x (nI i)) (fun _ _ => True) (fun A => A = some (nI n)) n ?_ (fun m _ _ => fin m) n N 0 () (by omega) (by omega) trivial
  intro m i _ hi _
  refine ⟨(), ?_, trivial⟩
  have := h2 i hi
  show B_X11_long1_2 N _ x (nI i) = _
  rw [B_X11_long1_2, if_neg (show ¬ (8 : Int32) ≤ nI i from nI_ge (b := 8) (by omega) (by omega)), p_sgn N x (by omega), p_b1, if_neg (fun u => by have := (p_nI0 (by omega)).mp u; omega), p_nm, nI_1]
def p_eqs (x y : Int64) (k : Nat) : Bool := decide (p_lt x k ≠ 0 ∧ p_lt x k = p_lt y k)
theorem p_eqs_n (x y : Int64) {k i : Nat} (hz : ∀ j, k ≤ j → p_eqs x y j = true → i ≤ j) : ∀ j, k ≤ j → j ≤ i → p_cnt (p_eqs x y) j = p_cnt (p_eqs x y) k := by
  intro j
  induction j with
  | zero => intro h1 _; rw [show k = 0 by omega]
  | succ j ih =>
    intro h1 h2
    by_cases w : k = j + 1
    · rw [w]
    · rw [p_cnt_s, if_neg (fun u => by have := hz j (by omega) u; omega), ih (by omega) (by omega)]; simp only [Nat.add_zero]
theorem q_same (N : Nat) (hN : 41 ≤ N) {Lv Ll : Nat} {lv ll : Nat → Int32} {a b : Nat} {x y : Int64} (hx : p_ltrs lv a x) (hy : p_ltrs ll b y) (hLv : 8 * a + 8 ≤ Lv) (hLv2 : Lv ≤ 2000) (hLl : 8 * b + 8 ≤ Ll) (hLl2 : Ll ≤ 2000) : f_X5_sameLetters N Ll Lv ll lv (nI a) (nI b) = some (nI (p_cnt (p_eqs x y) 8)) := by
  unfold f_X5_sameLetters
  obtain ⟨e, he⟩ : ∃ e : Nat, e = 8 := ⟨_, rfl⟩
  obtain ⟨z, hz⟩ : ∃ z : Nat, z = 0 := ⟨_, rfl⟩
  have e1 : wk_loop (fun k5 : Int32 → Int32 → Int32 → Int32 → Option Int32 => B_X5_sameLetters_5 N Ll Lv ll lv k5) (fun _ _ _ _ => none) N (nI a) (nI b) (0 : Int32) (0 : Int32) = wk_loop (fun k5 : Int32 → Int32 → Int32 → Int32 → Option Int32 => B_X5_sameLetters_5 N Ll Lv ll lv k5) (fun _ _ _ _ => none) N (nI a) (nI b) (nI (p_cnt (p_eqs x y) z)) (nI z) := by rw [hz]; rfl
  rw [e1]
  refine p_run (σ := Unit) (W := fun m i _ => wk_loop (fun k5 : Int32 → Int32 → Int32 → Int32 → Option Int32 => B_X5_sameLetters_5 N Ll Lv ll lv k5) (fun _ _ _ _ => none) m (nI a) (nI b) (nI (p_cnt (p_eqs x y) i)) (nI i)) (fun _ _ => True) (fun A => A = some (nI (p_cnt (p_eqs x y) 8))) e ?_ ?_ 8 N z () (by omega) (by omega) trivial
  · intro m i _ hi _
    refine ⟨(), ?_, trivial⟩
    have g : ¬ (8 : Int32) ≤ nI i := nI_ge (b := 8) (by omega) (by omega)
    have l1 := p_lt_lt x i
    have l2 := p_lt_lt y i
    show B_X5_sameLetters_5 N Ll Lv ll lv _ (nI a) (nI b) _ (nI i) = _
    rw [B_X5_sameLetters_5, if_neg g, p_letr N hx hLv hLv2 (by omega), p_b1, p_cnt_s]
    by_cases q : p_lt x i = 0
    · rw [if_pos ((p_nI0 (by omega)).mpr q), p_nm, nI_1, if_neg (fun u => (of_decide_eq_true u).1 q)]
      simp only [Nat.add_zero]
    · rw [if_neg (fun u => q ((p_nI0 (by omega)).mp u)), p_letr N hy hLl hLl2 (by omega), p_b1]
      by_cases w : p_lt x i = p_lt y i
      · rw [if_pos (by rw [w]), p_nm, p_nm, nI_1, nI_1, if_pos (show p_eqs x y i = true from decide_eq_true ⟨q, w⟩)]
      · rw [if_neg (fun u => w ((p_nIe (by omega) (by omega)).mp u)), p_nm, nI_1, if_neg (fun u => w (of_decide_eq_true u).2)]
        simp only [Nat.add_zero]
  · intro m _ _
    subst he
    show B_X5_sameLetters_5 N Ll Lv ll lv _ (nI a) (nI b) _ (nI 8) = _
    rw [B_X5_sameLetters_5, if_pos (by decide)]
/-- the likeness of two names, in hundredths -/
def p_alk (x y : Int64) (m n : Nat) : Nat := 100 * p_cnt (p_eqs x y) 8 / (if m < n then n else m)
theorem q_likeOf (N : Nat) (hN : 41 ≤ N) {un uv : Nat → Int64} {a b m n : Nat} (ha : a < 12) (hb : b < 8) (hx : p_name (uv a) m) (hy : p_name (un b) n) : f_X11_likeOf N un uv (nI a) (nI b) = some (nI (p_alk (uv a) (un b) m n)) := by
  unfold f_X11_likeOf
  rw [p_ck (by omega) (by omega), nI_clamp (by omega), q_long N hN hx, p_b1, p_ck (by omega) (by omega), nI_clamp (by omega), q_long N hN hy, p_b1]
  obtain ⟨x1, x2, x3⟩ := hx
  obtain ⟨y1, y2, y3⟩ := hy
  have stop : ∀ j, (if m < n then m else n) ≤ j → p_eqs (uv a) (un b) j = true → 8 ≤ j := fun j h1 h2 => by
    obtain ⟨q1, q2⟩ := of_decide_eq_true h2
    by_cases w : j < 8
    · by_cases u : m ≤ j
      · exact (q1 (x3 j u w)).elim
      · have : n ≤ j := by
          by_cases v : m < n
          · rw [if_pos v] at h1; omega
          · rw [if_neg v] at h1; exact h1
        exact (q1 (q2.trans (y3 j this w))).elim
    · omega
  have hle : (if m < n then m else n) ≤ 8 := by by_cases v : m < n <;> simp [v] <;> omega
  have hc8 := p_eqs_n (uv a) (un b) stop 8 hle (Nat.le_refl 8)
  have hmax : m ≤ (if m < n then n else m) ∧ n ≤ (if m < n then n else m) ∧ (if m < n then n else m) ≤ 8 := by by_cases v : m < n <;> simp [v] <;> omega
  have hc1 := p_cnt_le (p_eqs (uv a) (un b)) (if m < n then m else n)
  by_cases m0 : m = 0
  · rw [if_pos ((p_nI0 (by omega)).mpr m0)]
    have : p_cnt (p_eqs (uv a) (un b)) 8 = 0 := by
      rw [hc8]
      have : (if m < n then m else n) = 0 := by by_cases v : m < n <;> simp [v] <;> omega
      rw [this]; rfl
    unfold p_alk
    rw [this, Nat.mul_zero, Nat.zero_div]
    rfl
  · rw [if_neg (fun u => m0 ((p_nI0 (by omega)).mp u))]
    by_cases n0 : n = 0
    · rw [if_pos ((p_nI0 (by omega)).mpr n0)]
      have : p_cnt (p_eqs (uv a) (un b)) 8 = 0 := by
        rw [hc8]
        have : (if m < n then m else n) = 0 := by by_cases v : m < n <;> simp [v] <;> omega
        rw [this]; rfl
      unfold p_alk
      rw [this, Nat.mul_zero, Nat.zero_div]
      rfl
    · rw [if_neg (fun u => n0 ((p_nI0 (by omega)).mp u))]
      have fin : B_X11_likeOf_92 N un uv (nI m) (nI n) (nI (p_cnt (p_eqs (uv a) (un b)) (if m < n then m else n))) = some (nI (p_alk (uv a) (un b) m n)) := by
        rw [← hc8] at hc1 ⊢
        unfold B_X11_likeOf_92 p_alk
        have dv : ∀ (d : Nat) (k : Option Int32), 1 ≤ d → d ≤ 8 → wk_dv (nI d) k = k := fun d k h1 h2 => by
          rw [wk_dv, if_neg (fun u => by have := (p_nI0 (by omega)).mp u; omega)]
        by_cases v : m ≤ n
        · rw [if_pos (nI_le v (by omega)), dv n _ (by omega) (by omega), show (100 : Int32) = nI 100 from rfl, pk_mul, pk_div (by omega) (by omega) (by omega)]
          congr 2
          by_cases u : m < n
          · rw [if_pos u]
          · rw [if_neg u, show m = n by omega]
        · rw [if_neg (nI_ge (by omega) (by omega)), dv m _ (by omega) (by omega), show (100 : Int32) = nI 100 from rfl, pk_mul, pk_div (by omega) (by omega) (by omega), if_neg (show ¬ m < n by omega)]
      obtain ⟨e, he⟩ : ∃ e : Nat, e = if m < n then m else n := ⟨_, rfl⟩
      obtain ⟨z, hz⟩ : ∃ z : Nat, z = 0 := ⟨_, rfl⟩
      have e1 : wk_loop (fun k38 : Int32 → Int32 → Int32 → Int32 → Int32 → Int32 → Option Int32 => B_X11_likeOf_38 N un uv k38) (fun _ _ _ _ _ _ => none) N (nI a) (nI b) (nI m) (nI n) (0 : Int32) (0 : Int32) = wk_loop (fun k38 : Int32 → Int32 → Int32 → Int32 → Int32 → Int32 → Option Int32 => B_X11_likeOf_38 N un uv k38) (fun _ _ _ _ _ _ => none) N (nI a) (nI b) (nI m) (nI n) (nI (p_cnt (p_eqs (uv a) (un b)) z)) (nI z) := by rw [hz]; rfl
      rw [e1]
      have hem : e ≤ m ∧ e ≤ n ∧ (e = m ∨ e = n) := by rw [he]; by_cases v : m < n <;> simp [v] <;> omega
      refine p_run (σ := Unit) (W := fun k i _ => wk_loop (fun k38 : Int32 → Int32 → Int32 → Int32 → Int32 → Int32 → Option Int32 => B_X11_likeOf_38 N un uv k38) (fun _ _ _ _ _ _ => none) k (nI a) (nI b) (nI m) (nI n) (nI (p_cnt (p_eqs (uv a) (un b)) i)) (nI i)) (fun _ _ => True) (fun A => A = some (nI (p_alk (uv a) (un b) m n))) e ?_ ?_ e N z () (by omega) (by omega) trivial
      · intro k i _ hi _
        refine ⟨(), ?_, trivial⟩
        have q0 := x2 i (by omega)
        have l2 := p_lt_lt (un b) i
        show B_X11_likeOf_38 N un uv _ (nI a) (nI b) (nI m) (nI n) _ (nI i) = _
        rw [B_X11_likeOf_38, if_neg (nI_ge (show i < m by omega) (by omega)), if_neg (nI_ge (show i < n by omega) (by omega)), p_ck (by omega) (by omega), nI_clamp (by omega), p_sgn N _ (by omega), p_b1, p_ck (by omega) (by omega), nI_clamp (by omega), p_sgn N _ (by omega), p_b1, p_cnt_s]
        by_cases w : p_lt (uv a) i = p_lt (un b) i
        · rw [if_pos (by rw [w]), p_nm, p_nm, nI_1, nI_1, if_pos (show p_eqs (uv a) (un b) i = true from decide_eq_true ⟨by omega, w⟩)]
        · rw [if_neg (fun u => w ((p_nIe (by omega) (by omega)).mp u)), p_nm, p_nm, nI_1, Int32.add_zero, if_neg (fun u => w (of_decide_eq_true u).2)]
          simp only [Nat.add_zero]
      · intro k _ _
        show B_X11_likeOf_38 N un uv _ (nI a) (nI b) (nI m) (nI n) _ (nI e) = _
        rw [← he] at fin
        rw [B_X11_likeOf_38]
        by_cases u : m ≤ e
        · rw [if_pos (nI_le u (by omega)), fin]
        · rw [if_neg (nI_ge (by omega) (by omega)), if_pos (nI_le (show n ≤ e by omega) (by omega)), fin]
