/-! PURE: numbers, guards, rows -/
theorem p_b0 {γ : Type} (k : Option γ) : wk_b0 (some ()) k = k := rfl
theorem p_b1 {α γ : Type} (a : α) (k : α → Option γ) : wk_b1 (some a) k = k a := rfl
theorem p_b2 {α β γ : Type} (a : α) (b : β) (k : α → β → Option γ) : wk_b2 (some (a, b)) k = k a b := rfl
theorem p_b3 {α β γ δ : Type} (a : α) (b : β) (c : γ) (k : α → β → γ → Option δ) : wk_b3 (some (a, b, c)) k = k a b c := rfl
theorem p_b4 {a1 a2 a3 a4 δ : Type} (a : a1) (b : a2) (c : a3) (d : a4) (k : a1 → a2 → a3 → a4 → Option δ) : wk_b4 (some (a, b, c, d)) k = k a b c d := rfl
theorem p_nm {α β : Type} (x : α) (k : α → Option β) : wk_nm x k = k x := rfl
theorem p_bI (b : Bool) : (wk_bI b = 0) = (b = false) := by cases b <;> simp [wk_bI]
theorem p_bI1 (b : Bool) : (wk_bI b = 1) = (b = true) := by cases b <;> simp [wk_bI]
theorem p_ck {α : Type} {i n : Nat} (h : i < n) (hn : n < 2 ^ 31) (k : Option α) : wk_ck (nI i) n k = k := by
  rw [wk_ck, if_neg (nI_in h hn)]
theorem p_toInt_lt (x y : Int32) : (x < y) = (x.toInt < y.toInt) := propext Int32.lt_iff_toInt_lt
theorem p_toInt_le (x y : Int32) : (x ≤ y) = (x.toInt ≤ y.toInt) := propext Int32.le_iff_toInt_le
theorem p_lcmp (x y : Int64) : (lg_cmp x y < 0) = (x.toInt < y.toInt) := by
  have h1 := Int64.lt_iff_toInt_lt (x := y) (y := x)
  have h2 : x = y ↔ x.toInt = y.toInt := Int64.toInt_inj.symm
  unfold lg_cmp
  by_cases a : y < x
  · rw [if_pos a]; have := h1.mp a; simp; omega
  · rw [if_neg a]
    by_cases b : x = y
    · rw [if_pos b]; have := h2.mp b; simp; omega
    · rw [if_neg b]; have w1 : ¬ y.toInt < x.toInt := fun c => a (h1.mpr c); have w2 : ¬ x.toInt = y.toInt := fun c => b (h2.mpr c); simp; omega
theorem p_lcmp2 (x y : Int64) : (0 < lg_cmp x y) = (y.toInt < x.toInt) := by
  have h1 := Int64.lt_iff_toInt_lt (x := y) (y := x)
  have h2 : x = y ↔ x.toInt = y.toInt := Int64.toInt_inj.symm
  unfold lg_cmp
  by_cases a : y < x
  · rw [if_pos a]; have := h1.mp a; simp; omega
  · rw [if_neg a]
    by_cases b : x = y
    · rw [if_pos b]; have := h2.mp b; simp; omega
    · rw [if_neg b]; have w1 : ¬ y.toInt < x.toInt := fun c => a (h1.mpr c); have w2 : ¬ x.toInt = y.toInt := fun c => b (h2.mpr c); simp; omega
theorem p_in (N : Nat) (x lo hi : Int64) : f_X11_in N x lo hi = some (decide (lo.toInt ≤ x.toInt ∧ x.toInt ≤ hi.toInt)) := by
  unfold f_X11_in
  simp only [p_lcmp, p_lcmp2]
  by_cases a : x.toInt < lo.toInt
  · rw [if_pos a, decide_eq_false (by omega)]
  · rw [if_neg a]
    by_cases b : hi.toInt < x.toInt
    · rw [if_pos b, decide_eq_false (by omega)]
    · rw [if_neg b, decide_eq_true (by omega)]
theorem p_i2l (x : Int32) : (x.toInt64).toInt = x.toInt := Int32.toInt_toInt64 x
theorem p_inI (N : Nat) (x : Int32) (lo hi : Int64) : f_X11_in N x.toInt64 lo hi = some (decide (lo.toInt ≤ x.toInt ∧ x.toInt ≤ hi.toInt)) := by rw [p_in, p_i2l]
theorem p_isCounty (N : Nat) (x : Int32) : f_X10_isCounty N x = some (decide (0 ≤ x.toInt ∧ x.toInt ≤ 4)) := by
  unfold f_X10_isCounty
  simp only [p_toInt_lt, p_toInt_le, show (0 : Int32).toInt = 0 from rfl, show (5 : Int32).toInt = 5 from rfl]
  by_cases a : x.toInt < 0
  · rw [if_pos a, decide_eq_false (by omega)]
  · rw [if_neg a]
    by_cases b : 5 ≤ x.toInt
    · rw [if_pos b, decide_eq_false (by omega)]
    · rw [if_neg b, decide_eq_true (by omega)]
/-- a whole number in a range is nI of a natural one -/
theorem p_of {x : Int32} {n : Nat} (h0 : 0 ≤ x.toInt) (h1 : x.toInt ≤ n) : ∃ k : Nat, k ≤ n ∧ x = nI k := by
  obtain ⟨j, hj, rfl⟩ := nI_of (x := x) (by rw [p_toInt_lt, show (0 : Int32).toInt = 0 from rfl]; omega)
  rw [nI_toInt hj] at h1
  exact ⟨j, by omega, rfl⟩
theorem p_get {N n : Nat} {v : Nat → Int32} {k : Nat} (h : k < n) (hn : n ≤ 2000) : f_X6_get N n v (nI k) = some (v k) := by
  unfold f_X6_get
  rw [if_neg (nI_pos (by omega)), if_neg (nI_ge h (by omega)), p_ck h (by omega), nI_clamp (by omega)]
theorem p_set {N n : Nat} {v : Nat → Int32} {k : Nat} {y : Int32} (h : k < n) (hn : n ≤ 2000) : f_X6_set N n v (nI k) y = some (upd v k y) := by
  unfold f_X6_set
  rw [if_neg (nI_pos (by omega)), if_neg (nI_ge h (by omega)), p_ck h (by omega), nI_clamp (by omega)]
/-! likeness -/
theorem q_likeness (N : Nat) (w x : Int32) : ∃ r o, f_X10_likeness N w x = some (r, o) ∧ f_X11_likeness N w x = some (r, o) ∧ (o = w ∨ (1 ≤ o.toInt ∧ o.toInt ≤ 100)) := by
  unfold f_X10_likeness f_X11_likeness f_X5_changeThreshold
  simp only [p_inI, p_b1, p_b2, p_bI, decide_eq_false_iff_not, p_toInt_lt, p_toInt_le, show (1 : Int32).toInt = 1 from rfl, show (100 : Int32).toInt = 100 from rfl, show (1 : Int64).toInt = 1 from rfl, show (100 : Int64).toInt = 100 from rfl]
  by_cases a : x.toInt < 1
  · rw [if_pos a, if_pos (by omega)]; exact ⟨_, _, rfl, rfl, Or.inl rfl⟩
  · rw [if_neg a]
    by_cases b : x.toInt ≤ 100
    · rw [if_pos b, if_neg (by omega)]; exact ⟨_, _, rfl, rfl, Or.inr ⟨by omega, b⟩⟩
    · rw [if_neg b, if_pos (by omega)]; exact ⟨_, _, rfl, rfl, Or.inl rfl⟩
