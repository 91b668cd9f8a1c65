/-! PURE: likeness 100 iff one name -/
theorem p_cnt_all {f : Nat → Bool} : ∀ n, p_cnt f n = n → ∀ j, j < n → f j = true
  | 0, _, j, h => by omega
  | n + 1, e, j, h => by
    rw [p_cnt_s] at e
    have := p_cnt_le f n
    by_cases a : f n = true
    · rw [if_pos a] at e
      by_cases w : j = n
      · rw [w]; exact a
      · exact p_cnt_all n (by omega) j (by omega)
    · rw [if_neg a] at e; omega
theorem p_one1 {x y : Int64} (h : ∀ j, j < 8 → p_lt x j = p_lt y j) : x = y := by
  apply Int64.toBitVec_inj.mp
  apply BitVec.eq_of_toNat_eq
  have h0 := h 0 (by decide)
  have h1 := h 1 (by decide)
  have h2 := h 2 (by decide)
  have h3 := h 3 (by decide)
  have h4 := h 4 (by decide)
  have h5 := h 5 (by decide)
  have h6 := h 6 (by decide)
  have h7 := h 7 (by decide)
  have bx := x.toBitVec.isLt
  have by' := y.toBitVec.isLt
  unfold p_lt at h0 h1 h2 h3 h4 h5 h6 h7
  generalize x.toBitVec.toNat = a at *
  generalize y.toBitVec.toNat = b at *
  simp only [Nat.reduceSub, Nat.reduceMul, Nat.reducePow] at h0 h1 h2 h3 h4 h5 h6 h7
  omega
theorem p_alk_eq {x y : Int64} {m n : Nat} (hx : p_name x m) (hy : p_name y n) (h : 1 ≤ p_alk x y m n) : p_alk x y m n = 100 ↔ x = y := by
  have hm : ∀ j, (if m < n then m else n) ≤ j → p_eqs x y j = true → 8 ≤ j := fun j h1 h2 => by
    obtain ⟨q1, q2⟩ := of_decide_eq_true h2
    by_cases w : j < 8
    · by_cases u : m ≤ j
      · exact (q1 (hx.2.2 j u w)).elim
      · have : n ≤ j := by
          by_cases v : m < n
          · rw [if_pos v] at h1; omega
          · rw [if_neg v] at h1; exact h1
        exact (q1 (q2.trans (hy.2.2 j this w))).elim
    · omega
  have hx1 := hx.1
  have hy1 := hy.1
  have hle : (if m < n then m else n) ≤ 8 := by by_cases v : m < n <;> simp [v] <;> omega
  have hc8 := p_eqs_n x y hm 8 hle (Nat.le_refl 8)
  have hc1 := p_cnt_le (p_eqs x y) (if m < n then m else n)
  rw [← hc8] at hc1
  constructor
  · intro e
    unfold p_alk at e
    have hM : p_cnt (p_eqs x y) 8 = (if m < n then n else m) := by
      have h2 := Nat.div_mul_le_self (100 * p_cnt (p_eqs x y) 8) (if m < n then n else m)
      rw [e] at h2
      by_cases v : m < n
      · rw [if_pos v] at h2 hc1 ⊢; omega
      · rw [if_neg v] at h2 hc1 ⊢; omega
    have hmn : m = n := by
      by_cases v : m < n
      · rw [if_pos v] at hM hc1; omega
      · rw [if_neg v] at hM hc1; omega
    subst hmn
    rw [if_neg (by omega)] at hM hc8
    apply p_one1
    intro j hj
    by_cases w : j < m
    · have a : p_eqs x y j = true := p_cnt_all (f := p_eqs x y) m (by omega) j w
      exact (of_decide_eq_true a).2
    · rw [hx.2.2 j (by omega) hj, hy.2.2 j (by omega) hj]
  · rintro rfl
    have hmn : m = n := by
      by_cases v : m < n
      · have a := hy.2.1 m v
        have b := hx.2.2 m (by omega) (by omega)
        omega
      · by_cases v2 : n < m
        · have a := hx.2.1 n v2
          have b := hy.2.2 n (by omega) (by omega)
          omega
        · omega
    subst hmn
    unfold p_alk at h ⊢
    rw [if_neg (by omega)] at h hc8 hc1 ⊢
    have full : ∀ k, k ≤ m → p_cnt (p_eqs x x) k = k := by
      intro k
      induction k with
      | zero => intro _; rfl
      | succ k ih =>
        intro hk
        have := hx.2.1 k (by omega)
        rw [p_cnt_s, ih (by omega), if_pos (show p_eqs x x k = true from decide_eq_true ⟨by omega, rfl⟩)]
    rw [hc8, full m (Nat.le_refl m)] at h ⊢
    have : 0 < m := by
      by_cases w : m = 0
      · subst w; simp at h
      · omega
    rw [Nat.mul_div_cancel _ this]
