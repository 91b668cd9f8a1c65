/-! PURE: names -/
def p_lt (x : Int64) (i : Nat) : Nat := x.toBitVec.toNat / 2 ^ (8 * (7 - i)) % 256
theorem p_lt_lt (x : Int64) (i : Nat) : p_lt x i < 256 := Nat.mod_lt _ (by decide)
theorem p_let (N : Nat) (x : Int64) {i : Nat} (hi : i < 8) : f_X10_letterAt N x (nI i) = some (nI (p_lt x i)) := by
  unfold f_X10_letterAt
  rw [show (7 : Int32) = nI 7 from rfl, pk_sub (by omega), p_shu x (7 - i) (by omega)]
  rfl
theorem p_low (y : Int64) : (y &&& (255 : Int64)).toInt32 = nI (y.toBitVec.toNat % 256) := by
  apply Int32.toBitVec_inj.mp
  apply BitVec.eq_of_toNat_eq
  have e : (y &&& (255 : Int64)).toBitVec.toNat = y.toBitVec.toNat % 256 := by
    show (y.toBitVec &&& (255 : Int64).toBitVec).toNat = _
    rw [BitVec.toNat_and, show ((255 : Int64).toBitVec).toNat = 2 ^ 8 - 1 from rfl, Nat.and_two_pow_sub_one_eq_mod]
  show (BitVec.signExtend 32 (y &&& (255 : Int64)).toBitVec).toNat = (BitVec.ofNat 32 (y.toBitVec.toNat % 256)).toNat
  rw [BitVec.signExtend_eq_setWidth_of_le _ (by decide), BitVec.toNat_setWidth, e, BitVec.toNat_ofNat]
theorem p_sgn (N : Nat) (x : Int64) {i : Nat} (hi : i < 8) : f_X11_sign N x (nI i) = some (nI (p_lt x i)) := by
  unfold f_X11_sign
  rw [show (7 : Int32) = nI 7 from rfl, pk_sub (by omega), p_low, p_shs x (7 - i) (by omega)]
  rfl
/-- a name of n letters -/
def p_name (x : Int64) (n : Nat) : Prop := n ≤ 8 ∧ (∀ j, j < n → 97 ≤ p_lt x j ∧ p_lt x j ≤ 122) ∧ ∀ j, n ≤ j → j < 8 → p_lt x j = 0
theorem q_name (N : Nat) (hN : 41 ≤ N) (x : Int64) : ∃ b, f_X10_isName N x = some b ∧ f_X11_isName N x = some b ∧ (b = true → ∃ n, p_name x n) := by
  unfold f_X10_isName f_X11_isName
  obtain ⟨e, he⟩ : ∃ e : Nat, e = 8 := ⟨_, rfl⟩
  rw [show (0 : Int32) = nI 0 from rfl]
  refine p_simx (σ := Int32) (τ := Int32)
    (W := fun m i s => wk_loop (fun k4 : Int64 → Int32 → Int32 → Option Bool => B_X10_isName_4 N k4) (fun _ _ _ => none) m x s (nI i))
    (V := fun m i s => wk_loop (fun k4 : Int64 → Int32 → Int32 → Option Bool => B_X11_isName_4 N k4) (fun _ _ _ => none) m x s (nI i))
    (fun i s t => s = t ∧ ((s = 0 ∧ ∀ j, j < i → 97 ≤ p_lt x j ∧ p_lt x j ≤ 122) ∨ (s = 1 ∧ ∃ n, n < i ∧ (∀ j, j < n → 97 ≤ p_lt x j ∧ p_lt x j ≤ 122) ∧ ∀ j, n ≤ j → j < i → p_lt x j = 0)))
    (fun A B => ∃ b, A = some b ∧ B = some b ∧ (b = true → ∃ n, p_name x n)) e ?_ ?_ 8 N N 0 (nI 0) (nI 0) (by omega) (by omega) (by omega) ⟨rfl, Or.inl ⟨rfl, fun j hj => by omega⟩⟩
  · rintro m m' i s t hi ⟨rfl, hI⟩
    have g : ¬ (8 : Int32) ≤ nI i := nI_ge (b := 8) (by omega) (by omega)
    have hl := p_lt_lt x i
    have hin : f_X11_in N (nI (p_lt x i)).toInt64 (97 : Int64) (122 : Int64) = some (decide (97 ≤ p_lt x i ∧ p_lt x i ≤ 122)) := by
      rw [p_inI, nI_toInt (by omega), show (97 : Int64).toInt = 97 from rfl, show (122 : Int64).toInt = 122 from rfl]
      congr 1
      exact decide_eq_decide.mpr (by omega)
    have n0 : nI (p_lt x i) = (0 : Int32) ↔ p_lt x i = 0 := by
      constructor
      · intro w
        have := congrArg Int32.toInt w
        rw [nI_toInt (by omega), show (0 : Int32).toInt = 0 from rfl] at this
        omega
      · intro w; rw [w]; rfl
    rcases hI with ⟨rfl, hI⟩ | ⟨rfl, n, hn, hI1, hI2⟩
    · by_cases q : p_lt x i = 0
      · right
        refine ⟨1, 1, ?_, ?_, rfl, Or.inr ⟨rfl, i, by omega, hI, fun j h1 h2 => by rw [show j = i by omega]; exact q⟩⟩
        · show B_X10_isName_4 N _ x 0 (nI i) = _
          rw [B_X10_isName_4, if_neg g, p_let N x (by omega), p_b1, if_pos (n0.mpr q), p_nm, nI_1]
        · show B_X11_isName_4 N _ x 0 (nI i) = _
          rw [B_X11_isName_4, if_neg g, p_sgn N x (by omega), p_b1, if_pos rfl, if_pos (n0.mpr q), B_X11_isName_31, if_neg (by decide), if_pos (n0.mpr q), p_nm, nI_1]
      · by_cases w : 97 ≤ p_lt x i ∧ p_lt x i ≤ 122
        · right
          refine ⟨0, 0, ?_, ?_, rfl, Or.inl ⟨rfl, fun j hj => ?_⟩⟩
          · show B_X10_isName_4 N _ x 0 (nI i) = _
            rw [B_X10_isName_4, if_neg g, p_let N x (by omega), p_b1, if_neg (fun u => q (n0.mp u)), if_pos rfl, if_neg (show ¬ nI (p_lt x i) < (97 : Int32) from nI_nlt (b := 97) (by omega) (by omega)), if_pos (show nI (p_lt x i) ≤ (122 : Int32) from nI_le (b := 122) (by omega) (by omega)), p_nm, nI_1]
          · show B_X11_isName_4 N _ x 0 (nI i) = _
            rw [B_X11_isName_4, if_neg g, p_sgn N x (by omega), p_b1, if_pos rfl, if_neg (fun u => q (n0.mp u)), B_X11_isName_31, if_pos rfl, hin, p_b1, decide_eq_true w, if_neg (by decide), p_nm, nI_1]
          · by_cases u : j = i
            · rw [u]; exact w
            · exact hI j (by omega)
        · left
          refine ⟨false, ?_, ?_, fun h => by cases h⟩
          · show B_X10_isName_4 N _ x 0 (nI i) = _
            rw [B_X10_isName_4, if_neg g, p_let N x (by omega), p_b1, if_neg (fun u => q (n0.mp u)), if_pos rfl]
            by_cases u : p_lt x i < 97
            · rw [if_pos (show nI (p_lt x i) < (97 : Int32) from nI_lt (b := 97) u (by omega))]
            · rw [if_neg (show ¬ nI (p_lt x i) < (97 : Int32) from nI_nlt (b := 97) (by omega) (by omega)), if_neg (show ¬ nI (p_lt x i) ≤ (122 : Int32) from nI_ge (a := 122) (by omega) (by omega))]
          · show B_X11_isName_4 N _ x 0 (nI i) = _
            rw [B_X11_isName_4, if_neg g, p_sgn N x (by omega), p_b1, if_pos rfl, if_neg (fun u => q (n0.mp u)), B_X11_isName_31, if_pos rfl, hin, p_b1, decide_eq_false w, if_pos (show wk_bI false = 0 from rfl)]
    · by_cases q : p_lt x i = 0
      · right
        refine ⟨1, 1, ?_, ?_, rfl, Or.inr ⟨rfl, n, by omega, hI1, fun j h1 h2 => ?_⟩⟩
        · show B_X10_isName_4 N _ x 1 (nI i) = _
          rw [B_X10_isName_4, if_neg g, p_let N x (by omega), p_b1, if_pos (n0.mpr q), p_nm, nI_1]
        · show B_X11_isName_4 N _ x 1 (nI i) = _
          rw [B_X11_isName_4, if_neg g, p_sgn N x (by omega), p_b1, if_neg (by decide), B_X11_isName_31, if_neg (by decide), if_pos (n0.mpr q), p_nm, nI_1]
        · by_cases u : j = i
          · rw [u]; exact q
          · exact hI2 j h1 (by omega)
      · left
        refine ⟨false, ?_, ?_, fun h => by cases h⟩
        · show B_X10_isName_4 N _ x 1 (nI i) = _
          rw [B_X10_isName_4, if_neg g, p_let N x (by omega), p_b1, if_neg (fun u => q (n0.mp u)), if_neg (by decide)]
        · show B_X11_isName_4 N _ x 1 (nI i) = _
          rw [B_X11_isName_4, if_neg g, p_sgn N x (by omega), p_b1, if_neg (by decide), B_X11_isName_31, if_neg (by decide), if_neg (fun u => q (n0.mp u))]
  · rintro m m' s t ⟨rfl, hI⟩
    have g : (8 : Int32) ≤ nI e := nI_le (a := 8) (by omega) (by omega)
    refine ⟨true, ?_, ?_, fun _ => ?_⟩
    · show B_X10_isName_4 N _ x s (nI e) = _
      rw [B_X10_isName_4, if_pos g]
    · show B_X11_isName_4 N _ x s (nI e) = _
      rw [B_X11_isName_4, if_pos g]
    · rcases hI with ⟨-, hI⟩ | ⟨-, n, hn, hI1, hI2⟩
      · exact ⟨8, by omega, fun j hj => hI j (by omega), fun j h1 h2 => by omega⟩
      · exact ⟨n, by omega, hI1, fun j h1 h2 => hI2 j h1 (by omega)⟩
