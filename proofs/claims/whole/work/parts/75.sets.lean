/-! PURE: sets as bits -/
theorem p_sm31 : ∀ k, k < 31 → ((nI k &&& 31).toBitVec.smod 32).toNat = k := by decide
theorem p_shk {c k : Nat} (hc : c < 2 ^ 31) (hk : k < 31) : (nI c >>> (nI k &&& 31)) &&& (1 : Int32) = nI (c / 2 ^ k % 2) := by
  rw [pk_shrN hc _ k (p_sm31 k hk), pk_andN (n := c / 2 ^ k) (Nat.lt_of_le_of_lt (Nat.div_le_self _ _) (by omega)) 1 (by decide)]
theorem p_m2 (c k : Nat) : c / 2 ^ k % 2 = 1 ↔ c.testBit k = true := by
  rw [Nat.testBit_eq_decide_div_mod_eq, decide_eq_true_iff]
theorem p_has11 (N : Nat) {c k : Nat} (hc : c < 2 ^ 31) (hk : k < 31) : f_X11_has N (nI c) (nI k) = some (c.testBit k) := by
  unfold f_X11_has
  rw [p_shk hc hk]
  have hm := p_m2 c k
  by_cases a : c.testBit k = true
  · rw [hm.mpr a, if_pos (show nI 1 = 1 from rfl), a]
  · have : c / 2 ^ k % 2 = 0 := by
      have := mt hm.mp a
      omega
    rw [this, if_neg (by decide)]
    cases hb : c.testBit k
    · rfl
    · exact absurd hb a
theorem p_has10 (N : Nat) {c k : Nat} (hc : c < 2 ^ 31) (hk : k < 31) : f_X10_hasBit N (nI c) (nI k) = some (c.testBit k) := by
  unfold f_X10_hasBit
  rw [p_shk hc hk]
  have hm := p_m2 c k
  by_cases a : c.testBit k = true
  · rw [hm.mpr a, if_neg (by decide), a]
  · have : c / 2 ^ k % 2 = 0 := by
      have := mt hm.mp a
      omega
    rw [this, if_pos (show nI 0 = 0 from rfl)]
    cases hb : c.testBit k
    · rfl
    · exact absurd hb a
/-- the bits of bits -/
theorem p_bits_t (f : Nat → Bool) : ∀ n k, (p_bits f n).testBit k = (decide (k < n) && f k) := by
  intro n
  induction n with
  | zero => intro k; rw [show p_bits f 0 = 0 from rfl, Nat.zero_testBit]; simp
  | succ n ih =>
    intro k
    rw [p_bits_s]
    have hlt := p_bits_lt f n
    by_cases a : f n = true
    · rw [if_pos a, Nat.add_comm]
      by_cases b : k = n
      · subst b
        rw [Nat.testBit_two_pow_add_eq, ih]
        simp [a]
      · by_cases c : k < n
        · rw [Nat.testBit_two_pow_add_gt c, ih]
          simp [c, show k < n + 1 by omega]
        · have : 2 ^ n + p_bits f n < 2 ^ k := by
            have : 2 ^ (n + 1) ≤ 2 ^ k := Nat.pow_le_pow_right (by omega) (by omega)
            rw [Nat.pow_succ] at this
            omega
          rw [Nat.testBit_lt_two_pow this]
          simp [show ¬ k < n + 1 by omega]
    · rw [if_neg a, Nat.add_zero, ih]
      by_cases b : k = n
      · subst b
        simp [a]
      · by_cases c : k < n
        · simp [c, show k < n + 1 by omega]
        · simp [c, show ¬ k < n + 1 by omega]
def p_pc8 (c : Nat) : Nat := p_cnt (fun k => c.testBit k) 8
theorem p_bc8 : ∀ b, b < 256 → f_J6_bitCount_0f7a4 0 (nI b) = some (nI (p_pc8 b)) := by decide +kernel
theorem p_size (N : Nat) (hN : 41 ≤ N) {c : Nat} (hc : c < 256) : f_X11_size N (nI c) = some (nI (p_pc8 c)) := by
  unfold f_X11_size p_pc8
  obtain ⟨e, he⟩ : ∃ e : Nat, e = 8 := ⟨_, rfl⟩
  obtain ⟨z, hz⟩ : ∃ z : Nat, z = 0 := ⟨_, rfl⟩
  rw [show (0 : Int32) = nI z by rw [hz]; rfl, ← he]
  refine p_run (σ := Nat)
    (W := fun m i s => wk_loop (fun k4 : Int32 → Int32 → Int32 → Option Int32 => B_X11_size_4 N k4) (fun _ _ _ => none) m (nI c) (nI s) (nI i))
    (fun i s => s = p_cnt (fun k => c.testBit k) i)
    (fun A => A = some (nI (p_cnt (fun k => c.testBit k) e))) e ?_ ?_ e N z z (by omega) (by omega) (by subst hz; rfl)
  · intro m i s hi hI
    have g : ¬ (8 : Int32) ≤ nI i := nI_ge (b := 8) (by omega) (by omega)
    cases hb : c.testBit i with
    | true =>
      refine ⟨s + 1, ?_, by rw [p_cnt_s, hb, if_pos rfl, hI]⟩
      show B_X11_size_4 N _ (nI c) (nI s) (nI i) = _
      rw [B_X11_size_4, if_neg g, p_has11 N (by omega) (by omega), p_b1, hb, if_neg (show ¬ wk_bI true = 0 by decide), p_nm, p_nm, nI_1, nI_1]
    | false =>
      refine ⟨s, ?_, by rw [p_cnt_s, hb, if_neg (by decide), hI]; rfl⟩
      show B_X11_size_4 N _ (nI c) (nI s) (nI i) = _
      rw [B_X11_size_4, if_neg g, p_has11 N (by omega) (by omega), p_b1, hb, if_pos (show wk_bI false = 0 from rfl), p_nm, p_nm, nI_1, Int32.add_zero]
  · intro m s hI
    show B_X11_size_4 N _ (nI c) (nI s) (nI e) = _
    rw [B_X11_size_4, if_pos (show (8 : Int32) ≤ nI e by rw [he]; decide), hI]
theorem p_bitor : ∀ l, l < 8 → ∀ b, b < 2 ^ l → nI b ||| ((1 : Int32) <<< (nI l &&& 31)) = nI (b + 2 ^ l) := by decide +kernel
/-- nothing of a set beside another -/
theorem p_beside {x c : Nat} (hx : x < 256) (hc : c < 256) : (nI x &&& (nI c ^^^ (-1 : Int32)) = 0) ↔ ∀ l, l < 8 → x.testBit l = true → c.testBit l = true := by
  rw [← Int32.toBitVec_inj]
  have ex : (nI x).toBitVec = BitVec.ofNat 32 x := rfl
  have ec : (nI c).toBitVec = BitVec.ofNat 32 c := rfl
  rw [Int32.toBitVec_and, Int32.toBitVec_xor, ex, ec, show (-1 : Int32).toBitVec = BitVec.allOnes 32 from rfl, show (0 : Int32).toBitVec = 0#32 from rfl]
  constructor
  · intro h l hl hxl
    have := congrArg (fun v => v.getLsbD l) h
    simp only [BitVec.getLsbD_and, BitVec.getLsbD_xor, BitVec.getLsbD_ofNat, BitVec.getLsbD_allOnes, BitVec.getLsbD_zero, Nat.zero_testBit, show l < 32 by omega, decide_true, Bool.true_and, hxl] at this
    cases hb : c.testBit l
    · rw [hb] at this; exact absurd this (by decide)
    · rfl
  · intro h
    apply BitVec.eq_of_getLsbD_eq
    intro i hi
    simp only [BitVec.getLsbD_and, BitVec.getLsbD_xor, BitVec.getLsbD_ofNat, BitVec.getLsbD_allOnes, BitVec.getLsbD_zero, Nat.zero_testBit, hi, decide_true, Bool.true_and]
    by_cases a : i < 8
    · cases hb : x.testBit i
      · rfl
      · rw [h i a hb]; rfl
    · rw [Nat.testBit_lt_two_pow (Nat.lt_of_lt_of_le hx (show 2 ^ 8 ≤ 2 ^ i from Nat.pow_le_pow_right (by omega) (by omega)))]
      rfl
