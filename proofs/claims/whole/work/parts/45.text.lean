/-! PURE: bytes; write and wipe -/
theorem p_lo (z : BitVec 64) : (BitVec.signExtend 32 z).toNat % 2 ^ 8 = z.toNat % 256 := by
  rw [BitVec.signExtend_eq_setWidth_of_le _ (by decide), BitVec.toNat_setWidth]
  omega
theorem p_shu (x : Int64) (j : Nat) (hj : j < 8) : (((x.toUInt64 >>> (((8 : Int32) * nI j).toInt64.toUInt64 &&& Int64.toUInt64 63)).toInt64).toInt32) &&& (255 : Int32) = nI (x.toBitVec.toNat / 2 ^ (8 * j) % 256) := by
  rw [pk_and _ 8 (by decide)]
  congr 1
  have key : ∀ s : Nat, s < 64 → ∀ u : UInt64, u = UInt64.ofNat s → ((x.toUInt64 >>> u).toInt64.toInt32).toBitVec.toNat % 2 ^ 8 = x.toBitVec.toNat / 2 ^ s % 256 := by
    intro s hs u hu
    subst hu
    show (BitVec.signExtend 32 (x.toUInt64 >>> UInt64.ofNat s).toBitVec).toNat % 2 ^ 8 = _
    rw [p_lo]
    have e : (x.toUInt64 >>> UInt64.ofNat s).toBitVec = x.toBitVec >>> s := by
      apply BitVec.eq_of_toNat_eq
      show (x.toUInt64 >>> UInt64.ofNat s).toNat = _
      rw [UInt64.toNat_shiftRight, BitVec.toNat_ushiftRight]
      have : (UInt64.ofNat s).toNat = s := by
        rw [UInt64.toNat_ofNat']
        omega
      rw [this, Nat.mod_eq_of_lt hs]
      rfl
    rw [e, BitVec.toNat_ushiftRight, Nat.shiftRight_eq_div_pow]
  rcases (show j = 0 ∨ j = 1 ∨ j = 2 ∨ j = 3 ∨ j = 4 ∨ j = 5 ∨ j = 6 ∨ j = 7 by omega) with rfl | rfl | rfl | rfl | rfl | rfl | rfl | rfl
  · exact key 0 (by decide) _ (by decide)
  · exact key 8 (by decide) _ (by decide)
  · exact key 16 (by decide) _ (by decide)
  · exact key 24 (by decide) _ (by decide)
  · exact key 32 (by decide) _ (by decide)
  · exact key 40 (by decide) _ (by decide)
  · exact key 48 (by decide) _ (by decide)
  · exact key 56 (by decide) _ (by decide)
theorem p_ss (z : BitVec 64) (s : Nat) (hs : s + 8 ≤ 64) : (z.sshiftRight s).toNat % 256 = z.toNat / 2 ^ s % 256 := by
  have h : (z.sshiftRight s).setWidth 8 = (z >>> s).setWidth 8 := by
    apply BitVec.eq_of_getLsbD_eq
    intro i hi
    simp only [BitVec.getLsbD_setWidth, BitVec.getLsbD_sshiftRight, BitVec.getLsbD_ushiftRight]
    have h1 : s + i < 64 := by omega
    have h2 : ¬ (64 ≤ i) := by omega
    simp [h1, h2, hi]
  have h' := congrArg BitVec.toNat h
  rw [BitVec.toNat_setWidth, BitVec.toNat_setWidth, BitVec.toNat_ushiftRight, Nat.shiftRight_eq_div_pow] at h'
  exact h'
theorem p_shs (x : Int64) (j : Nat) (hj : j < 8) : (x >>> (((8 : Int32) * nI j).toInt64 &&& 63)).toBitVec.toNat % 256 = x.toBitVec.toNat / 2 ^ (8 * j) % 256 := by
  have key : ∀ s : Nat, s + 8 ≤ 64 → ∀ u : Int64, u = Int64.ofNat s → (x >>> u).toBitVec.toNat % 256 = x.toBitVec.toNat / 2 ^ s % 256 := by
    intro s hs u hu
    subst hu
    have e : (x >>> Int64.ofNat s).toBitVec = x.toBitVec.sshiftRight s := by
      rw [Int64.toBitVec_shiftRight]
      have : ((Int64.ofNat s).toBitVec.smod 64).toNat = s := by
        have hh : ∀ t : Nat, t < 57 → ((Int64.ofNat t).toBitVec.smod 64).toNat = t := by decide
        exact hh s (by omega)
      show x.toBitVec.sshiftRight _ = _
      rw [this]
    rw [e, p_ss _ s hs]
  rcases (show j = 0 ∨ j = 1 ∨ j = 2 ∨ j = 3 ∨ j = 4 ∨ j = 5 ∨ j = 6 ∨ j = 7 by omega) with rfl | rfl | rfl | rfl | rfl | rfl | rfl | rfl
  · exact key 0 (by decide) _ (by decide)
  · exact key 8 (by decide) _ (by decide)
  · exact key 16 (by decide) _ (by decide)
  · exact key 24 (by decide) _ (by decide)
  · exact key 32 (by decide) _ (by decide)
  · exact key 40 (by decide) _ (by decide)
  · exact key 48 (by decide) _ (by decide)
  · exact key 56 (by decide) _ (by decide)
theorem p_i8 (w : Int64) : vp_nar .byte ((w.toInt32).toInt8.toInt32) = sb_b (w.toBitVec.toNat % 256) := by
  rw [pk_vb]
  unfold sb_b
  congr 1
  apply Int8.toBitVec_inj.mp
  show BitVec.signExtend 8 (BitVec.signExtend 32 w.toBitVec) = BitVec.signExtend 8 (nI (w.toBitVec.toNat % 256)).toBitVec
  rw [BitVec.signExtend_eq_setWidth_of_le _ (by decide), BitVec.signExtend_eq_setWidth_of_le _ (by decide), BitVec.signExtend_eq_setWidth_of_le _ (by decide)]
  apply BitVec.eq_of_toNat_eq
  rw [BitVec.toNat_setWidth, BitVec.toNat_setWidth, BitVec.toNat_setWidth, pk_tn (by omega)]
  omega
def RText (len : Int32) (tb : Nat → Int32) (ul : Int32) (ut : Nat → Int32) : Prop := ∃ n : Nat, n ≤ 200 ∧ len = nI n ∧ ul = nI n ∧ ∀ k, k < n → ∃ b, b < 256 ∧ tb k = nI b ∧ ut k = sb_b b
theorem q_append (N : Nat) (hN : 9 ≤ N) {n m : Nat} (hnm : n + m ≤ 200) (hm1 : 1 ≤ m) (hm : m ≤ 8) {tb ut : Nat → Int32} (hT : ∀ k, k < n → ∃ b, b < 256 ∧ tb k = nI b ∧ ut k = sb_b b) (v : Int64) :
    ∃ ob ot, wk_loop (fun k20 : Int32 → (Nat → Int32) → Int64 → Int32 → Option (Int32 × Int32 × (Nat → Int32)) => B_X9_append_20 N k20) (fun _ _ _ _ => none) N (nI n) tb v (nI (m - 1)) = some (nI (n + m), nI (n + m), ob) ∧
      wk_loop (fun k34 : Int32 → (Nat → Int32) → Int64 → Int32 → Option (Int32 × Int32 × (Nat → Int32)) => B_X11_write_34 N k34) (fun _ _ _ _ => none) N (nI n) ut v (nI (m - 1)) = some (nI (n + m), nI (n + m), ot) ∧ ∀ k, k < n + m → ∃ b, b < 256 ∧ ob k = nI b ∧ ot k = sb_b b := by
  have e0 : nI (m - 1) = nI (m - 1) - nI 0 := by rw [pk_sub (by omega)]; rfl
  have e1 : nI n = nI (n + 0) := rfl
  rw [e0, e1]
  refine p_sim (σ := Nat → Int32) (τ := Nat → Int32)
    (W := fun f i s => wk_loop (fun k20 : Int32 → (Nat → Int32) → Int64 → Int32 → Option (Int32 × Int32 × (Nat → Int32)) => B_X9_append_20 N k20) (fun _ _ _ _ => none) f (nI (n + i)) s v (nI (m - 1) - nI i))
    (V := fun f i s => wk_loop (fun k34 : Int32 → (Nat → Int32) → Int64 → Int32 → Option (Int32 × Int32 × (Nat → Int32)) => B_X11_write_34 N k34) (fun _ _ _ _ => none) f (nI (n + i)) s v (nI (m - 1) - nI i))
    (fun i s t => ∀ k, k < n + i → ∃ b, b < 256 ∧ s k = nI b ∧ t k = sb_b b)
    (fun A B => ∃ ob ot, A = some (nI (n + m), nI (n + m), ob) ∧ B = some (nI (n + m), nI (n + m), ot) ∧ ∀ k, k < n + m → ∃ b, b < 256 ∧ ob k = nI b ∧ ot k = sb_b b) m ?_ ?_ m N N 0 tb ut (by omega) (by omega) (by omega) hT
  · intro f f' i s t hi hI
    have e2 : nI (m - 1) - nI i = nI (m - 1 - i) := pk_sub (by omega)
    have hlt : v.toBitVec.toNat / 2 ^ (8 * (m - 1 - i)) % 256 < 256 := Nat.mod_lt _ (by decide)
    refine ⟨upd s (n + i) (nI (v.toBitVec.toNat / 2 ^ (8 * (m - 1 - i)) % 256)), upd t (n + i) (sb_b (v.toBitVec.toNat / 2 ^ (8 * (m - 1 - i)) % 256)), ?_, ?_, ?_⟩
    · show B_X9_append_20 N _ (nI (n + i)) s v (nI (m - 1) - nI i) = _
      rw [B_X9_append_20]
      rw [e2, if_neg (nI_pos (by omega)), p_shu v _ (by omega), p_set (by omega) (by omega), p_b1, p_nm, ← e2, p_dn (by omega) (by omega), nI_1]
      rfl
    · show B_X11_write_34 N _ (nI (n + i)) t v (nI (m - 1) - nI i) = _
      rw [B_X11_write_34]
      rw [e2, if_neg (nI_pos (by omega)), p_ck (by omega) (by omega), p_nm, p_i8, p_shs v _ (by omega), nI_clamp (by omega), ← e2, p_dn (by omega) (by omega), nI_1]
      rfl
    · intro k hk
      by_cases e : k = n + i
      · subst e
        exact ⟨_, hlt, by rw [pk_us], by rw [pk_us]⟩
      · rw [pk_un e, pk_un e]
        exact hI k (by omega)
  · intro f f' s t hI
    have g : nI (m - 1) - nI m < (0 : Int32) := pk_sneg (by omega) (by omega)
    refine ⟨s, t, ?_, ?_, hI⟩
    · show B_X9_append_20 N _ (nI (n + m)) s v (nI (m - 1) - nI m) = _
      rw [B_X9_append_20]
      rw [if_pos g]
    · show B_X11_write_34 N _ (nI (n + m)) t v (nI (m - 1) - nI m) = _
      rw [B_X11_write_34]
      rw [if_pos g]
theorem q_write (N : Nat) (hN : 9 ≤ N) {len ul : Int32} {tb ut : Nat → Int32} (hR : RText len tb ul ut) (x : Int32) (v : Int64) : ∃ r o1 o2 p2, f_X10_write N len tb x v = some (r, o1, o2) ∧ f_X11_write N ul ut x v = some (r, o1, p2) ∧ RText o1 o2 o1 p2 := by
  obtain ⟨n, hn, rfl, rfl, hT⟩ := hR
  unfold f_X10_write f_X11_write f_X9_append
  simp only [p_inI, p_b1, p_bI, decide_eq_false_iff_not, p_toInt_lt x, p_toInt_le x, show (1 : Int32).toInt = 1 from rfl, show (8 : Int32).toInt = 8 from rfl, show (1 : Int64).toInt = 1 from rfl, show (8 : Int64).toInt = 8 from rfl]
  by_cases a : 1 ≤ x.toInt ∧ x.toInt ≤ 8
  · simp only [if_neg (show ¬ x.toInt < 1 by omega), if_pos a.2, if_neg (not_not_intro a)]
    obtain ⟨m, hm, rfl⟩ := p_of (n := 8) (by omega) a.2
    rw [nI_toInt (by omega)] at a
    by_cases b : n + m ≤ 200
    · have g : nI n + nI m ≤ (200 : Int32) := by rw [nI_add]; exact nI_le (b := 200) b (by decide)
      rw [if_pos g, if_pos g, p_nm, p_nm, show (1 : Int32) = nI 1 from rfl, pk_sub (show 1 ≤ m by omega)]
      obtain ⟨ob, ot, e1, e2, h⟩ := q_append N hN b (by omega) hm hT v
      rw [e1, e2, p_b3]
      exact ⟨_, _, _, _, rfl, rfl, n + m, b, rfl, rfl, h⟩
    · have g : ¬ nI n + nI m ≤ (200 : Int32) := by rw [nI_add]; exact nI_ge (a := 200) (by omega) (by omega)
      rw [if_neg g, if_neg g, p_b3]
      exact ⟨_, _, _, _, rfl, rfl, n, hn, rfl, rfl, hT⟩
  · simp only [if_pos a]
    refine ⟨-1, nI n, tb, ut, ?_, rfl, n, hn, rfl, rfl, hT⟩
    by_cases c : x.toInt < 1
    · rw [if_pos c]
    · rw [if_neg c, if_neg (by omega)]
theorem q_wipe (N : Nat) {len ul : Int32} {tb ut : Nat → Int32} (hR : RText len tb ul ut) : ∃ r o1, f_X10_wipe N len = some (r, o1) ∧ f_X11_wipe N ul = some (r, o1) ∧ RText o1 tb o1 ut := by
  obtain ⟨n, hn, rfl, rfl, hT⟩ := hR
  exact ⟨_, _, rfl, rfl, 0, by omega, rfl, rfl, fun k hk => by omega⟩
