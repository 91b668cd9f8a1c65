/-! PURE: a new card -/
theorem p_dn {a i : Nat} (h : i ≤ a) (ha : a < 2 ^ 29) : (nI a - nI i) + (-1 : Int32) = nI a - nI (i + 1) := by
  by_cases e : i = a
  · subst e
    rw [pk_sub (Nat.le_refl i), Nat.sub_self]
    apply Int32.toInt_inj.mp
    rw [pk_sub_toInt (by omega) (by omega), show (nI 0 + (-1 : Int32)).toInt = -1 from rfl]
    omega
  · rw [pk_sub h, pk_sub (show i + 1 ≤ a by omega), show a - i = (a - (i + 1)) + 1 by omega, pk_m1]
theorem p_digit (k : Nat) (hk : k < 2 ^ 63) : (lN k - lN k / (6 : Int64) * (6 : Int64)).toInt32 = nI (k % 6) := by
  rw [show (6 : Int64) = lN 6 from rfl, pk_lRem hk (by decide) (by decide), lN_i]
theorem p_dvl {α : Type} (k : Option α) : wk_dvl (6 : Int64) k = k := by
  rw [wk_dvl, if_neg (by decide)]
theorem q_add (N : Nat) (hN : 40 ≤ N) {co st cd ct hs : Nat → Int32} {n : Nat} (hR : RPile (nI n) co st cd ct hs 0 n) (hn : n < 40) {c K : Nat} (hc : c < 5) (hK : K < 2 ^ 63) :
    ∃ o1 o2 p1 p2 p3, f_X3_add N (nI n) co st (nI c) (lN K) = some (nI n, nI (n + 1), o1, o2) ∧
      wk_loop (fun k46 : (Nat → Int32) → (Nat → Int32) → (Nat → Int32) → Int32 → Int64 → Int32 → Option (Int32 × (Nat → Int32) × (Nat → Int32) × (Nat → Int32)) => B_X11_card_46 N k46) (fun _ _ _ _ _ _ => none) N cd ct hs (nI c) (lN K) (11 : Int32) = some (nI n, p1, p2, p3) ∧
      RPile (nI (n + 1)) o1 o2 p1 p2 p3 0 (n + 1) ∧ (∀ j, 1 ≤ j → p1 j = cd j) ∧ (∀ j, 40 ≤ j → p2 j = ct j) ∧ ∀ j, 480 ≤ j → p3 j = hs j := by
  obtain ⟨-, -, hcd, hco, hh⟩ := hR
  unfold f_X3_add
  rw [if_pos (show nI n < (40 : Int32) from nI_lt (b := 40) hn (by decide)), show (11 : Int32) = nI 11 - nI 0 from by decide]
  obtain ⟨e, he⟩ : ∃ e : Nat, e = 12 := ⟨_, rfl⟩
  refine p_sim (σ := (Nat → Int32) × Nat) (τ := (Nat → Int32) × Nat)
    (W := fun m i s => wk_loop (fun k19 : Int32 → (Nat → Int32) → (Nat → Int32) → Int32 → Int64 → Int32 → Option (Int32 × Int32 × (Nat → Int32) × (Nat → Int32)) => B_X3_add_19 N k19) (fun _ _ _ _ _ _ => none) m (nI n) co s.1 (nI c) (lN s.2) (nI 11 - nI i))
    (V := fun m i t => wk_loop (fun k46 : (Nat → Int32) → (Nat → Int32) → (Nat → Int32) → Int32 → Int64 → Int32 → Option (Int32 × (Nat → Int32) × (Nat → Int32) × (Nat → Int32)) => B_X11_card_46 N k46) (fun _ _ _ _ _ _ => none) m cd ct t.1 (nI c) (lN t.2) (nI 11 - nI i))
    (fun i s t => s.2 = t.2 ∧ s.2 < 2 ^ 63 ∧ (∀ j, j < 12 * n → s.1 j = t.1 (480 * 0 + j) ∧ ∃ v, v < 6 ∧ s.1 j = nI v) ∧ (∀ k, k < 12 → 12 ≤ i + k → s.1 (12 * n + k) = t.1 (12 * n + k) ∧ ∃ v, v < 6 ∧ s.1 (12 * n + k) = nI v) ∧ ∀ j, 480 ≤ j → t.1 j = hs j)
    (fun A B => ∃ o1 o2 p1 p2 p3, A = some (nI n, nI (n + 1), o1, o2) ∧ B = some (nI n, p1, p2, p3) ∧ RPile (nI (n + 1)) o1 o2 p1 p2 p3 0 (n + 1) ∧ (∀ j, 1 ≤ j → p1 j = cd j) ∧ (∀ j, 40 ≤ j → p2 j = ct j) ∧ ∀ j, 480 ≤ j → p3 j = hs j)
    e ?_ ?_ 12 N N 0 (st, K) (hs, K) (by omega) (by omega) (by omega) ⟨rfl, hK, hh, fun k h1 h2 => by omega, fun _ _ => rfl⟩
  · intro m m' i s t hi hI
    obtain ⟨a1, a2⟩ := s
    obtain ⟨b1, b2⟩ := t
    obtain ⟨h1, h2, h3, h4, h5⟩ := hI
    dsimp only at h1 h2 h3 h4 h5
    subst h1
    have e1 : nI 11 - nI i = nI (11 - i) := pk_sub (by omega)
    have g1 : ¬ nI (11 - i) < 0 := nI_pos (by omega)
    have e2 : (nI n * (12 : Int32)) + nI (11 - i) = nI (12 * n + (11 - i)) := by rw [show (12 : Int32) = nI 12 from rfl, pk_mul, nI_add, Nat.mul_comm]
    have e3 : ((12 : Int32) * nI n) + nI (11 - i) = nI (12 * n + (11 - i)) := by rw [show (12 : Int32) = nI 12 from rfl, pk_mul, nI_add]
    have e4 : lN a2 / (6 : Int64) = lN (a2 / 6) := by rw [show (6 : Int64) = lN 6 from rfl, pk_lDiv h2 (by decide) (by decide)]
    refine ⟨(upd a1 (12 * n + (11 - i)) (nI (a2 % 6)), a2 / 6), (upd b1 (12 * n + (11 - i)) (nI (a2 % 6)), a2 / 6), ?_, ?_, rfl, by dsimp only; omega, ?_, ?_, ?_⟩
    · show B_X3_add_19 N _ (nI n) co a1 (nI c) (lN a2) (nI 11 - nI i) = _
      rw [B_X3_add_19]
      rw [e1, if_neg g1, p_dvl, p_digit a2 h2, e2, p_set (by omega) (by omega), p_b1, p_dvl, p_nm, p_nm, e4, ← e1, p_dn (by omega) (by omega)]
    · show B_X11_card_46 N _ cd ct b1 (nI c) (lN a2) (nI 11 - nI i) = _
      rw [B_X11_card_46]
      rw [e1, if_neg g1, p_ck0, p_dvl, p_cl0, hcd, e3, p_ck (by omega) (by omega), p_dvl, p_nm, p_nm, p_digit a2 h2, nI_clamp (by omega), e4, ← e1, p_dn (by omega) (by omega)]
    · intro j hj
      dsimp only
      rw [pk_un (by omega), pk_un (by omega)]
      exact h3 j hj
    · intro k hk hik
      dsimp only
      by_cases hki : k = 11 - i
      · subst hki
        exact ⟨by simp only [pk_us], a2 % 6, by omega, by rw [pk_us]⟩
      · rw [pk_un (by omega), pk_un (by omega)]
        exact h4 k hk (by omega)
    · intro j hj
      dsimp only
      rw [pk_un (by omega)]
      exact h5 j hj
  · intro m m' s t hI
    obtain ⟨a1, a2⟩ := s
    obtain ⟨b1, b2⟩ := t
    obtain ⟨h1, h2, h3, h4, h5⟩ := hI
    dsimp only at h1 h2 h3 h4 h5
    subst h1
    have g1 : nI 11 - nI e < (0 : Int32) := pk_sneg (by omega) (by omega)
    refine ⟨upd co n (nI c), a1, upd cd 0 (nI (n + 1)), upd ct n (nI c), b1, ?_, ?_, ⟨by omega, rfl, by rw [pk_us], ?_, ?_⟩, fun j hj => pk_un (by omega), fun j hj => pk_un (by omega), h5⟩
    · show B_X3_add_19 N _ (nI n) co a1 (nI c) (lN a2) (nI 11 - nI e) = _
      rw [B_X3_add_19]
      rw [if_pos g1, p_set (by omega) (by omega), p_b1, nI_1, show (1 : Int32) = nI 1 from rfl, pk_sub (by omega), Nat.add_sub_cancel]
    · show B_X11_card_46 N _ cd ct b1 (nI c) (lN a2) (nI 11 - nI e) = _
      rw [B_X11_card_46]
      rw [if_pos g1, p_ck0, p_cl0, hcd, p_ck (by omega) (by omega), p_ck0, p_ck0, p_ck0, pk_us, nI_1, nI_clamp (by omega), show (1 : Int32) = nI 1 from rfl, pk_sub (by omega), Nat.add_sub_cancel]
    · intro k hk
      by_cases hkn : k = n
      · subst hkn
        rw [pk_us, Nat.mul_zero, Nat.zero_add, pk_us]
        exact ⟨rfl, c, hc, rfl⟩
      · rw [pk_un hkn, pk_un (by omega)]
        exact hco k (by omega)
    · intro j hj
      by_cases hjn : j < 12 * n
      · exact h3 j hjn
      · obtain ⟨k, rfl⟩ : ∃ k, j = 12 * n + k := ⟨j - 12 * n, by omega⟩
        rw [Nat.mul_zero, Nat.zero_add]
        exact h4 k (by omega) (by omega)
