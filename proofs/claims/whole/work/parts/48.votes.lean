/-! PURE: for whom a card counts -/
theorem p_runx {σ R : Type} {W : Nat → Nat → σ → Option R} (I : Nat → σ → Prop) (P : Option R → Prop) (e : Nat)
    (hs : ∀ m i s, i < e → I i s → P (W (m + 1) i s) ∨ ∃ s', W (m + 1) i s = W m (i + 1) s' ∧ I (i + 1) s') (hx : ∀ m s, I e s → P (W (m + 1) e s)) : ∀ (d m i : Nat) (s : σ), i + d = e → d < m → I i s → P (W m i s) := by
  intro d
  induction d with
  | zero =>
    intro m i s h1 h2 hI
    obtain ⟨n, rfl⟩ : ∃ n, m = n + 1 := ⟨m - 1, by omega⟩
    have e1 : i = e := by omega
    subst e1
    exact hx n s hI
  | succ d ih =>
    intro m i s h1 h2 hI
    obtain ⟨n, rfl⟩ : ∃ n, m = n + 1 := ⟨m - 1, by omega⟩
    rcases hs n i s (by omega) hI with h | ⟨s', e1, hI'⟩
    · exact h
    · rw [e1]
      exact ih n (i + 1) s' (by omega) (by omega) hI'
def p_ob (bs : Nat) : Int32 := if bs = 1 then 0 else if bs = 2 then 1 else if bs = 4 then 2 else if bs = 8 then 3 else -4
def p_pc (bs : Nat) : Nat := bs % 2 + bs / 2 % 2 + bs / 4 % 2 + bs / 8 % 2
def p_top (bs : Nat) : Int32 := if bs < 1 then -4 else if bs < 2 then 0 else if bs < 4 then 1 else if bs < 8 then 2 else 3
theorem p_bit : ∀ h, h < 4 → ∀ bs, bs < 8 → bs < 2 ^ h → nI bs ||| ((1 : Int32) <<< (nI h &&& 31)) = nI (bs + 2 ^ h) ∧ p_pc (bs + 2 ^ h) = p_pc bs + 1 ∧ p_top (bs + 2 ^ h) = nI h ∧ bs + 2 ^ h < 2 ^ (h + 1) := by decide
theorem p_bit2 : ∀ h, h < 4 → ∀ bs, bs < 16 → ((nI bs = (1 : Int32) <<< (nI h &&& 31)) ↔ bs = 2 ^ h) := by decide
theorem p_bit3 : ∀ bs, bs < 16 → (if nI (p_pc bs) = (1 : Int32) then some (p_top bs) else some (-4 : Int32)) = some (p_ob bs) := by decide
theorem p_ob4 : ∀ bs, bs < 16 → p_ob bs = -4 ∨ ∃ h, h < 4 ∧ p_ob bs = nI h := by decide
theorem p_ob5 : ∀ bs, bs < 16 → bs ≠ 1 → bs ≠ 2 → bs ≠ 4 → bs ≠ 8 → p_ob bs = -4 := by decide
theorem p_only (N : Nat) (hN : 5 ≤ N) {bs : Nat} (hb : bs < 16) : f_X10_onlyBit N (nI bs) = some (p_ob bs) := by
  unfold f_X10_onlyBit
  obtain ⟨e, he⟩ : ∃ e : Nat, e = 4 := ⟨_, rfl⟩
  rw [show (0 : Int32) = nI 0 from rfl]
  refine p_runx (σ := Unit) (W := fun m i _ => wk_loop (fun k2 : Int32 → Int32 → Option Int32 => B_X10_onlyBit_2 N k2) (fun _ _ => none) m (nI bs) (nI i)) (fun i _ => ∀ j, j < i → bs ≠ 2 ^ j) (fun A => A = some (p_ob bs)) e ?_ ?_ 4 N 0 () (by omega) (by omega) (fun j hj => by omega)
  · intro m i _ hi hI
    show B_X10_onlyBit_2 N _ (nI bs) (nI i) = _ ∨ ∃ _ : Unit, B_X10_onlyBit_2 N _ (nI bs) (nI i) = _ ∧ _
    rw [B_X10_onlyBit_2, if_neg (show ¬ (4 : Int32) ≤ nI i from nI_ge (b := 4) (by omega) (by omega))]
    by_cases h : bs = 2 ^ i
    · left
      rw [if_pos ((p_bit2 i (by omega) bs hb).mpr h), h]
      have : ∀ i, i < 4 → some (nI i) = some (p_ob (2 ^ i)) := by decide
      exact this i (by omega)
    · right
      rw [if_neg (fun q => h ((p_bit2 i (by omega) bs hb).mp q)), p_nm, nI_1]
      exact ⟨(), rfl, fun j hj => by
        by_cases e : j = i
        · rw [e]; exact h
        · exact hI j (by omega)⟩
  · intro m _ hI
    show B_X10_onlyBit_2 N _ (nI bs) (nI e) = _
    rw [B_X10_onlyBit_2, if_pos (show (4 : Int32) ≤ nI e from nI_le (a := 4) (by omega) (by omega)), p_ob5 bs hb (hI 0 (by omega)) (hI 1 (by omega)) (hI 2 (by omega)) (hI 3 (by omega))]
theorem q_shown (N : Nat) (hN : 5 ≤ N) {co st dm ss hs : Nat → Int32} {n c r cy : Nat} (hn : n ≤ 40) (hst : ∀ j, j < 12 * n → st j = hs j) (hc : c < n) (hr : r < 3) (hcy : cy < 5) (fl : Int32) :
    ∃ v, wk_loop (fun k53 : Int32 → Int32 → Int32 → Int32 → Int32 → Int32 → Option Int32 => B_X4_choiceOf_53 N co st dm ss k53) (fun _ _ _ _ _ _ => none) N (nI c) (nI r) (nI cy) fl (0 : Int32) (0 : Int32) = some v ∧ f_X11_votes N hs (nI c) (nI r) (ss cy) fl = some v ∧ (v = -4 ∨ ∃ h, h < 4 ∧ v = nI h) := by
  unfold f_X11_votes
  obtain ⟨e, he⟩ : ∃ e : Nat, e = 4 := ⟨_, rfl⟩
  rw [show (0 : Int32) = nI 0 from rfl]
  refine p_sim (σ := Int32) (τ := Int32 × Int32)
    (W := fun m i s => wk_loop (fun k53 : Int32 → Int32 → Int32 → Int32 → Int32 → Int32 → Option Int32 => B_X4_choiceOf_53 N co st dm ss k53) (fun _ _ _ _ _ _ => none) m (nI c) (nI r) (nI cy) fl s (nI i))
    (V := fun m i t => wk_loop (fun k10 : Int32 → Int32 → Int32 → Int32 → Int32 → Int32 → Int32 → Option Int32 => B_X11_votes_10 N hs k10) (fun _ _ _ _ _ _ _ => none) m (nI c) (nI r) (ss cy) fl t.1 t.2 (nI i))
    (fun i s t => ∃ bs, bs < 2 ^ i ∧ s = nI bs ∧ t.1 = p_top bs ∧ t.2 = nI (p_pc bs))
    (fun A B => ∃ v, A = some v ∧ B = some v ∧ (v = -4 ∨ ∃ h, h < 4 ∧ v = nI h)) e ?_ ?_ 4 N N 0 (nI 0) (-4, nI 0) (by omega) (by omega) (by omega) ⟨0, by decide, rfl, rfl, rfl⟩
  · intro m m' i s t hi hI
    obtain ⟨t1, t2⟩ := t
    obtain ⟨bs, hbs, rfl, h1, h2⟩ := hI
    dsimp only at h1 h2
    subst h1; subst h2
    have hb8 : bs < 8 := by
      rcases (show i = 0 ∨ i = 1 ∨ i = 2 ∨ i = 3 by omega) with rfl | rfl | rfl | rfl <;> omega
    obtain ⟨b1, b2, b3, b4⟩ := p_bit i (by omega) bs hb8 hbs
    have g : ¬ (4 : Int32) ≤ nI i := nI_ge (b := 4) (by omega) (by omega)
    have a94 : ∀ k53 : Int32 → Int32 → Int32 → Int32 → Int32 → Int32 → Option Int32, B_X4_choiceOf_94 N co st dm ss k53 (nI c) (nI r) (nI cy) fl (nI bs) (nI i) = k53 (nI c) (nI r) (nI cy) fl (nI (bs + 2 ^ i)) (nI (i + 1)) := fun k => by
      rw [B_X4_choiceOf_94, p_nm, p_nm, b1, nI_1]
    have cA : ∀ k53 : Int32 → Int32 → Int32 → Int32 → Int32 → Int32 → Option Int32, B_X4_choiceOf_53 N co st dm ss k53 (nI c) (nI r) (nI cy) fl (nI bs) (nI i) = if ss cy ≤ hs (12 * c + 4 * r + i) then k53 (nI c) (nI r) (nI cy) fl (nI (bs + 2 ^ i)) (nI (i + 1)) else if fl = 0 then k53 (nI c) (nI r) (nI cy) fl (nI bs) (nI (i + 1)) else if hs (12 * c + 4 * r + i) = 1 then k53 (nI c) (nI r) (nI cy) fl (nI (bs + 2 ^ i)) (nI (i + 1)) else k53 (nI c) (nI r) (nI cy) fl (nI bs) (nI (i + 1)) := fun k => by
      rw [B_X4_choiceOf_53, if_neg g]
      unfold f_X3_state
      rw [p_place, p_get (by omega) (by omega), p_b1, p_b1, p_get hcy (by omega), p_b1, a94, p_nm, nI_1, hst _ (by omega)]
    have cB : ∀ k10 : Int32 → Int32 → Int32 → Int32 → Int32 → Int32 → Int32 → Option Int32, B_X11_votes_10 N hs k10 (nI c) (nI r) (ss cy) fl (p_top bs) (nI (p_pc bs)) (nI i) = if ss cy ≤ hs (12 * c + 4 * r + i) then k10 (nI c) (nI r) (ss cy) fl (nI i) (nI (p_pc bs + 1)) (nI (i + 1)) else if hs (12 * c + 4 * r + i) = 1 then (if fl = 0 then k10 (nI c) (nI r) (ss cy) fl (p_top bs) (nI (p_pc bs)) (nI (i + 1)) else k10 (nI c) (nI r) (ss cy) fl (nI i) (nI (p_pc bs + 1)) (nI (i + 1))) else k10 (nI c) (nI r) (ss cy) fl (p_top bs) (nI (p_pc bs)) (nI (i + 1)) := fun k => by
      rw [B_X11_votes_10, if_neg g, p_placeM, p_ck (by omega) (by omega), p_nm, nI_clamp (by omega)]
      simp only [p_nm, nI_1]
    by_cases q1 : ss cy ≤ hs (12 * c + 4 * r + i)
    · refine ⟨nI (bs + 2 ^ i), (nI i, nI (p_pc bs + 1)), ?_, ?_, bs + 2 ^ i, b4, rfl, b3.symm, by rw [b2]⟩
      · exact (cA _).trans (if_pos q1)
      · exact (cB _).trans (if_pos q1)
    · by_cases q2 : hs (12 * c + 4 * r + i) = 1
      · by_cases q3 : fl = 0
        · refine ⟨nI bs, (p_top bs, nI (p_pc bs)), ?_, ?_, bs, by rw [Nat.pow_succ]; omega, rfl, rfl, rfl⟩
          · exact (cA _).trans ((if_neg q1).trans (if_pos q3))
          · exact (cB _).trans ((if_neg q1).trans ((if_pos q2).trans (if_pos q3)))
        · refine ⟨nI (bs + 2 ^ i), (nI i, nI (p_pc bs + 1)), ?_, ?_, bs + 2 ^ i, b4, rfl, b3.symm, by rw [b2]⟩
          · exact (cA _).trans ((if_neg q1).trans ((if_neg q3).trans (if_pos q2)))
          · exact (cB _).trans ((if_neg q1).trans ((if_pos q2).trans (if_neg q3)))
      · refine ⟨nI bs, (p_top bs, nI (p_pc bs)), ?_, ?_, bs, by rw [Nat.pow_succ]; omega, rfl, rfl, rfl⟩
        · refine (cA _).trans ((if_neg q1).trans ?_)
          by_cases q3 : fl = 0
          · exact if_pos q3
          · exact (if_neg q3).trans (if_neg q2)
        · exact (cB _).trans ((if_neg q1).trans (if_neg q2))
  · intro m m' s t hI
    obtain ⟨t1, t2⟩ := t
    obtain ⟨bs, hbs, rfl, h1, h2⟩ := hI
    dsimp only at h1 h2
    subst h1; subst h2
    have hb : bs < 16 := by rw [he] at hbs; omega
    have g : (4 : Int32) ≤ nI e := nI_le (a := 4) (by omega) (by omega)
    refine ⟨p_ob bs, ?_, ?_, p_ob4 bs hb⟩
    · show B_X4_choiceOf_53 N co st dm ss _ (nI c) (nI r) (nI cy) fl (nI bs) (nI e) = _
      rw [B_X4_choiceOf_53, if_pos g, p_only N hN hb, p_b1]
    · show B_X11_votes_10 N hs _ (nI c) (nI r) (ss cy) fl (p_top bs) (nI (p_pc bs)) (nI e) = _
      rw [B_X11_votes_10, if_pos g]
      exact p_bit3 bs hb
