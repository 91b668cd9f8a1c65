/-! PURE: votes added up; vote, counted -/
def p_cnt (f : Nat → Bool) : Nat → Nat | 0 => 0 | k + 1 => p_cnt f k + (if f k then 1 else 0)
theorem p_cnt_le (f : Nat → Bool) : ∀ k, p_cnt f k ≤ k
  | 0 => Nat.le_refl 0
  | k + 1 => by
    have := p_cnt_le f k
    rw [p_cnt]
    by_cases h : f k = true
    · rw [if_pos h]; omega
    · rw [if_neg h]; omega
theorem p_cnt_s (f : Nat → Bool) (k : Nat) : p_cnt f (k + 1) = p_cnt f k + (if f k then 1 else 0) := rfl
def p_sel (pc : Nat → Int32) (cy : Int32) (vt : Nat → Int32) (h : Nat) (k : Nat) : Bool := decide ((cy = 5 ∨ pc k = cy) ∧ vt k = nI h)
def p_pk (c : Nat → Nat) : Nat := c 0 + 256 * c 1 + 65536 * c 2 + 16777216 * c 3
theorem p_isOf (N : Nat) (pc : Nat → Int32) {k : Nat} (hk : k < 40) (cy : Int32) : (cy = 5 ∨ pc k = cy → f_X8_isOf N pc (nI k) cy = some true) ∧ (¬ (cy = 5 ∨ pc k = cy) → f_X8_isOf N pc (nI k) cy = some false) := by
  unfold f_X8_isOf f_X3_countyOf
  rw [p_get hk (by omega), p_b1, p_b1]
  by_cases a : cy = 5
  · rw [if_pos a]; exact ⟨fun _ => rfl, fun h => (h (Or.inl a)).elim⟩
  · rw [if_neg a]
    by_cases b : pc k = cy
    · rw [if_pos b]; exact ⟨fun _ => rfl, fun h => (h (Or.inr b)).elim⟩
    · rw [if_neg b]; exact ⟨fun h => (h.elim a b).elim, fun _ => rfl⟩
theorem p_isIn (N : Nat) (ct : Nat → Int32) {k : Nat} (hk : k < 40) (cy : Int32) : (cy = 5 ∨ ct k = cy → f_X11_isIn N ct (nI k) cy = some true) ∧ (¬ (cy = 5 ∨ ct k = cy) → f_X11_isIn N ct (nI k) cy = some false) := by
  unfold f_X11_isIn
  rw [p_ck (by omega) (by omega), nI_clamp (by omega)]
  by_cases a : cy = 5
  · rw [if_pos a]; exact ⟨fun _ => rfl, fun h => (h (Or.inl a)).elim⟩
  · rw [if_neg a]
    by_cases b : ct k = cy
    · rw [if_pos b]; exact ⟨fun _ => rfl, fun h => (h (Or.inr b)).elim⟩
    · rw [if_neg b]; exact ⟨fun h => (h.elim a b).elim, fun _ => rfl⟩
theorem p_one : ∀ h, h < 4 → ∀ N : Nat, f_X10_oneVote N (nI h) = some (nI (256 ^ h)) := by
  intro h hh N
  rcases (show h = 0 ∨ h = 1 ∨ h = 2 ∨ h = 3 by omega) with rfl | rfl | rfl | rfl <;> rfl
theorem p_nh : ∀ h, h < 4 → ∀ g, g < 4 → (nI h = nI g ↔ h = g) := by decide
theorem p_n4 : ∀ h, h < 4 → ¬ nI h = (-4 : Int32) := by decide
theorem p_pks (pc : Nat → Int32) (cy : Int32) (vt : Nat → Int32) {k h : Nat} (hs : cy = 5 ∨ pc k = cy) (hh : h < 4) (hv : vt k = nI h) : p_pk (fun g => p_cnt (p_sel pc cy vt g) (k + 1)) = p_pk (fun g => p_cnt (p_sel pc cy vt g) k) + 256 ^ h := by
  have e : ∀ g, g < 4 → (if p_sel pc cy vt g k = true then 1 else 0) = if h = g then 1 else 0 := fun g hg => by
    unfold p_sel
    rw [hv]
    by_cases q : h = g
    · subst q; rw [if_pos rfl, if_pos (decide_eq_true ⟨hs, rfl⟩)]
    · rw [if_neg q, if_neg]
      intro w
      exact q ((p_nh h hh g hg).mp (of_decide_eq_true w).2)
  unfold p_pk
  simp only [p_cnt_s, e 0 (by decide), e 1 (by decide), e 2 (by decide), e 3 (by decide)]
  rcases (show h = 0 ∨ h = 1 ∨ h = 2 ∨ h = 3 by omega) with rfl | rfl | rfl | rfl <;> simp <;> omega
theorem p_pkn (pc : Nat → Int32) (cy : Int32) (vt : Nat → Int32) {k : Nat} (hs : ¬ ((cy = 5 ∨ pc k = cy) ∧ ∃ h, h < 4 ∧ vt k = nI h)) : p_pk (fun g => p_cnt (p_sel pc cy vt g) (k + 1)) = p_pk (fun g => p_cnt (p_sel pc cy vt g) k) := by
  have e : ∀ g, g < 4 → (if p_sel pc cy vt g k = true then 1 else 0) = 0 := fun g hg => by
    rw [if_neg]
    intro w
    obtain ⟨w1, w2⟩ := of_decide_eq_true w
    exact hs ⟨w1, g, hg, w2⟩
  unfold p_pk
  simp only [p_cnt_s, e 0 (by decide), e 1 (by decide), e 2 (by decide), e 3 (by decide), Nat.add_zero]
/-- the sum of the class: all four counts in one number -/
theorem q_sum (N : Nat) (hN : 41 ≤ N) {pc st od os vt : Nat → Int32} {n : Nat} (hn : n ≤ 40) {rc : Int32} (hA : ∀ k, k < n → f_X4_choiceOf N pc st od os (nI k) rc = some (vt k)) (hv : ∀ k, k < n → vt k = -4 ∨ ∃ h, h < 4 ∧ vt k = nI h) (cy : Int32) :
    f_X8_sum N (nI n) pc st od os cy rc = some (nI (p_pk (fun g => p_cnt (p_sel pc cy vt g) n))) := by
  unfold f_X8_sum
  rw [show (0 : Int32) = nI 0 from rfl]
  refine p_run (σ := Unit) (W := fun m i _ => wk_loop (fun k5 : Int32 → Int32 → Int32 → Int32 → Option Int32 => B_X8_sum_5 N (nI n) pc st od os k5) (fun _ _ _ _ => none) m cy rc (nI (p_pk (fun g => p_cnt (p_sel pc cy vt g) i))) (nI i)) (fun _ _ => True) (fun A => A = some (nI (p_pk (fun g => p_cnt (p_sel pc cy vt g) n)))) n ?_ ?_ n N 0 () (by omega) (by omega) trivial
  · intro m i _ hi _
    refine ⟨(), ?_, trivial⟩
    show B_X8_sum_5 N (nI n) pc st od os _ cy rc _ (nI i) = _
    have g : ¬ nI n ≤ nI i := nI_ge hi (by omega)
    have hcards : f_X8_cards N (nI n) = some (nI n) := rfl
    have hch : f_X8_choiceOf N pc st od os (nI i) rc = some (vt i) := by
      unfold f_X8_choiceOf
      rw [hA i hi, p_b1]
    obtain ⟨i1, i2⟩ := p_isOf N pc (k := i) (by omega) cy
    rw [B_X8_sum_5, hcards, p_b1, if_neg g]
    by_cases a : cy = 5 ∨ pc i = cy
    · rw [i1 a, p_b1, if_neg (by decide), hch, p_b1]
      rcases hv i hi with q | ⟨h, hh, q⟩
      · rw [q, B_X8_sum_36, if_pos rfl, p_nm, nI_1]
        rw [p_pkn pc cy vt (k := i) (fun w => by
          obtain ⟨-, h, hh, w⟩ := w
          exact p_n4 h hh (w.symm.trans q))]
      · rw [q, B_X8_sum_36, if_neg (p_n4 h hh), p_one h hh, p_b1, p_nm, p_nm, nI_1, nI_add]
        rw [p_pks pc cy vt a hh q]
    · rw [i2 a, p_b1, if_pos (show wk_bI false = 0 from rfl), B_X8_sum_36, if_pos rfl, p_nm, nI_1]
      rw [p_pkn pc cy vt (k := i) (fun w => a w.1)]
  · intro m _ _
    show B_X8_sum_5 N (nI n) pc st od os _ cy rc _ (nI n) = _
    rw [B_X8_sum_5, show f_X8_cards N (nI n) = some (nI n) from rfl, p_b1, if_pos (nI_le (Nat.le_refl n) (by omega))]
theorem q_counted1 (N : Nat) (hN : 41 ≤ N) {it : Int32} {cd ct hs uh ul ur uv uw vt : Nat → Int32} {n : Nat} (hn : n ≤ 40) (hcd : cd 0 = nI n) {rc t mach : Int32} (hM : ∀ k, k < n → f_X11_voteOf N it ct hs uh ul ur uv uw (nI k) rc t mach = some (vt k)) (cy : Int32) (h : Nat) :
    f_X11_countedOf N it cd ct hs uh ul ur uv uw cy rc (nI h) t mach = some (nI (p_cnt (p_sel ct cy vt h) n)) := by
  unfold f_X11_countedOf
  obtain ⟨z, hz⟩ : ∃ z : Nat, z = 0 := ⟨_, rfl⟩
  have e0 : (0 : Int32) = nI (p_cnt (p_sel ct cy vt h) 0) := rfl
  have e1 : wk_loop (fun k6 : Int32 → Int32 → Int32 → Int32 → Int32 → Int32 → Int32 → Option Int32 => B_X11_countedOf_6 N it cd ct hs uh ul ur uv uw k6) (fun _ _ _ _ _ _ _ => none) N cy rc (nI h) t mach (0 : Int32) (0 : Int32) = wk_loop (fun k6 : Int32 → Int32 → Int32 → Int32 → Int32 → Int32 → Int32 → Option Int32 => B_X11_countedOf_6 N it cd ct hs uh ul ur uv uw k6) (fun _ _ _ _ _ _ _ => none) N cy rc (nI h) t mach (nI (p_cnt (p_sel ct cy vt h) z)) (nI z) := by rw [hz]; rfl
  rw [e1]
  refine p_run (σ := Unit) (W := fun m i _ => wk_loop (fun k6 : Int32 → Int32 → Int32 → Int32 → Int32 → Int32 → Int32 → Option Int32 => B_X11_countedOf_6 N it cd ct hs uh ul ur uv uw k6) (fun _ _ _ _ _ _ _ => none) m cy rc (nI h) t mach (nI (p_cnt (p_sel ct cy vt h) i)) (nI i)) (fun _ _ => True) (fun A => A = some (nI (p_cnt (p_sel ct cy vt h) n))) n ?_ ?_ n N z () (by omega) (by omega) trivial
  · intro m i _ hi _
    refine ⟨(), ?_, trivial⟩
    show B_X11_countedOf_6 N it cd ct hs uh ul ur uv uw _ cy rc (nI h) t mach _ (nI i) = _
    have g : ¬ nI n ≤ nI i := nI_ge hi (by omega)
    obtain ⟨i1, i2⟩ := p_isIn N ct (k := i) (by omega) cy
    rw [B_X11_countedOf_6, p_ck0, p_cl0, hcd, if_neg g]
    have es : p_cnt (p_sel ct cy vt h) (i + 1) = p_cnt (p_sel ct cy vt h) i + (if p_sel ct cy vt h i then 1 else 0) := rfl
    by_cases a : cy = 5 ∨ ct i = cy
    · rw [i1 a, p_b1, if_neg (by decide), hM i hi, p_b1]
      by_cases q : vt i = nI h
      · rw [if_pos q, p_nm, p_nm, nI_1, nI_1]
        have e2 : p_cnt (p_sel ct cy vt h) (i + 1) = p_cnt (p_sel ct cy vt h) i + 1 := by rw [es, if_pos (show p_sel ct cy vt h i = true from decide_eq_true ⟨a, q⟩)]
        rw [e2]
      · rw [if_neg q, p_nm, p_nm, nI_1, Int32.add_zero]
        have e2 : p_cnt (p_sel ct cy vt h) (i + 1) = p_cnt (p_sel ct cy vt h) i := by rw [es, if_neg (show ¬ p_sel ct cy vt h i = true from fun w => q (of_decide_eq_true w).2), Nat.add_zero]
        rw [e2]
    · rw [i2 a, p_b1, if_pos (show wk_bI false = 0 from rfl), p_nm, p_nm, nI_1, Int32.add_zero]
      have e2 : p_cnt (p_sel ct cy vt h) (i + 1) = p_cnt (p_sel ct cy vt h) i := by rw [es, if_neg (show ¬ p_sel ct cy vt h i = true from fun w => a (of_decide_eq_true w).1), Nat.add_zero]
      rw [e2]
  · intro m _ _
    show B_X11_countedOf_6 N it cd ct hs uh ul ur uv uw _ cy rc (nI h) t mach _ (nI n) = _
    rw [B_X11_countedOf_6, p_ck0, p_cl0, hcd, if_pos (nI_le (Nat.le_refl n) (by omega))]
/-- one of the four counts out of the sum -/
theorem p_for (N : Nat) (c : Nat → Nat) (hc : ∀ g, c g < 128) {h : Nat} (hh : h < 4) : f_X10_votesFor N (nI h) (nI (p_pk c)) = some (nI (c h)) := by
  have h0 := hc 0
  have h1 := hc 1
  have h2 := hc 2
  have h3 := hc 3
  have hb : p_pk c < 2 ^ 31 := by unfold p_pk; omega
  have key : ∀ s : Nat, ∀ w : Int32, w = nI s → (w.toBitVec.smod 32).toNat = s → (nI (p_pk c) >>> w) &&& (255 : Int32) = nI (p_pk c / 2 ^ s % 256) := by
    intro s w hw hs
    rw [pk_shrN hb w s hs, pk_andN (show p_pk c / 2 ^ s < 2 ^ 32 from Nat.lt_of_le_of_lt (Nat.div_le_self _ _) (by omega)) 8 (by decide)]
  unfold f_X10_votesFor
  rcases (show h = 0 ∨ h = 1 ∨ h = 2 ∨ h = 3 by omega) with rfl | rfl | rfl | rfl
  · rw [show ((8 : Int32) * nI 0) &&& 31 = nI 0 from by decide, key 0 (nI 0) rfl (by decide)]; congr 2; unfold p_pk; omega
  · rw [show ((8 : Int32) * nI 1) &&& 31 = nI 8 from by decide, key 8 (nI 8) rfl (by decide)]; congr 2; unfold p_pk; omega
  · rw [show ((8 : Int32) * nI 2) &&& 31 = nI 16 from by decide, key 16 (nI 16) rfl (by decide)]; congr 2; unfold p_pk; omega
  · rw [show ((8 : Int32) * nI 3) &&& 31 = nI 24 from by decide, key 24 (nI 24) rfl (by decide)]; congr 2; unfold p_pk; omega
