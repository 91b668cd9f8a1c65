/-! PURE: two loops side by side; the cards -/
theorem p_sim {σ τ R S : Type} {W : Nat → Nat → σ → Option R} {V : Nat → Nat → τ → Option S} (I : Nat → σ → τ → Prop) (P : Option R → Option S → Prop) (e : Nat)
    (hs : ∀ m m' i s t, i < e → I i s t → ∃ s' t', W (m + 1) i s = W m (i + 1) s' ∧ V (m' + 1) i t = V m' (i + 1) t' ∧ I (i + 1) s' t')
    (hx : ∀ m m' s t, I e s t → P (W (m + 1) e s) (V (m' + 1) e t)) : ∀ (d m m' i : Nat) (s : σ) (t : τ), i + d = e → d < m → d < m' → I i s t → P (W m i s) (V m' i t) := by
  intro d
  induction d with
  | zero =>
    intro m m' i s t h1 h2 h3 hI
    obtain ⟨n, rfl⟩ : ∃ n, m = n + 1 := ⟨m - 1, by omega⟩
    obtain ⟨n', rfl⟩ : ∃ n, m' = n + 1 := ⟨m' - 1, by omega⟩
    have e1 : i = e := by omega
    subst e1
    exact hx n n' s t hI
  | succ d ih =>
    intro m m' i s t h1 h2 h3 hI
    obtain ⟨n, rfl⟩ : ∃ n, m = n + 1 := ⟨m - 1, by omega⟩
    obtain ⟨n', rfl⟩ : ∃ n, m' = n + 1 := ⟨m' - 1, by omega⟩
    obtain ⟨s', t', e1, e2, hI'⟩ := hs n n' i s t (by omega) hI
    rw [e1, e2]
    exact ih n n' (i + 1) s' t' (by omega) (by omega) (by omega) hI'
/-- one loop: its end, and what holds there -/
theorem p_run {σ R : Type} {W : Nat → Nat → σ → Option R} (I : Nat → σ → Prop) (P : Option R → Prop) (e : Nat)
    (hs : ∀ m i s, i < e → I i s → ∃ s', W (m + 1) i s = W m (i + 1) s' ∧ I (i + 1) s') (hx : ∀ m s, I e s → P (W (m + 1) e s)) : ∀ (d m i : Nat) (s : σ), i + d = e → d < m → I i s → P (W m i s) := by
  intro d
  induction d with
  | zero =>
    intro m i s h1 h2 hI
    obtain ⟨n, rfl⟩ : ∃ n, m = n + 1 := ⟨m - 1, by omega⟩
    have e1 : i = e := by omega
    subst e1
    exact hx n s hI
  | succ d ih =>
    intro m i s h1 h2 hI
    obtain ⟨n, rfl⟩ : ∃ n, m = n + 1 := ⟨m - 1, by omega⟩
    obtain ⟨s', e1, hI'⟩ := hs n i s (by omega) hI
    rw [e1]
    exact ih n (i + 1) s' (by omega) (by omega) hI'
/-- the cards of a pile, as the class and as the check keep them (sl: 0 the pile, 1 and 2 those kept) -/
def RPile (sz : Int32) (co st cd ct hs : Nat → Int32) (sl n : Nat) : Prop := n ≤ 40 ∧ sz = nI n ∧ cd sl = nI n ∧ (∀ k, k < n → co k = ct (40 * sl + k) ∧ ∃ c, c < 5 ∧ co k = nI c) ∧ (∀ j, j < 12 * n → st j = hs (480 * sl + j) ∧ ∃ c, c < 6 ∧ st j = nI c)
theorem p_cl0 : (0 : Int32).toNatClampNeg = 0 := rfl
theorem p_ck0 {α : Type} (k : Option α) : wk_ck (0 : Int32) 3 k = k := p_ck (i := 0) (by decide) (by decide) k
theorem p_has (N n : Nat) (hn : n ≤ 40) (x : Int32) : f_X3_has N (nI n) x = some (decide (0 ≤ x.toInt ∧ x.toInt < n)) := by
  unfold f_X3_has
  simp only [p_toInt_lt, p_toInt_le, show (0 : Int32).toInt = 0 from rfl, nI_toInt (show n < 2 ^ 31 by omega)]
  by_cases a : x.toInt < 0
  · rw [if_pos a, decide_eq_false (by omega)]
  · rw [if_neg a]
    by_cases b : (n : Int) ≤ x.toInt
    · rw [if_pos b, decide_eq_false (by omega)]
    · rw [if_neg b, decide_eq_true (by omega)]
theorem p_isCard (N n : Nat) (hn : n ≤ 40) (cd : Nat → Int32) (hc : cd 0 = nI n) (x : Int32) : f_X11_isCard N cd x = some (decide (0 ≤ x.toInt ∧ x.toInt < n)) := by
  unfold f_X11_isCard
  rw [p_ck0, p_cl0, hc, p_inI, p_b1]
  have e : (nI n - (1 : Int32)).toInt64.toInt = (n : Int) - 1 := by
    rw [p_i2l, show (1 : Int32) = nI 1 from rfl, pk_sub_toInt (by omega) (by omega)]
    rfl
  rw [e, show (0 : Int64).toInt = 0 from rfl]
  congr 1
  exact decide_eq_decide.mpr (by omega)
theorem p_isRace (N : Nat) (x : Int32) : f_X10_isRace N x = some (decide (0 ≤ x.toInt ∧ x.toInt ≤ 2)) := by
  unfold f_X10_isRace
  simp only [p_toInt_lt, p_toInt_le, show (0 : Int32).toInt = 0 from rfl, show (3 : Int32).toInt = 3 from rfl]
  by_cases a : x.toInt < 0
  · rw [if_pos a, decide_eq_false (by omega)]
  · rw [if_neg a]
    by_cases b : 3 ≤ x.toInt
    · rw [if_pos b, decide_eq_false (by omega)]
    · rw [if_neg b, decide_eq_true (by omega)]
theorem p_isHole (N : Nat) (x : Int32) : f_X10_isHole N x = some (decide (0 ≤ x.toInt ∧ x.toInt ≤ 3)) := by
  unfold f_X10_isHole
  simp only [p_toInt_lt, p_toInt_le, show (0 : Int32).toInt = 0 from rfl, show (4 : Int32).toInt = 4 from rfl]
  by_cases a : x.toInt < 0
  · rw [if_pos a, decide_eq_false (by omega)]
  · rw [if_neg a]
    by_cases b : 4 ≤ x.toInt
    · rw [if_pos b, decide_eq_false (by omega)]
    · rw [if_neg b, decide_eq_true (by omega)]
theorem p_isHour (N : Nat) (x : Int32) : f_X10_isHour N x = some (decide (0 ≤ x.toInt ∧ x.toInt ≤ 999)) := by
  unfold f_X10_isHour
  simp only [p_toInt_lt, p_toInt_le, show (0 : Int32).toInt = 0 from rfl, show (1000 : Int32).toInt = 1000 from rfl]
  by_cases a : x.toInt < 0
  · rw [if_pos a, decide_eq_false (by omega)]
  · rw [if_neg a]
    by_cases b : 1000 ≤ x.toInt
    · rw [if_pos b, decide_eq_false (by omega)]
    · rw [if_neg b, decide_eq_true (by omega)]
theorem p_isWhat (N : Nat) (x y : Int32) : f_X10_isWhat N x y = some (decide (0 ≤ x.toInt ∧ x.toInt < y.toInt)) := by
  unfold f_X10_isWhat
  simp only [p_toInt_lt, p_toInt_le, show (0 : Int32).toInt = 0 from rfl]
  by_cases a : x.toInt < 0
  · rw [if_pos a, decide_eq_false (by omega)]
  · rw [if_neg a]
    by_cases b : y.toInt ≤ x.toInt
    · rw [if_pos b, decide_eq_false (by omega)]
    · rw [if_neg b, decide_eq_true (by omega)]
theorem p_mhour (N : Nat) (x : Int32) : f_X11_isHour N x = some (decide (0 ≤ x.toInt ∧ x.toInt ≤ 999)) := by
  unfold f_X11_isHour
  rw [p_inI, p_b1]
  rfl
/-- the place of a hole -/
theorem p_place (c r h : Nat) : ((nI c * (12 : Int32)) + (nI r * (4 : Int32))) + nI h = nI (12 * c + 4 * r + h) := by
  rw [show (12 : Int32) = nI 12 from rfl, show (4 : Int32) = nI 4 from rfl, pk_mul, pk_mul, nI_add, nI_add, Nat.mul_comm c, Nat.mul_comm r]
theorem p_placeM (c r h : Nat) : (((12 : Int32) * nI c) + ((4 : Int32) * nI r)) + nI h = nI (12 * c + 4 * r + h) := by
  rw [show (12 : Int32) = nI 12 from rfl, show (4 : Int32) = nI 4 from rfl, pk_mul, pk_mul, nI_add, nI_add]
theorem p_rng {x : Int32} {n : Nat} (h0 : 0 ≤ x.toInt) (h1 : x.toInt < n) : ∃ k : Nat, k < n ∧ x = nI k := by
  obtain ⟨j, hj, rfl⟩ := nI_of (x := x) (by rw [p_toInt_lt, show (0 : Int32).toInt = 0 from rfl]; omega)
  rw [nI_toInt hj] at h1
  exact ⟨j, by omega, rfl⟩
theorem q_hole (N : Nat) {sz : Int32} {co st cd ct hs : Nat → Int32} {n : Nat} (hR : RPile sz co st cd ct hs 0 n) (x y z : Int32) : ∃ r, f_X10_hole N sz st x y z = some r ∧ f_X11_hole N cd hs x y z = some r := by
  obtain ⟨hn, rfl, hc, -, hh⟩ := hR
  unfold f_X10_hole f_X11_hole
  simp only [p_has N n hn, p_isCard N n hn cd hc, p_isRace, p_isHole, p_inI, p_b1, p_bI, decide_eq_false_iff_not, show (0 : Int64).toInt = 0 from rfl, show (2 : Int64).toInt = 2 from rfl, show (3 : Int64).toInt = 3 from rfl]
  by_cases a : 0 ≤ x.toInt ∧ x.toInt < n
  · by_cases b : 0 ≤ y.toInt ∧ y.toInt ≤ 2
    · by_cases c : 0 ≤ z.toInt ∧ z.toInt ≤ 3
      · simp only [if_neg (not_not_intro a), if_neg (not_not_intro b), if_neg (not_not_intro c)]
        obtain ⟨i, hi, rfl⟩ := p_rng a.1 a.2
        obtain ⟨j, hj, rfl⟩ := p_of (n := 2) b.1 (by omega)
        obtain ⟨k, hk, rfl⟩ := p_of (n := 3) c.1 (by omega)
        refine ⟨st (12 * i + 4 * j + k), ?_, ?_⟩
        · unfold f_X3_state
          rw [p_place, p_get (by omega) (by omega), p_b1, p_b1]
        · rw [p_placeM, p_ck (by omega) (by omega), nI_clamp (by omega), (hh _ (by omega)).1]
          simp
      · simp only [if_neg (not_not_intro a), if_neg (not_not_intro b), if_pos c]; exact ⟨_, rfl, rfl⟩
    · simp only [if_neg (not_not_intro a), if_pos b]; exact ⟨_, rfl, rfl⟩
  · simp only [if_pos a]; exact ⟨_, rfl, rfl⟩
/-- a handle, card by card: the class's and the check's -/
theorem q_open (N : Nat) (hN : 40 ≤ N) {co st cd ct hs : Nat → Int32} {n : Nat} (hR : RPile (nI n) co st cd ct hs 0 n) {c s : Nat} (hc : c < n) (hs1 : 1 ≤ s) (hs4 : s ≤ 4) : ∃ r o p, f_X3_open N st (nI c) (nI s) = some (r, o) ∧ f_X11_handles N hs (nI c) (nI s) = some (r, p) ∧ RPile (nI n) co o cd ct p 0 n ∧ ∀ j, 480 ≤ j → p j = hs j := by
  obtain ⟨hn, -, hcd, hco, hh⟩ := hR
  unfold f_X3_open f_X11_handles
  rw [p_nm, p_nm, show (12 : Int32) = nI 12 from rfl, pk_mul, pk_mul, Nat.mul_comm c 12]
  refine p_sim (σ := (Nat → Int32) × Int32) (τ := (Nat → Int32) × Int32)
    (W := fun m i s' => wk_loop (fun k8 : (Nat → Int32) → Int32 → Int32 → Int32 → Int32 → Option (Int32 × (Nat → Int32)) => B_X3_open_8 N k8) (fun _ _ _ _ _ => none) m s'.1 (nI c) (nI s) s'.2 (nI i))
    (V := fun m i s' => wk_loop (fun k8 : (Nat → Int32) → Int32 → Int32 → Int32 → Int32 → Option (Int32 × (Nat → Int32)) => B_X11_handles_8 N k8) (fun _ _ _ _ _ => none) m s'.1 (nI c) (nI s) s'.2 (nI i))
    (fun _ s' t' => s'.2 = t'.2 ∧ (∀ j, j < 12 * n → s'.1 j = t'.1 (480 * 0 + j) ∧ ∃ v, v < 6 ∧ s'.1 j = nI v) ∧ ∀ j, 480 ≤ j → t'.1 j = hs j)
    (fun A B => ∃ r o p, A = some (r, o) ∧ B = some (r, p) ∧ RPile (nI n) co o cd ct p 0 n ∧ ∀ j, 480 ≤ j → p j = hs j) (12 * c + 12) ?_ ?_ 12 N N (12 * c) (st, 0) (hs, 0) rfl (by omega) (by omega) ⟨rfl, hh, fun _ _ => rfl⟩
  · intro m m' i s' t' hi hI
    obtain ⟨a1, a2⟩ := s'
    obtain ⟨b1, b2⟩ := t'
    obtain ⟨h1, h2, h3⟩ := hI
    dsimp only at h1 h2 h3
    subst h1
    obtain ⟨e1, v, hv, e2⟩ := h2 i (by omega)
    rw [Nat.mul_zero, Nat.zero_add] at e1
    have hthr : (if (1 : Int32) < ((5 : Int32) - nI s) then ((5 : Int32) - nI s) else (1 : Int32)) = nI (5 - s) := by
      rcases (show s = 1 ∨ s = 2 ∨ s = 3 ∨ s = 4 by omega) with rfl | rfl | rfl | rfl <;> decide
    have hin : f_X11_in N (nI v).toInt64 (((5 : Int32) - nI s).toInt64) (4 : Int64) = some (decide (5 - s ≤ v ∧ v ≤ 4)) := by
      rw [p_inI, p_i2l, show (5 : Int32) = nI 5 from rfl, pk_sub_toInt (by omega) (by omega), nI_toInt (by omega), show (4 : Int64).toInt = 4 from rfl]
      congr 1
      exact decide_eq_decide.mpr (by omega)
    have g1 : ¬ ((nI c + (1 : Int32)) * (12 : Int32)) ≤ nI i := by
      rw [nI_1, show (12 : Int32) = nI 12 from rfl, pk_mul]
      exact nI_ge (by omega) (by omega)
    have g2 : ¬ (((12 : Int32) * nI c) + (12 : Int32)) ≤ nI i := by
      rw [show (12 : Int32) = nI 12 from rfl, pk_mul, nI_add]
      exact nI_ge (by omega) (by omega)
    by_cases hcnd : 5 - s ≤ v ∧ v ≤ 4
    · have hb : ¬ wk_bI (decide (5 - s ≤ v ∧ v ≤ 4)) = 0 := by rw [p_bI]; first | exact decide_eq_false hcnd | (rw [decide_eq_true hcnd]; decide)
      have g3 : ¬ nI v < nI (5 - s) := nI_nlt (by omega) (by omega)
      have g4 : ¬ (5 : Int32) ≤ nI v := nI_ge (b := 5) (by omega) (by omega)
      refine ⟨(upd a1 i (nI v + 1), a2 + 1), (upd b1 i (nI v + 1), a2 + 1), ?_, ?_, rfl, ?_, fun j hj => by rw [← h3 j hj]; exact pk_un (by omega)⟩
      · show B_X3_open_8 N _ a1 (nI c) (nI s) a2 (nI i) = _
        rw [B_X3_open_8]
        rw [if_neg g1, p_get (by omega) (by omega), p_b1, e2, hthr, if_neg g3, if_neg g4, p_set (by omega) (by omega), p_b1, p_nm, p_nm, nI_1 i]
      · show B_X11_handles_8 N _ b1 (nI c) (nI s) a2 (nI i) = _
        rw [B_X11_handles_8]
        rw [if_neg g2, p_ck (by omega) (by omega), nI_clamp (by omega), ← e1, e2, hin, p_b1, if_neg hb, p_ck (by omega) (by omega), p_ck (by omega) (by omega), p_nm, p_nm, nI_1 i]
      · intro j hj
        dsimp only
        rw [Nat.mul_zero, Nat.zero_add]
        by_cases hji : j = i
        · subst hji
          exact ⟨by simp only [pk_us], v + 1, by omega, by rw [pk_us, nI_1]⟩
        · rw [pk_un hji, pk_un hji]
          have := h2 j hj
          rw [Nat.mul_zero, Nat.zero_add] at this
          exact this
    · have hb : wk_bI (decide (5 - s ≤ v ∧ v ≤ 4)) = 0 := by rw [p_bI]; first | exact decide_eq_false hcnd | (rw [decide_eq_true hcnd]; decide)
      refine ⟨(a1, a2), (b1, a2), ?_, ?_, rfl, h2, h3⟩
      · show B_X3_open_8 N _ a1 (nI c) (nI s) a2 (nI i) = _
        rw [B_X3_open_8]
        rw [if_neg g1, p_get (by omega) (by omega), p_b1, e2, hthr]
        by_cases g3 : v < 5 - s
        · rw [if_pos (nI_lt g3 (by omega)), p_nm, nI_1 i]
        · rw [if_neg (nI_nlt (by omega) (by omega)), if_pos (show (5 : Int32) ≤ nI v from nI_le (a := 5) (by omega) (by omega)), p_nm, nI_1 i]
      · show B_X11_handles_8 N _ b1 (nI c) (nI s) a2 (nI i) = _
        rw [B_X11_handles_8]
        rw [if_neg g2, p_ck (by omega) (by omega), nI_clamp (by omega), ← e1, e2, hin, p_b1, if_pos hb, p_nm, nI_1 i]
  · intro m m' s' t' hI
    obtain ⟨a1, a2⟩ := s'
    obtain ⟨b1, b2⟩ := t'
    obtain ⟨h1, h2, h3⟩ := hI
    dsimp only at h1 h2 h3
    subst h1
    refine ⟨a2, a1, b1, ?_, ?_, ⟨hn, rfl, hcd, hco, h2⟩, h3⟩
    · show B_X3_open_8 N _ a1 (nI c) (nI s) a2 (nI (12 * c + 12)) = _
      rw [B_X3_open_8]
      rw [if_pos]
      rw [nI_1, show (12 : Int32) = nI 12 from rfl, pk_mul]
      exact nI_le (by omega) (by omega)
    · show B_X11_handles_8 N _ b1 (nI c) (nI s) a2 (nI (12 * c + 12)) = _
      rw [B_X11_handles_8]
      rw [if_pos]
      rw [show (12 : Int32) = nI 12 from rfl, pk_mul, nI_add]
      exact nI_le (by omega) (by omega)
theorem q_handle (N : Nat) (hN : 40 ≤ N) {sz : Int32} {co st cd ct hs : Nat → Int32} {n : Nat} (hR : RPile sz co st cd ct hs 0 n) (x y : Int32) : ∃ r o p, f_X10_handle N sz st x y = some (r, o) ∧ f_X11_handle N cd hs x y = some (r, p) ∧ RPile sz co o cd ct p 0 n ∧ ∀ j, 480 ≤ j → p j = hs j := by
  have hR0 := hR
  obtain ⟨hn, rfl, hc, -, hh⟩ := hR
  unfold f_X10_handle f_X11_handle
  simp only [p_has N n hn, p_isCard N n hn cd hc, p_inI, p_b1, p_bI, decide_eq_false_iff_not, p_toInt_lt, p_toInt_le, show (1 : Int32).toInt = 1 from rfl, show (4 : Int32).toInt = 4 from rfl, show (1 : Int64).toInt = 1 from rfl, show (4 : Int64).toInt = 4 from rfl]
  by_cases a : 0 ≤ x.toInt ∧ x.toInt < n
  · simp only [if_neg (not_not_intro a)]
    by_cases b : 1 ≤ y.toInt ∧ y.toInt ≤ 4
    · simp only [if_neg (show ¬ y.toInt < 1 by omega), if_pos b.2, if_neg (not_not_intro b)]
      obtain ⟨i, hi, rfl⟩ := p_rng a.1 a.2
      obtain ⟨s, hs4, rfl⟩ := p_of (n := 4) (by omega) b.2
      rw [nI_toInt (by omega)] at b
      obtain ⟨r, o, p, e1, e2, hR2, hF⟩ := q_open N hN hR0 hi (s := s) (by omega) hs4
      rw [e1, e2, p_b2, p_b2]
      exact ⟨r, o, p, rfl, rfl, hR2, hF⟩
    · simp only [if_pos b]
      refine ⟨-1, st, hs, ?_, rfl, hR0, fun _ _ => rfl⟩
      by_cases c : y.toInt < 1
      · rw [if_pos c]
      · rw [if_neg c, if_neg (by omega)]
  · simp only [if_pos a]
    exact ⟨_, _, _, rfl, rfl, hR0, fun _ _ => rfl⟩
