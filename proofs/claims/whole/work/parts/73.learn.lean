/-! PURE: the hours in which counting stops -/
theorem p_hsame (N n : Nat) (hn : n ≤ 40) (co hr kd rk : Nat → Int32) (c ta tb : Int32) (h : ∀ k, k < n → kd k = 3 → (ta < hr k ↔ tb < hr k)) : ∀ (m : Nat) (s : Int32) (i : Nat), i ≤ n →
    wk_loop (fun k7 : Int32 → Int32 → Int32 → Int32 → Int32 → Option Int32 => B_X1_holding_7 N (nI n) co hr kd rk k7) (fun _ _ _ _ _ => none) m (3 : Int32) c ta s (nI i) =
    wk_loop (fun k7 : Int32 → Int32 → Int32 → Int32 → Int32 → Option Int32 => B_X1_holding_7 N (nI n) co hr kd rk k7) (fun _ _ _ _ _ => none) m (3 : Int32) c tb s (nI i) := by
  intro m
  induction m with
  | zero => intro s i _; rfl
  | succ m ih =>
    intro s i hi
    show B_X1_holding_7 N (nI n) co hr kd rk _ 3 c ta s (nI i) = B_X1_holding_7 N (nI n) co hr kd rk _ 3 c tb s (nI i)
    rw [B_X1_holding_7, B_X1_holding_7]
    by_cases a : i < n
    · rw [if_neg (nI_ge a (by omega)), if_neg (nI_ge a (by omega)), p_get (by omega) (by omega), p_b1, p_b1]
      have ih' : ∀ s, _ := fun s => ih s (i + 1) (by omega)
      have e57 : ∀ s0, B_X1_holding_57 N (nI n) co hr kd rk (wk_loop (fun k7 : Int32 → Int32 → Int32 → Int32 → Int32 → Option Int32 => B_X1_holding_7 N (nI n) co hr kd rk k7) (fun _ _ _ _ _ => none) m) 3 c ta s (nI i) s0 = B_X1_holding_57 N (nI n) co hr kd rk (wk_loop (fun k7 : Int32 → Int32 → Int32 → Int32 → Int32 → Option Int32 => B_X1_holding_7 N (nI n) co hr kd rk k7) (fun _ _ _ _ _ => none) m) 3 c tb s (nI i) s0 := by
        intro s0
        simp only [B_X1_holding_57, p_nm, nI_1, ih']
      by_cases b : kd i = 3
      · rw [if_pos b, if_pos b]
        simp only [p_get (show i < 40 by omega) (show 40 ≤ 2000 by omega), p_b1, e57]
        have hab := h i a b
        by_cases d : ta < hr i
        · simp only [if_pos d, if_pos (hab.mp d)]
        · simp only [if_neg d, if_neg (fun e => d (hab.mpr e))]
      · rw [if_neg b, if_neg b, e57]
    · rw [if_pos (nI_le (by omega) (by omega)), if_pos (nI_le (by omega) (by omega))]
theorem p_vsame (N n : Nat) (hn : n ≤ 40) (co hr kd rk vl : Nat → Int32) (c ta tb : Int32) (h : ∀ k, k < n → kd k = 3 → (ta < hr k ↔ tb < hr k)) : f_X1_valueIn N (nI n) co hr kd rk vl 3 c ta = f_X1_valueIn N (nI n) co hr kd rk vl 3 c tb := by
  unfold f_X1_valueIn f_X1_holding
  rw [show (0 : Int32) = nI 0 from rfl, p_hsame N n hn co hr kd rk c ta tb h N (-4) 0 (by omega)]
theorem p_csame (N n : Nat) (hn : n ≤ 40) (co hr kd rk vl : Nat → Int32) (ta tb : Int32) (h : ∀ k, k < n → kd k = 3 → (ta < hr k ↔ tb < hr k)) : f_X1_closedIn N (nI n) co hr kd rk vl ta = f_X1_closedIn N (nI n) co hr kd rk vl tb := by
  have key : ∀ (m : Nat) (s i : Int32), wk_loop (fun k4 : Int32 → Int32 → Int32 → Option Int32 => B_X1_closedIn_4 N (nI n) co hr kd rk vl k4) (fun _ _ _ => none) m ta s i = wk_loop (fun k4 : Int32 → Int32 → Int32 → Option Int32 => B_X1_closedIn_4 N (nI n) co hr kd rk vl k4) (fun _ _ _ => none) m tb s i := by
    intro m
    induction m with
    | zero => intro s i; rfl
    | succ m ih =>
      intro s i
      show B_X1_closedIn_4 N (nI n) co hr kd rk vl _ ta s i = B_X1_closedIn_4 N (nI n) co hr kd rk vl _ tb s i
      rw [B_X1_closedIn_4, B_X1_closedIn_4, p_vsame N n hn co hr kd rk vl i ta tb h]
      simp only [p_nm, ih]
  unfold f_X1_closedIn
  exact key N 0 0
/-- the first hour behind one in which an order begins -/
theorem p_next (N : Nat) (hN : 41 ≤ N) {n : Nat} (hn : n ≤ 40) {hr kd : Nat → Int32} {H : Nat → Nat} (hH : ∀ k, k < n → hr k = nI (H k) ∧ H k < 1000) {f : Nat} (hf : f < 1000) :
    ∃ e, f_X1_nextOrder N (nI n) hr kd (nI f) = some (nI e) ∧ f < e ∧ e ≤ 1000 ∧ (∀ k, k < n → kd k = 3 → f < H k → e ≤ H k) ∧ (e < 1000 → ∃ k, k < n ∧ kd k = 3 ∧ H k = e) := by
  unfold f_X1_nextOrder
  rw [show (0 : Int32) = nI 0 from rfl, show (1000 : Int32) = nI 1000 from rfl]
  refine p_run (σ := Nat)
    (W := fun m i s => wk_loop (fun k6 : Int32 → Int32 → Int32 → Option Int32 => B_X1_nextOrder_6 N (nI n) hr kd k6) (fun _ _ _ => none) m (nI f) (nI s) (nI i))
    (fun i e => f < e ∧ e ≤ 1000 ∧ (∀ k, k < i → kd k = 3 → f < H k → e ≤ H k) ∧ (e < 1000 → ∃ k, k < i ∧ kd k = 3 ∧ H k = e))
    (fun A => ∃ e, A = some (nI e) ∧ f < e ∧ e ≤ 1000 ∧ (∀ k, k < n → kd k = 3 → f < H k → e ≤ H k) ∧ (e < 1000 → ∃ k, k < n ∧ kd k = 3 ∧ H k = e)) n ?_ ?_ n N 0 1000 (by omega) (by omega) ⟨hf, Nat.le_refl _, fun k hk => absurd hk (by omega), fun h => absurd h (by omega)⟩
  · intro m i e hi hI
    obtain ⟨h1, h2, h3, h4⟩ := hI
    have g : ¬ nI n ≤ nI i := nI_ge hi (by omega)
    have z : ∀ k6 : Int32 → Int32 → Int32 → Option Int32, B_X1_nextOrder_43 N (nI n) hr kd k6 (nI f) (nI e) (nI i) (0 : Int32) = k6 (nI f) (nI e) (nI (i + 1)) := fun k6 => by
      rw [B_X1_nextOrder_43, if_pos rfl, p_nm, nI_1]
    have up : (kd i = 3 → f < H i → e ≤ H i) → f < e ∧ e ≤ 1000 ∧ (∀ k, k < i + 1 → kd k = 3 → f < H k → e ≤ H k) ∧ (e < 1000 → ∃ k, k < i + 1 ∧ kd k = 3 ∧ H k = e) := by
      intro hu
      refine ⟨h1, h2, fun k hk => ?_, fun h => ?_⟩
      · by_cases a : k = i
        · subst a; exact hu
        · exact h3 k (by omega)
      · obtain ⟨k, hk, hk2⟩ := h4 h
        exact ⟨k, by omega, hk2⟩
    obtain ⟨q1, q2⟩ := hH i hi
    by_cases a : kd i = 3
    · by_cases b : H i ≤ f
      · refine ⟨e, ?_, up (fun _ c => absurd c (by omega))⟩
        show B_X1_nextOrder_6 N (nI n) hr kd _ (nI f) (nI e) (nI i) = _
        rw [B_X1_nextOrder_6, if_neg g, p_get (by omega) (by omega), p_b1, if_pos a, p_get (by omega) (by omega), p_b1, q1, if_pos (nI_le b (by omega)), z]
      · by_cases c : e ≤ H i
        · refine ⟨e, ?_, up (fun _ _ => c)⟩
          show B_X1_nextOrder_6 N (nI n) hr kd _ (nI f) (nI e) (nI i) = _
          rw [B_X1_nextOrder_6, if_neg g, p_get (by omega) (by omega), p_b1, if_pos a, p_get (by omega) (by omega), p_b1, q1, if_neg (nI_ge (by omega) (by omega)), B_X1_nextOrder_43, if_neg (by decide), p_get (by omega) (by omega), p_b1, q1, if_pos (nI_le c (by omega)), p_nm, nI_1]
        · refine ⟨H i, ?_, by omega, by omega, fun k hk hk3 hkf => ?_, fun _ => ⟨i, by omega, a, rfl⟩⟩
          · show B_X1_nextOrder_6 N (nI n) hr kd _ (nI f) (nI e) (nI i) = _
            rw [B_X1_nextOrder_6, if_neg g, p_get (by omega) (by omega), p_b1, if_pos a, p_get (by omega) (by omega), p_b1, q1, if_neg (nI_ge (by omega) (by omega)), B_X1_nextOrder_43, if_neg (by decide), p_get (by omega) (by omega), p_b1, q1, if_neg (nI_ge (by omega) (by omega)), p_b1, p_nm, nI_1]
          · by_cases d : k = i
            · subst d; omega
            · have := h3 k (by omega) hk3 hkf; omega
    · refine ⟨e, ?_, up (fun c => absurd c a)⟩
      show B_X1_nextOrder_6 N (nI n) hr kd _ (nI f) (nI e) (nI i) = _
      rw [B_X1_nextOrder_6, if_neg g, p_get (by omega) (by omega), p_b1, if_neg a, z]
  · intro m e hI
    refine ⟨e, ?_, hI⟩
    show B_X1_nextOrder_6 N (nI n) hr kd _ (nI f) (nI e) (nI n) = _
    rw [B_X1_nextOrder_6, if_pos (nI_le (Nat.le_refl n) (by omega))]
theorem p_cnt_m {f g : Nat → Bool} : ∀ n, (∀ k, k < n → g k = true → f k = true) → p_cnt g n ≤ p_cnt f n ∧ ((∃ k, k < n ∧ f k = true ∧ g k = false) → p_cnt g n < p_cnt f n) := by
  intro n
  induction n with
  | zero => intro _; exact ⟨Nat.le_refl 0, fun ⟨k, hk, _⟩ => absurd hk (by omega)⟩
  | succ n ih =>
    intro h
    obtain ⟨i1, i2⟩ := ih (fun k hk => h k (by omega))
    rw [p_cnt_s, p_cnt_s]
    have hn := h n (by omega)
    refine ⟨?_, ?_⟩
    · by_cases a : g n = true
      · rw [if_pos a, if_pos (hn a)]; omega
      · rw [if_neg a]; omega
    · rintro ⟨k, hk, k1, k2⟩
      by_cases b : k = n
      · subst b
        rw [if_pos k1, k2, if_neg (by decide)]; omega
      · have := i2 ⟨k, by omega, k1, k2⟩
        by_cases a : g n = true
        · rw [if_pos a, if_pos (hn a)]; omega
        · rw [if_neg a]; omega
/-- the hours of a span, all alike -/
theorem p_span (N : Nat) (hN : 1001 ≤ N) (n : Nat) (co hr kd rk vl : Nat → Int32) (k9 : (Nat → Int32) → Int32 → Int32 → Option (Nat → Int32)) (cl : Nat → Int32) (x3 : Int32) {f e : Nat} (hfe : f ≤ e) (he : e ≤ 1000) (c : Int32) :
    ∃ cl', wk_loop (fun k39 : (Nat → Int32) → Int32 → Int32 → Int32 → Int32 → Option (Nat → Int32) => B_X7_learn_39 N (nI n) co hr kd rk vl k9 k39) (fun _ _ _ _ _ => none) N cl x3 (nI e) c (nI f) = k9 cl' (nI e) (x3 + 1) ∧ (∀ h, f ≤ h → h < e → cl' h = c) ∧ (∀ h, h < f → cl' h = cl h) := by
  refine p_run (σ := Nat → Int32)
    (W := fun m i s => wk_loop (fun k39 : (Nat → Int32) → Int32 → Int32 → Int32 → Int32 → Option (Nat → Int32) => B_X7_learn_39 N (nI n) co hr kd rk vl k9 k39) (fun _ _ _ _ _ => none) m s x3 (nI e) c (nI i))
    (fun i s => f ≤ i ∧ (∀ h, f ≤ h → h < i → s h = c) ∧ ∀ h, h < f → s h = cl h)
    (fun A => ∃ cl', A = k9 cl' (nI e) (x3 + 1) ∧ (∀ h, f ≤ h → h < e → cl' h = c) ∧ (∀ h, h < f → cl' h = cl h)) e ?_ ?_ (e - f) N f cl (by omega) (by omega) ⟨Nat.le_refl f, fun h h1 h2 => absurd h2 (by omega), fun _ _ => rfl⟩
  · intro m i s hi hI
    obtain ⟨h0, h1, h2⟩ := hI
    refine ⟨upd s i c, ?_, by omega, fun h g1 g2 => ?_, fun h g => by rw [pk_un (by omega)]; exact h2 h g⟩
    · show B_X7_learn_39 N (nI n) co hr kd rk vl k9 _ s x3 (nI e) c (nI i) = _
      rw [B_X7_learn_39, if_neg (nI_ge hi (by omega)), p_set (by omega) (by omega), p_b1, p_nm, nI_1]
    · by_cases a : h = i
      · subst a; exact pk_us
      · rw [pk_un a]; exact h1 h g1 (by omega)
  · intro m s hI
    refine ⟨s, ?_, hI.2.1, hI.2.2⟩
    show B_X7_learn_39 N (nI n) co hr kd rk vl k9 _ s x3 (nI e) c (nI e) = _
    rw [B_X7_learn_39, if_pos (nI_le (Nat.le_refl e) (by omega)), p_nm]
theorem p_learn (N : Nat) (hN : 1001 ≤ N) {n : Nat} (hn : n ≤ 40) {co hr kd rk vl : Nat → Int32} {H : Nat → Nat} (hH : ∀ k, k < n → hr k = nI (H k) ∧ H k < 1000) (hC : ∀ t, ∃ c, f_X1_closedIn N (nI n) co hr kd rk vl t = some c) (cl : Nat → Int32) :
    ∃ cl', f_X7_learn N (nI n) co hr kd rk vl cl = some cl' ∧ ∀ h, h < 1000 → f_X1_closedIn N (nI n) co hr kd rk vl (nI h) = some (cl' h) := by
  have main : ∀ (d m i f : Nat) (cl : Nat → Int32), p_cnt (fun k => decide (kd k = 3 ∧ f < H k)) n ≤ d → i + d ≤ 40 → d + 2 ≤ m → f < 1000 → (∀ h, h < f → f_X1_closedIn N (nI n) co hr kd rk vl (nI h) = some (cl h)) →
      ∃ cl', wk_loop (fun k9 : (Nat → Int32) → Int32 → Int32 → Option (Nat → Int32) => B_X7_learn_9 N (nI n) co hr kd rk vl k9) (fun _ _ _ => none) m cl (nI f) (nI i) = some cl' ∧ ∀ h, h < 1000 → f_X1_closedIn N (nI n) co hr kd rk vl (nI h) = some (cl' h) := by
    intro d
    induction d with
    | zero =>
      intro m i f cl h1 h2 h3 h4 h5
      obtain ⟨m', rfl⟩ : ∃ m', m = m' + 1 + 1 := ⟨m - 2, by omega⟩
      obtain ⟨e, e1, e2, e3, e4, e5⟩ := p_next N (by omega) hn (kd := kd) hH h4
      obtain ⟨c, hc⟩ := hC (nI f)
      obtain ⟨cl', g1, g2, g3⟩ := p_span N hN n co hr kd rk vl (wk_loop (fun k9 : (Nat → Int32) → Int32 → Int32 → Option (Nat → Int32) => B_X7_learn_9 N (nI n) co hr kd rk vl k9) (fun _ _ _ => none) (m' + 1)) cl (nI i) (Nat.le_of_lt e2) e3 c
      have he : e = 1000 := by
        refine Classical.byContradiction (fun ne => ?_)
        obtain ⟨k, hk, hk3, hke⟩ := e5 (by omega)
        have := (p_cnt_m (f := fun k => decide (kd k = 3 ∧ f < H k)) (g := fun _ => false) n (fun k _ h => absurd h (by decide))).2 ⟨k, hk, decide_eq_true ⟨hk3, by omega⟩, rfl⟩
        omega
      refine ⟨cl', ?_, fun h hh => ?_⟩
      · show B_X7_learn_9 N (nI n) co hr kd rk vl _ cl (nI f) (nI i) = _
        rw [B_X7_learn_9, if_neg (show ¬ (40 : Int32) < nI i from nI_nlt (a := 40) (by omega) (by omega)), if_neg (show ¬ (1000 : Int32) ≤ nI f from nI_ge (b := 1000) h4 (by omega)), e1, p_b1, hc, p_b1, g1]
        show B_X7_learn_9 N (nI n) co hr kd rk vl _ cl' (nI e) (nI i + 1) = _
        rw [B_X7_learn_9, he]
        by_cases a : (40 : Int32) < nI i + 1
        · rw [if_pos a]
        · rw [if_neg a, if_pos (show (1000 : Int32) ≤ nI 1000 by decide)]
      · by_cases a : h < f
        · rw [g3 h a]; exact h5 h a
        · rw [g2 h (by omega) (by omega), ← hc]
          refine p_csame N n hn co hr kd rk vl _ _ (fun k hk hk3 => ?_)
          obtain ⟨q1, q2⟩ := hH k hk
          rw [q1, nI_ltI (by omega) (by omega), nI_ltI (by omega) (by omega)]
          have := e4 k hk hk3
          omega
    | succ d ih =>
      intro m i f cl h1 h2 h3 h4 h5
      obtain ⟨m', rfl⟩ : ∃ m', m = m' + 1 + 1 := ⟨m - 2, by omega⟩
      obtain ⟨e, e1, e2, e3, e4, e5⟩ := p_next N (by omega) hn (kd := kd) hH h4
      obtain ⟨c, hc⟩ := hC (nI f)
      obtain ⟨cl', g1, g2, g3⟩ := p_span N hN n co hr kd rk vl (wk_loop (fun k9 : (Nat → Int32) → Int32 → Int32 → Option (Nat → Int32) => B_X7_learn_9 N (nI n) co hr kd rk vl k9) (fun _ _ _ => none) (m' + 1)) cl (nI i) (Nat.le_of_lt e2) e3 c
      have hsp : ∀ h, h < e → f_X1_closedIn N (nI n) co hr kd rk vl (nI h) = some (cl' h) := by
        intro h hh
        by_cases a : h < f
        · rw [g3 h a]; exact h5 h a
        · rw [g2 h (by omega) (by omega), ← hc]
          refine p_csame N n hn co hr kd rk vl _ _ (fun k hk hk3 => ?_)
          obtain ⟨q1, q2⟩ := hH k hk
          rw [q1, nI_ltI (by omega) (by omega), nI_ltI (by omega) (by omega)]
          have := e4 k hk hk3
          omega
      have e0 : wk_loop (fun k9 : (Nat → Int32) → Int32 → Int32 → Option (Nat → Int32) => B_X7_learn_9 N (nI n) co hr kd rk vl k9) (fun _ _ _ => none) (m' + 1 + 1) cl (nI f) (nI i) = wk_loop (fun k9 : (Nat → Int32) → Int32 → Int32 → Option (Nat → Int32) => B_X7_learn_9 N (nI n) co hr kd rk vl k9) (fun _ _ _ => none) (m' + 1) cl' (nI e) (nI (i + 1)) := by
        show B_X7_learn_9 N (nI n) co hr kd rk vl _ cl (nI f) (nI i) = _
        rw [B_X7_learn_9, if_neg (show ¬ (40 : Int32) < nI i from nI_nlt (a := 40) (by omega) (by omega)), if_neg (show ¬ (1000 : Int32) ≤ nI f from nI_ge (b := 1000) h4 (by omega)), e1, p_b1, hc, p_b1, g1, nI_1]
      rw [e0]
      by_cases he : e = 1000
      · subst he
        refine ⟨cl', ?_, hsp⟩
        show B_X7_learn_9 N (nI n) co hr kd rk vl _ cl' (nI 1000) (nI (i + 1)) = _
        rw [B_X7_learn_9]
        by_cases a : (40 : Int32) < nI (i + 1)
        · rw [if_pos a]
        · rw [if_neg a, if_pos (show (1000 : Int32) ≤ nI 1000 by decide)]
      · refine ih (m' + 1) (i + 1) e cl' ?_ (by omega) (by omega) (by omega) hsp
        obtain ⟨k, hk, hk3, hke⟩ := e5 (by omega)
        have := (p_cnt_m (f := fun k => decide (kd k = 3 ∧ f < H k)) (g := fun k => decide (kd k = 3 ∧ e < H k)) n (fun k _ h => by have := of_decide_eq_true h; exact decide_eq_true ⟨this.1, by omega⟩)).2 ⟨k, hk, decide_eq_true ⟨hk3, by omega⟩, decide_eq_false (fun h => by omega)⟩
        omega
  unfold f_X7_learn
  rw [show (0 : Int32) = nI 0 from rfl]
  exact main n N 0 0 cl (p_cnt_le _ n) (by omega) (by omega) (by omega) (fun h hh => absurd hh (by omega))
