/-! PURE: could, hands, soonest -/
/-- the check adds an hour -/
theorem p_adds (N : Nat) (hN : 1001 ≤ N) {A : Nat → Nat} {cl : Nat → Int32} {it : Int32} {uh ul ur uv uw : Nat → Int32} (hA : ROpen N A cl it uh ul ur uv uw) {g n : Nat} (hn : g + n < 1000) {v : Nat → Int32} (hv : ∀ s, s < 32 → v s = nI (p_hrs A g n s)) :
    ∃ o, f_X11_adds N it uh ul ur uv uw v (nI (g + n)) = some o ∧ ∀ s, s < 32 → o s = nI (p_hrs A g (n + 1) s) := by
  obtain ⟨a1, -, a3⟩ := hA (g + n) hn
  unfold f_X11_adds
  rw [a3, p_b1]
  obtain ⟨e, he⟩ : ∃ e : Nat, e = 32 := ⟨_, rfl⟩
  obtain ⟨z, hz⟩ : ∃ z : Nat, z = 0 := ⟨_, rfl⟩
  rw [show (0 : Int32) = nI z by rw [hz]; rfl]
  refine p_run (σ := Nat → Int32)
    (W := fun m i s => wk_loop (fun k8 : (Nat → Int32) → Int32 → Int32 → Option (Nat → Int32) => B_X11_adds_8 N it uh ul ur uv uw k8) (fun _ _ _ => none) m s (nI (A (g + n))) (nI i))
    (fun i s => (∀ k, k < 32 → k < i → s k = nI (p_hrs A g (n + 1) k)) ∧ ∀ k, k < 32 → i ≤ k → s k = nI (p_hrs A g n k))
    (fun B => ∃ o, B = some o ∧ ∀ s, s < 32 → o s = nI (p_hrs A g (n + 1) s)) e ?_ ?_ e N z v (by omega) (by omega) ⟨fun k _ h => absurd h (by omega), fun k hk _ => hv k hk⟩
  · intro m i s hi hI
    obtain ⟨h1, h2⟩ := hI
    have g1 : ¬ (32 : Int32) ≤ nI i := nI_ge (b := 32) (by omega) (by omega)
    have hs := h2 i (by omega) (Nat.le_refl i)
    have hps := p_hrs_s A g n i
    have el := p_and5l i (by omega) _ a1
    have step : ∀ x : Nat, nI (p_hrs A g n i) + nI x = nI (p_hrs A g (n + 1) i) → B_X11_adds_32 N it uh ul ur uv uw (wk_loop (fun k8 : (Nat → Int32) → Int32 → Int32 → Option (Nat → Int32) => B_X11_adds_8 N it uh ul ur uv uw k8) (fun _ _ _ => none) m) s (nI (A (g + n))) (nI i) (nI i) (nI (p_hrs A g n i)) (nI x) = wk_loop (fun k8 : (Nat → Int32) → Int32 → Int32 → Option (Nat → Int32) => B_X11_adds_8 N it uh ul ur uv uw k8) (fun _ _ _ => none) m (upd s i (nI (p_hrs A g (n + 1) i))) (nI (A (g + n))) (nI (i + 1)) := by
      intro x hx
      rw [B_X11_adds_32, p_ck (by omega) (by omega), nI_clamp (by omega), hx, p_nm, nI_1]
    refine ⟨upd s i (nI (p_hrs A g (n + 1) i)), ?_, fun k hk hki => ?_, fun k hk hki => by rw [pk_un (by omega)]; exact h2 k hk (by omega)⟩
    · show B_X11_adds_8 N it uh ul ur uv uw _ s (nI (A (g + n))) (nI i) = _
      rw [B_X11_adds_8, if_neg g1, p_ck (by omega) (by omega), nI_clamp (by omega), hs, p_and5 i (by omega) _ a1]
      by_cases a : A (g + n) &&& i ≠ 0
      · rw [if_pos a] at hps
        rw [if_neg (nI_ne0 (by rw [Nat.and_comm]; omega) (by omega))]
        exact step 1 (by rw [nI_add, hps])
      · have a0 : i &&& A (g + n) = 0 := by rw [Nat.and_comm]; exact Classical.byContradiction a
        rw [if_neg a] at hps
        rw [if_pos (show nI (i &&& A (g + n)) = 0 by rw [a0]; rfl)]
        exact step 0 (by rw [nI_add, hps])
    · by_cases a : k = i
      · subst a; exact pk_us
      · rw [pk_un a]; exact h1 k hk (by omega)
  · intro m s hI
    refine ⟨s, ?_, fun k hk => hI.1 k hk (by omega)⟩
    show B_X11_adds_8 N it uh ul ur uv uw _ s (nI (A (g + n))) (nI e) = _
    rw [B_X11_adds_8, if_pos (show (32 : Int32) ≤ nI e by rw [he]; decide)]
theorem p_opens (N : Nat) (hN : 1001 ≤ N) {A : Nat → Nat} {cl : Nat → Int32} {it : Int32} {uh ul ur uv uw : Nat → Int32} (hA : ROpen N A cl it uh ul ur uv uw) (v : Nat → Int32) {g t : Nat} (hg : g ≤ t) (ht : t ≤ 1000) :
    ∃ o, f_X11_opens N it uh ul ur uv uw v (nI g) (nI t) = some o ∧ ∀ s, s < 32 → o s = nI (p_hrs A g (t - g) s) := by
  unfold f_X11_opens
  obtain ⟨e, he⟩ : ∃ e : Nat, e = 32 := ⟨_, rfl⟩
  obtain ⟨z, hz⟩ : ∃ z : Nat, z = 0 := ⟨_, rfl⟩
  rw [show (0 : Int32) = nI z by rw [hz]; rfl]
  refine p_run (σ := Nat → Int32)
    (W := fun m i s => wk_loop (fun k2 : (Nat → Int32) → Int32 → Int32 → Int32 → Option (Nat → Int32) => B_X11_opens_2 N it uh ul ur uv uw k2) (fun _ _ _ _ => none) m s (nI g) (nI t) (nI i))
    (fun i s => ∀ k, k < 32 → k < i → s k = nI 0)
    (fun B => ∃ o, B = some o ∧ ∀ s, s < 32 → o s = nI (p_hrs A g (t - g) s)) e ?_ ?_ e N z v (by omega) (by omega) (fun k _ h => absurd h (by omega))
  · intro m i s hi hI
    have g1 : ¬ (32 : Int32) ≤ nI i := nI_ge (b := 32) (by omega) (by omega)
    refine ⟨upd s i 0, ?_, fun k hk hki => ?_⟩
    · show B_X11_opens_2 N it uh ul ur uv uw _ s (nI g) (nI t) (nI i) = _
      rw [B_X11_opens_2, if_neg g1, p_ck (by omega) (by omega), nI_clamp (by omega), p_nm, nI_1]
    · by_cases a : k = i
      · subst a; exact pk_us
      · rw [pk_un a]; exact hI k hk (by omega)
  · intro m s hI
    show ∃ o, B_X11_opens_2 N it uh ul ur uv uw _ s (nI g) (nI t) (nI e) = some o ∧ _
    rw [B_X11_opens_2, if_pos (show (32 : Int32) ≤ nI e by rw [he]; decide)]
    refine p_run (σ := Nat → Int32)
      (W := fun m i s => wk_loop (fun k23 : (Nat → Int32) → Int32 → Int32 → Option (Nat → Int32) => B_X11_opens_23 N it uh ul ur uv uw k23) (fun _ _ _ => none) m s (nI t) (nI i))
      (fun i s => g ≤ i ∧ ∀ k, k < 32 → s k = nI (p_hrs A g (i - g) k))
      (fun B => ∃ o, B = some o ∧ ∀ s, s < 32 → o s = nI (p_hrs A g (t - g) s)) t ?_ ?_ (t - g) N g s (by omega) (by omega) ⟨Nat.le_refl g, fun k hk => by rw [Nat.sub_self, hI k hk (by omega)]; rfl⟩
    · intro m i s hi hI2
      obtain ⟨hgi, hs⟩ := hI2
      obtain ⟨o, e1, h1⟩ := p_adds N hN hA (g := g) (n := i - g) (by omega) hs
      rw [show g + (i - g) = i by omega] at e1
      refine ⟨o, ?_, by omega, fun k hk => by rw [show i + 1 - g = i - g + 1 by omega]; exact h1 k hk⟩
      show B_X11_opens_23 N it uh ul ur uv uw _ s (nI t) (nI i) = _
      rw [B_X11_opens_23, if_neg (nI_ge hi (by omega)), e1, p_b1, p_nm, nI_1]
    · intro m s hI2
      refine ⟨s, ?_, hI2.2⟩
      show B_X11_opens_23 N it uh ul ur uv uw _ s (nI t) (nI t) = _
      rw [B_X11_opens_23, if_pos (nI_le (Nat.le_refl t) (by omega))]
/-- the check: can it be done -/
theorem p_does (N : Nat) (hN : 1001 ≤ N) {W A : Nat → Nat} {g n k : Nat} (hk : k ≤ 20) (hn : n ≤ 1000) {hp sp uh us : Nat → Int32} (hW : RWork N W hp sp uh us) {v : Nat → Int32} (hv : ∀ s, s < 32 → v s = nI (p_hrs A g n s)) :
    f_X11_does N uh v us (nI k) = some (decide (p_D W A g n k)) := by
  have hW6 : ∀ c, c < 5 → W c ≤ 600 := fun c hc => (hW c hc).1
  unfold f_X11_does
  obtain ⟨e, he⟩ : ∃ e : Nat, e = 32 := ⟨_, rfl⟩
  obtain ⟨z, hz⟩ : ∃ z : Nat, z = 0 := ⟨_, rfl⟩
  rw [show (0 : Int32) = nI z by rw [hz]; rfl, show (1 : Int32) = wk_bI true from rfl]
  refine p_run (σ := Bool)
    (W := fun m i s => wk_loop (fun k4 : Int32 → Int32 → Int32 → Option Bool => B_X11_does_4 N uh v us k4) (fun _ _ _ => none) m (nI k) (wk_bI s) (nI i))
    (fun i s => s = decide (∀ s, s < i → p_ws W s 5 ≤ k * p_hrs A g n s))
    (fun B => B = some (decide (p_D W A g n k))) e ?_ ?_ e N z true (by omega) (by omega) ?_
  · intro m i s hi hI
    have g1 : ¬ (32 : Int32) ≤ nI i := nI_ge (b := 32) (by omega) (by omega)
    have hle := p_ws_le hW6 i 5 (by omega)
    have hhl := p_hrs_le A g n i
    have hmul : k * p_hrs A g n i ≤ 20 * 1000 := Nat.mul_le_mul hk (by omega)
    obtain ⟨e5, he5⟩ : ∃ e : Nat, e = 5 := ⟨_, rfl⟩
    refine ⟨s && decide (p_ws W i 5 ≤ k * p_hrs A g n i), ?_, ?_⟩
    · show B_X11_does_4 N uh v us _ (nI k) (wk_bI s) (nI i) = _
      rw [B_X11_does_4, if_neg g1, show (0 : Int32) = nI z by rw [hz]; rfl]
      refine p_run (σ := Nat)
        (W := fun m' c s' => wk_loop (fun k16 : Int32 → Int32 → Int32 → Int32 → Int32 → Option Bool => B_X11_does_16 N uh v us (wk_loop (fun k4 : Int32 → Int32 → Int32 → Option Bool => B_X11_does_4 N uh v us k4) (fun _ _ _ => none) m) k16) (fun _ _ _ _ _ => none) m' (nI k) (wk_bI s) (nI i) (nI s') (nI c))
        (fun c s' => s' = p_ws W i c)
        (fun B => B = wk_loop (fun k4 : Int32 → Int32 → Int32 → Option Bool => B_X11_does_4 N uh v us k4) (fun _ _ _ => none) m (nI k) (wk_bI (s && decide (p_ws W i 5 ≤ k * p_hrs A g n i))) (nI (i + 1))) e5 ?_ ?_ e5 N z z (by omega) (by omega) (by subst hz; rfl)
      · intro m' c s' hc hI2
        have g2 : ¬ (5 : Int32) ≤ nI c := nI_ge (b := 5) (by omega) (by omega)
        cases hb : i.testBit c with
        | true =>
          refine ⟨s' + W c, ?_, by rw [p_ws_s, hb, if_pos rfl, hI2]⟩
          show B_X11_does_16 N uh v us _ _ (nI k) (wk_bI s) (nI i) (nI s') (nI c) = _
          rw [B_X11_does_16, if_neg g2, p_has11 N (by omega) (by omega), p_b1, hb, if_neg (show ¬ wk_bI true = 0 by decide), (hW c (by omega)).2.2, p_b1, p_nm, p_nm, nI_1, nI_add]
        | false =>
          refine ⟨s', ?_, by rw [p_ws_s, hb, if_neg (by decide), hI2]; rfl⟩
          show B_X11_does_16 N uh v us _ _ (nI k) (wk_bI s) (nI i) (nI s') (nI c) = _
          rw [B_X11_does_16, if_neg g2, p_has11 N (by omega) (by omega), p_b1, hb, if_pos (show wk_bI false = 0 from rfl), p_nm, p_nm, nI_1, Int32.add_zero]
      · intro m' s' hI2
        rw [he5] at hI2
        show B_X11_does_16 N uh v us _ _ (nI k) (wk_bI s) (nI i) (nI s') (nI e5) = _
        rw [B_X11_does_16, if_pos (show (5 : Int32) ≤ nI e5 by rw [he5]; decide), hI2]
        cases s with
        | false => rw [if_pos (show wk_bI false = 0 from rfl), p_nm, nI_1]; rfl
        | true =>
          rw [if_neg (show ¬ wk_bI true = 0 by decide), p_ck (by omega) (by omega), nI_clamp (by omega), hv i (by omega), pk_mul, Bool.true_and]
          by_cases a : k * p_hrs A g n i < p_ws W i 5
          · rw [if_pos (nI_lt a (by omega)), p_nm, nI_1, decide_eq_false (by omega)]; rfl
          · rw [if_neg (nI_nlt (by omega) (by omega)), p_nm, nI_1, decide_eq_true (by omega)]; rfl
    · cases s with
      | false =>
        have hn' : ¬ ∀ s, s < i → p_ws W s 5 ≤ k * p_hrs A g n s := by simpa using hI
        rw [Bool.false_and, decide_eq_false (fun h => hn' (fun s hs => h s (by omega)))]
      | true =>
        have hn' : ∀ s, s < i → p_ws W s 5 ≤ k * p_hrs A g n s := by simpa using hI
        rw [Bool.true_and]
        refine decide_eq_decide.mpr ⟨fun a s hs => ?_, fun a => a i (by omega)⟩
        by_cases b : s = i
        · subst b; exact a
        · exact hn' s (by omega)
  · intro m s hI
    rw [he] at hI
    show B_X11_does_4 N uh v us _ (nI k) (wk_bI s) (nI e) = _
    rw [B_X11_does_4, if_pos (show (32 : Int32) ≤ nI e by rw [he]; decide)]
    have : decide (p_D W A g n k) = s := by rw [hI]
    rw [this]
    cases s <;> rfl
  · subst hz
    exact (decide_eq_true (fun s hs => absurd hs (by omega))).symm
theorem p_isSpan10 (N : Nat) (x y : Int32) : f_X10_isSpan N x y = some (decide ((0 ≤ x.toInt ∧ x.toInt ≤ 999) ∧ x.toInt ≤ y.toInt ∧ y.toInt ≤ 1000)) := by
  unfold f_X10_isSpan
  rw [p_isHour, p_b1]
  by_cases a : 0 ≤ x.toInt ∧ x.toInt ≤ 999
  · rw [decide_eq_true a, if_neg (show ¬ wk_bI true = 0 by decide)]
    by_cases b : y.toInt < x.toInt
    · rw [if_pos (by rw [p_toInt_lt]; exact b), decide_eq_false (by omega)]
    · rw [if_neg (by rw [p_toInt_lt]; exact b)]
      by_cases c : 1000 < y.toInt
      · rw [if_pos (by rw [p_toInt_lt]; exact c), decide_eq_false (by omega)]
      · rw [if_neg (by rw [p_toInt_lt]; exact c), decide_eq_true (by omega)]
  · rw [decide_eq_false a, if_pos (show wk_bI false = 0 from rfl), decide_eq_false (fun c => a c.1)]
theorem p_isSpan11 (N : Nat) (x y : Int32) : f_X11_isSpan N x y = some (decide ((0 ≤ x.toInt ∧ x.toInt ≤ 999) ∧ x.toInt ≤ y.toInt ∧ y.toInt ≤ 1000)) := by
  unfold f_X11_isSpan
  rw [p_mhour, p_b1]
  by_cases a : 0 ≤ x.toInt ∧ x.toInt ≤ 999
  · rw [decide_eq_true a, if_neg (show ¬ wk_bI true = 0 by decide), p_in, p_b1, p_i2l, p_i2l, show (1000 : Int64).toInt = 1000 from rfl]
    by_cases b : x.toInt ≤ y.toInt ∧ y.toInt ≤ 1000
    · rw [decide_eq_true b, if_neg (show ¬ wk_bI true = 0 by decide), decide_eq_true ⟨a, b⟩]
    · rw [decide_eq_false b, if_pos (show wk_bI false = 0 from rfl), decide_eq_false (fun c => b c.2)]
  · rw [decide_eq_false a, if_pos (show wk_bI false = 0 from rfl), decide_eq_false (fun c => a c.1)]
theorem p_isHands (N : Nat) (x : Int32) : f_X10_isHands N x = some (decide (1 ≤ x.toInt ∧ x.toInt ≤ 20)) := by
  unfold f_X10_isHands
  by_cases a : x.toInt < 1
  · rw [if_pos (by rw [p_toInt_lt]; exact a), decide_eq_false (by omega)]
  · rw [if_neg (by rw [p_toInt_lt]; exact a)]
    by_cases b : 20 < x.toInt
    · rw [if_pos (by rw [p_toInt_lt]; exact b), decide_eq_false (by omega)]
    · rw [if_neg (by rw [p_toInt_lt]; exact b), decide_eq_true (by omega)]
/-- a span's numbers -/
theorem p_spanOf {x y : Int32} (h : (0 ≤ x.toInt ∧ x.toInt ≤ 999) ∧ x.toInt ≤ y.toInt ∧ y.toInt ≤ 1000) : ∃ g t : Nat, g ≤ 999 ∧ g ≤ t ∧ t ≤ 1000 ∧ x = nI g ∧ y = nI t := by
  obtain ⟨g, hg, rfl⟩ := p_of (x := x) (n := 999) h.1.1 h.1.2
  have hg2 : (nI g).toInt = g := nI_toInt (by omega)
  obtain ⟨t, ht, rfl⟩ := p_of (x := y) (n := 1000) (by omega) h.2.2
  have ht2 : (nI t).toInt = t := nI_toInt (by omega)
  exact ⟨g, t, hg, by omega, ht, rfl, rfl⟩
theorem q_could (N : Nat) (hN : 1001 ≤ N) {A W : Nat → Nat} {cl : Nat → Int32} {it : Int32} {uh ul ur uv uw hp sp uhp us : Nat → Int32} (hA : ROpen N A cl it uh ul ur uv uw) (hW : RWork N W hp sp uhp us) (ho v : Nat → Int32) (x y z : Int32) :
    ∃ r o o', f_X10_could N cl hp sp ho x y z = some (r, o) ∧ f_X11_could N it uhp uh ul ur us uv uw v x y z = some (r, o') := by
  have fd : ¬ wk_bI true = 0 := by decide
  have fe : wk_bI false = 0 := rfl
  unfold f_X10_could f_X11_could
  rw [p_isSpan10, p_isSpan11, p_b1, p_b1]
  by_cases a : (0 ≤ x.toInt ∧ x.toInt ≤ 999) ∧ x.toInt ≤ y.toInt ∧ y.toInt ≤ 1000
  · rw [decide_eq_true a, if_neg fd, if_neg fd, p_isHands, p_b1, p_inI, p_b1, show (1 : Int64).toInt = 1 from rfl, show (20 : Int64).toInt = 20 from rfl]
    by_cases b : 1 ≤ z.toInt ∧ z.toInt ≤ 20
    · rw [decide_eq_true b, if_neg fd, if_neg fd]
      obtain ⟨g, t, hg, hgt, ht, rfl, rfl⟩ := p_spanOf a
      obtain ⟨k, hk, rfl⟩ := p_of (x := z) (n := 20) (by omega) b.2
      have hk2 : (nI k).toInt = k := nI_toInt (by omega)
      obtain ⟨M, o, e1, h1, h2, h3⟩ := p_need N hN (fun h hh => ⟨(hA h hh).1, (hA h hh).2.1⟩) ho hgt ht hW
      obtain ⟨o', e2, h4⟩ := p_opens N hN hA v hgt ht
      have e3 := p_does N hN (W := W) (A := A) (g := g) (n := t - g) hk (by omega) hW h4
      have h5 := h3 k (by omega) hk
      rw [e1, p_b2, e2, p_b1, e3, p_b1]
      by_cases c : M ≤ k
      · rw [if_neg (nI_nlt c (by omega)), decide_eq_true (h5.mp c), if_neg fd]; exact ⟨_, _, _, rfl, rfl⟩
      · rw [if_pos (nI_lt (by omega) (by omega)), decide_eq_false (fun d => c (h5.mpr d)), if_pos fe]; exact ⟨_, _, _, rfl, rfl⟩
    · rw [decide_eq_false b, if_pos fe, if_pos fe]; exact ⟨_, _, _, rfl, rfl⟩
  · rw [decide_eq_false a, if_pos fe, if_pos fe]; exact ⟨_, _, _, rfl, rfl⟩
theorem q_hands (N : Nat) (hN : 1001 ≤ N) {A W : Nat → Nat} {cl : Nat → Int32} {it : Int32} {uh ul ur uv uw hp sp uhp us : Nat → Int32} (hA : ROpen N A cl it uh ul ur uv uw) (hW : RWork N W hp sp uhp us) (ho v : Nat → Int32) (x y : Int32) :
    ∃ r o o', f_X10_hands N cl hp sp ho x y = some (r, o) ∧ f_X11_hands N it uhp uh ul ur us uv uw v x y = some (r, o') := by
  have fd : ¬ wk_bI true = 0 := by decide
  have fe : wk_bI false = 0 := rfl
  unfold f_X10_hands f_X11_hands
  rw [p_isSpan10, p_isSpan11, p_b1, p_b1]
  by_cases a : (0 ≤ x.toInt ∧ x.toInt ≤ 999) ∧ x.toInt ≤ y.toInt ∧ y.toInt ≤ 1000
  · rw [decide_eq_true a, if_neg fd, if_neg fd]
    obtain ⟨g, t, hg, hgt, ht, rfl, rfl⟩ := p_spanOf a
    obtain ⟨M, o, e1, h1, h2, h3⟩ := p_need N hN (fun h hh => ⟨(hA h hh).1, (hA h hh).2.1⟩) ho hgt ht hW
    obtain ⟨o', e2, h4⟩ := p_opens N hN hA v hgt ht
    rw [e1, p_b2, e2, p_b1]
    obtain ⟨z, hz⟩ : ∃ z : Nat, z = 1 := ⟨_, rfl⟩
    rw [show (1 : Int32) = nI z by rw [hz]; rfl]
    refine p_runx (σ := Unit)
      (W := fun m i _ => wk_loop (fun k18 : (Nat → Int32) → Int32 → Option (Int32 × (Nat → Int32)) => B_X11_hands_18 N it uhp uh ul ur us uv uw k18) (fun _ _ => none) m o' (nI i))
      (fun i _ => 1 ≤ i ∧ ∀ k, 1 ≤ k → k < i → ¬ p_D W A g (t - g) k)
      (fun B => ∃ r q q', (if nI M ≤ (20 : Int32) then some (nI M, o) else some (-4, o)) = some (r, q) ∧ B = some (r, q')) 21 ?_ ?_ (21 - z) N z () (by omega) (by omega) ⟨by omega, fun k hk1 hk2 => absurd hk2 (by omega)⟩
    · intro m i s hi hI
      obtain ⟨i1, i2⟩ := hI
      have e3 := p_does N hN (W := W) (A := A) (g := g) (n := t - g) (k := i) (by omega) (by omega) hW h4
      have h5 := h3 i i1 (by omega)
      by_cases c : p_D W A g (t - g) i
      · left
        have hM : M = i := by
          have q1 := h5.mpr c
          refine Classical.byContradiction (fun q => ?_)
          exact i2 M h1 (by omega) ((h3 M h1 (by omega)).mp (Nat.le_refl M))
        refine ⟨nI i, o, o', ?_, ?_⟩
        · rw [hM, if_pos (show nI i ≤ (20 : Int32) from nI_le (b := 20) (by omega) (by omega))]
        · show B_X11_hands_18 N it uhp uh ul ur us uv uw _ o' (nI i) = _
          rw [B_X11_hands_18, if_neg (show ¬ (20 : Int32) < nI i from nI_nlt (a := 20) (by omega) (by omega)), e3, p_b1, decide_eq_true c, if_neg fd]
      · right
        refine ⟨(), ?_, by omega, fun k hk1 hk2 => ?_⟩
        · show B_X11_hands_18 N it uhp uh ul ur us uv uw _ o' (nI i) = _
          rw [B_X11_hands_18, if_neg (show ¬ (20 : Int32) < nI i from nI_nlt (a := 20) (by omega) (by omega)), e3, p_b1, decide_eq_false c, if_pos fe, p_nm, nI_1]
        · by_cases d : k = i
          · subst d; exact c
          · exact i2 k hk1 (by omega)
    · intro m s hI
      have hM : ¬ M ≤ 20 := fun q => hI.2 M h1 (by omega) ((h3 M h1 q).mp (Nat.le_refl M))
      refine ⟨-4, o, o', ?_, ?_⟩
      · rw [if_neg (show ¬ nI M ≤ (20 : Int32) from nI_ge (a := 20) (by omega) (by omega))]
      · show B_X11_hands_18 N it uhp uh ul ur us uv uw _ o' (nI 21) = _
        rw [B_X11_hands_18, if_pos (by decide)]
  · rw [decide_eq_false a, if_pos fe, if_pos fe]; exact ⟨_, _, _, rfl, rfl⟩
theorem p_D_mono {W A : Nat → Nat} {g n k : Nat} (h : p_D W A g n k) : p_D W A g (n + 1) k := by
  intro s hs
  refine Nat.le_trans (h s hs) (Nat.mul_le_mul_left k ?_)
  rw [p_hrs_s]
  omega
theorem p_D_mono2 {W A : Nat → Nat} {g k : Nat} {n : Nat} : ∀ d, p_D W A g n k → p_D W A g (n + d) k
  | 0, h => h
  | d + 1, h => p_D_mono (p_D_mono2 d h)
/-- by halves -/
theorem p_early (N : Nat) (hN : 1001 ≤ N) {A W : Nat → Nat} {cl : Nat → Int32} (hA : ∀ h, h < 1000 → A h < 32 ∧ cl h = nI (31 - A h)) {hp sp uhp us : Nat → Int32} (hW : RWork N W hp sp uhp us) {g k : Nat} (hg : g ≤ 999) (hk1 : 1 ≤ k) (hk : k ≤ 20) : ∀ (d m i a b : Nat) (ho : Nat → Int32), b - a ≤ d → d + i ≤ 1000 → d < m → g ≤ a → a ≤ b → b ≤ 1000 → p_D W A g (b - g) k → (∀ t, g ≤ t → t < a → ¬ p_D W A g (t - g) k) →
    ∃ e o, wk_loop (fun k25 : (Nat → Int32) → Int32 → Int32 → Int32 → Int32 → Int32 → Option (Int32 × (Nat → Int32)) => B_X7_earliestEnd_25 N cl hp sp k25) (fun _ _ _ _ _ _ => none) m ho (nI g) (nI k) (nI a) (nI b) (nI i) = some (nI e, o) ∧ g ≤ e ∧ e ≤ 1000 ∧ p_D W A g (e - g) k ∧ ∀ t, g ≤ t → t < e → ¬ p_D W A g (t - g) k := by
  intro d
  induction d with
  | zero =>
    intro m i a b ho h1 h2 h3 h4 h5 h6 h7 h8
    obtain ⟨m', rfl⟩ : ∃ m', m = m' + 1 := ⟨m - 1, by omega⟩
    have e : a = b := by omega
    subst e
    refine ⟨a, ho, ?_, h4, h6, h7, h8⟩
    show B_X7_earliestEnd_25 N cl hp sp _ ho (nI g) (nI k) (nI a) (nI a) (nI i) = _
    rw [B_X7_earliestEnd_25]
    by_cases c : (1000 : Int32) ≤ nI i
    · rw [if_pos c]
    · rw [if_neg c, if_pos (nI_le (Nat.le_refl a) (by omega))]
  | succ d ih =>
    intro m i a b ho h1 h2 h3 h4 h5 h6 h7 h8
    obtain ⟨m', rfl⟩ : ∃ m', m = m' + 1 := ⟨m - 1, by omega⟩
    by_cases c : a = b
    · subst c
      refine ⟨a, ho, ?_, h4, h6, h7, h8⟩
      show B_X7_earliestEnd_25 N cl hp sp _ ho (nI g) (nI k) (nI a) (nI a) (nI i) = _
      rw [B_X7_earliestEnd_25, if_neg (show ¬ (1000 : Int32) ≤ nI i from nI_ge (b := 1000) (by omega) (by omega)), if_pos (nI_le (Nat.le_refl a) (by omega))]
    · obtain ⟨mid, hmid⟩ : ∃ q, q = (a + b) / 2 := ⟨_, rfl⟩
      have hm1 : a ≤ mid := by omega
      have hm2 : mid < b := by omega
      obtain ⟨M, o, e1, q1, q2, q3⟩ := p_need N hN hA ho (g := g) (t := mid) (by omega) (by omega) hW
      have h5' := q3 k hk1 hk
      have eq : wk_loop (fun k25 : (Nat → Int32) → Int32 → Int32 → Int32 → Int32 → Int32 → Option (Int32 × (Nat → Int32)) => B_X7_earliestEnd_25 N cl hp sp k25) (fun _ _ _ _ _ _ => none) (m' + 1) ho (nI g) (nI k) (nI a) (nI b) (nI i) = (if nI M ≤ nI k then wk_loop (fun k25 : (Nat → Int32) → Int32 → Int32 → Int32 → Int32 → Int32 → Option (Int32 × (Nat → Int32)) => B_X7_earliestEnd_25 N cl hp sp k25) (fun _ _ _ _ _ _ => none) m' o (nI g) (nI k) (nI a) (nI mid) (nI (i + 1)) else wk_loop (fun k25 : (Nat → Int32) → Int32 → Int32 → Int32 → Int32 → Int32 → Option (Int32 × (Nat → Int32)) => B_X7_earliestEnd_25 N cl hp sp k25) (fun _ _ _ _ _ _ => none) m' o (nI g) (nI k) (nI (mid + 1)) (nI b) (nI (i + 1))) := by
        show B_X7_earliestEnd_25 N cl hp sp _ ho (nI g) (nI k) (nI a) (nI b) (nI i) = _
        rw [B_X7_earliestEnd_25, if_neg (show ¬ (1000 : Int32) ≤ nI i from nI_ge (b := 1000) (by omega) (by omega)), if_neg (nI_ge (by omega) (by omega)), show (2 : Int32) = nI 2 from rfl, p_dvn (by omega) (by omega), nI_add, pk_div (by omega) (by omega) (by omega), ← hmid, p_nm, e1, p_b2]
        simp only [p_nm, nI_1]
      rw [eq]
      by_cases f : M ≤ k
      · rw [if_pos (nI_le f (by omega))]
        exact ih m' (i + 1) a mid o (by omega) (by omega) (by omega) h4 (by omega) (by omega) (h5'.mp f) h8
      · rw [if_neg (nI_ge (by omega) (by omega))]
        refine ih m' (i + 1) (mid + 1) b o (by omega) (by omega) (by omega) (by omega) (by omega) h6 h7 (fun t ht1 ht2 hD => ?_)
        have := p_D_mono2 (mid - t) hD
        rw [show t - g + (mid - t) = mid - g by omega] at this
        exact f (h5'.mpr this)
theorem q_soonest (N : Nat) (hN : 1002 ≤ N) {A W : Nat → Nat} {cl : Nat → Int32} {it : Int32} {uh ul ur uv uw hp sp uhp us : Nat → Int32} (hA : ROpen N A cl it uh ul ur uv uw) (hW : RWork N W hp sp uhp us) (ho v : Nat → Int32) (x z : Int32) :
    ∃ r o o', f_X10_soonest N cl hp sp ho x z = some (r, o) ∧ f_X11_soonest N it uhp uh ul ur us uv uw v x z = some (r, o') := by
  have fd : ¬ wk_bI true = 0 := by decide
  have fe : wk_bI false = 0 := rfl
  have hA' : ∀ h, h < 1000 → A h < 32 ∧ cl h = nI (31 - A h) := fun h hh => ⟨(hA h hh).1, (hA h hh).2.1⟩
  unfold f_X10_soonest f_X11_soonest
  rw [p_isHour, p_mhour, p_b1, p_b1]
  by_cases a : 0 ≤ x.toInt ∧ x.toInt ≤ 999
  · rw [decide_eq_true a, if_neg fd, if_neg fd, p_isHands, p_b1, p_inI, p_b1, show (1 : Int64).toInt = 1 from rfl, show (20 : Int64).toInt = 20 from rfl]
    by_cases b : 1 ≤ z.toInt ∧ z.toInt ≤ 20
    · rw [decide_eq_true b, if_neg fd, if_neg fd]
      obtain ⟨g, hg, rfl⟩ := p_of (x := x) (n := 999) a.1 a.2
      obtain ⟨k, hk, rfl⟩ := p_of (x := z) (n := 20) (by omega) b.2
      have hk2 : (nI k).toInt = k := nI_toInt (by omega)
      obtain ⟨o', e2, h4⟩ := p_opens N (by omega) hA v (g := g) (t := g) (Nat.le_refl g) (by omega)
      obtain ⟨M, o, e1, h1, h2, h3⟩ := p_need N (by omega) hA' ho (g := g) (t := 1000) (by omega) (by omega) hW
      have h5 := h3 k (by omega) hk
      -- the class
      have hC : ∃ r o, f_X7_earliestEnd N cl hp sp ho (nI g) (nI k) = some (r, o) ∧ ((r = -4 ∧ ∀ t, g ≤ t → t ≤ 1000 → ¬ p_D W A g (t - g) k) ∨ ∃ e, r = nI e ∧ g ≤ e ∧ e ≤ 1000 ∧ p_D W A g (e - g) k ∧ ∀ t, g ≤ t → t < e → ¬ p_D W A g (t - g) k) := by
        unfold f_X7_earliestEnd
        rw [show (1000 : Int32) = nI 1000 from rfl, e1, p_b2]
        by_cases c : M ≤ k
        · rw [if_pos (nI_le c (by omega))]
          obtain ⟨e, o2, e3, q1, q2, q3, q4⟩ := p_early N (by omega) hA' hW hg (by omega) hk 1000 N 0 g 1000 o (by omega) (by omega) (by omega) (Nat.le_refl g) (by omega) (by omega) (h5.mp c) (fun t ht1 ht2 => absurd ht2 (by omega))
          rw [show (0 : Int32) = nI 0 from rfl]
          exact ⟨_, _, e3, Or.inr ⟨e, rfl, q1, q2, q3, q4⟩⟩
        · rw [if_neg (nI_ge (by omega) (by omega))]
          refine ⟨_, _, rfl, Or.inl ⟨rfl, fun t ht1 ht2 hD => c (h5.mpr ?_)⟩⟩
          have := p_D_mono2 (1000 - t) hD
          rw [show t - g + (1000 - t) = 1000 - g by omega] at this
          exact this
      obtain ⟨r, oc, e3, hr⟩ := hC
      rw [e3, p_b2, e2, p_b1]
      obtain ⟨e, he⟩ : ∃ e : Nat, e = 1001 := ⟨_, rfl⟩
      refine p_runx (σ := Nat → Int32)
        (W := fun m i s => wk_loop (fun k29 : (Nat → Int32) → Int32 → Int32 → Option (Int32 × (Nat → Int32)) => B_X11_soonest_29 N it uhp uh ul ur us uv uw k29) (fun _ _ _ => none) m s (nI k) (nI i))
        (fun i s => g ≤ i ∧ (i ≤ 1000 → ∀ q, q < 32 → s q = nI (p_hrs A g (i - g) q)) ∧ ∀ t, g ≤ t → t < i → ¬ p_D W A g (t - g) k)
        (fun B => ∃ r' q q', some (r, oc) = some (r', q) ∧ B = some (r', q')) e ?_ ?_ (e - g) N g o' (by omega) (by omega) ⟨Nat.le_refl g, fun _ q hq => by rw [h4 q hq], fun t ht1 ht2 => absurd ht2 (by omega)⟩
      · intro m i s hi hI
        obtain ⟨i1, i2, i3⟩ := hI
        have e4 := p_does N (by omega) (W := W) (A := A) (g := g) (n := i - g) hk (by omega) hW (i2 (by omega))
        have g1 : ¬ (1000 : Int32) < nI i := nI_nlt (a := 1000) (by omega) (by omega)
        by_cases c : p_D W A g (i - g) k
        · left
          have hri : r = nI i := by
            rcases hr with ⟨-, q⟩ | ⟨e', rfl, q1, q2, q3, q4⟩
            · exact absurd c (q i i1 (by omega))
            · have : e' = i := by
                refine Classical.byContradiction (fun ne => ?_)
                by_cases d : e' < i
                · exact i3 e' q1 d q3
                · exact q4 i i1 (by omega) c
              rw [this]
          refine ⟨r, oc, s, rfl, ?_⟩
          show B_X11_soonest_29 N it uhp uh ul ur us uv uw _ s (nI k) (nI i) = _
          rw [B_X11_soonest_29, if_neg g1, e4, p_b1, decide_eq_true c, if_neg fd, hri]
        · right
          have hnext : ∀ t, g ≤ t → t < i + 1 → ¬ p_D W A g (t - g) k := by
            intro t ht1 ht2
            by_cases d : t = i
            · subst d; exact c
            · exact i3 t ht1 (by omega)
          by_cases d : i = 1000
          · refine ⟨s, ?_, by omega, fun f => absurd f (by omega), hnext⟩
            show B_X11_soonest_29 N it uhp uh ul ur us uv uw _ s (nI k) (nI i) = _
            rw [B_X11_soonest_29, if_neg g1, e4, p_b1, decide_eq_false c, if_pos fe, if_pos (show (1000 : Int32) ≤ nI i from nI_le (a := 1000) (by omega) (by omega)), p_nm, nI_1]
          · obtain ⟨o2, e5, h6⟩ := p_adds N (by omega) hA (g := g) (n := i - g) (by omega) (i2 (by omega))
            rw [show g + (i - g) = i by omega] at e5
            refine ⟨o2, ?_, by omega, fun _ q hq => by rw [show i + 1 - g = i - g + 1 by omega]; exact h6 q hq, hnext⟩
            show B_X11_soonest_29 N it uhp uh ul ur us uv uw _ s (nI k) (nI i) = _
            rw [B_X11_soonest_29, if_neg g1, e4, p_b1, decide_eq_false c, if_pos fe, if_neg (show ¬ (1000 : Int32) ≤ nI i from nI_ge (b := 1000) (by omega) (by omega)), e5, p_b1, p_nm, nI_1]
      · intro m s hI
        have hr4 : r = -4 := by
          rcases hr with ⟨q, -⟩ | ⟨e', rfl, q1, q2, q3, q4⟩
          · exact q
          · exact absurd q3 (hI.2.2 e' q1 (by omega))
        refine ⟨r, oc, s, rfl, ?_⟩
        show B_X11_soonest_29 N it uhp uh ul ur us uv uw _ s (nI k) (nI e) = _
        rw [B_X11_soonest_29, if_pos (show (1000 : Int32) < nI e by rw [he]; decide), hr4]
    · rw [decide_eq_false b, if_pos fe, if_pos fe]; exact ⟨_, _, _, rfl, rfl⟩
  · rw [decide_eq_false a, if_pos fe, if_pos fe]; exact ⟨_, _, _, rfl, rfl⟩
