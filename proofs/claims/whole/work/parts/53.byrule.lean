/-! PURE: counts by one rule; byRule -/
theorem p_fill (N : Nat) {n : Nat} (hn : n < N) (hn2 : n < 2000) (v : Nat → Int32) (x : Int32) : ∃ o, f_X6_fill N n v x = some o ∧ ∀ j, j < n → o j = x := by
  unfold f_X6_fill
  rw [show (0 : Int32) = nI 0 from rfl]
  refine p_run (σ := Nat → Int32) (W := fun m i s => wk_loop (fun k2 : (Nat → Int32) → Int32 → Int32 → Option (Nat → Int32) => B_X6_fill_2 N n k2) (fun _ _ _ => none) m s x (nI i)) (fun i s => ∀ j, j < i → s j = x) (fun A => ∃ o, A = some o ∧ ∀ j, j < n → o j = x) n ?_ ?_ n N 0 v (by omega) (by omega) (fun j hj => by omega)
  · intro m i s hi hI
    refine ⟨upd s i x, ?_, fun j hj => ?_⟩
    · show B_X6_fill_2 N n _ s x (nI i) = _
      rw [B_X6_fill_2, if_neg (nI_ge hi (by omega)), p_ck hi (by omega), p_nm, nI_1, nI_clamp (by omega)]
    · by_cases w : j = i
      · subst w; rw [pk_us]
      · rw [pk_un w]; exact hI j (by omega)
  · intro m s hI
    refine ⟨s, ?_, hI⟩
    show B_X6_fill_2 N n _ s x (nI n) = _
    rw [B_X6_fill_2, if_pos (nI_le (Nat.le_refl n) (by omega))]
theorem q_readBy (N : Nat) (hN : 41 ≤ N) (dm ss : Nat → Int32) (x : Int32) : ∃ od os, f_X8_readBy N dm ss x = some (od, os) ∧ ∀ c, c < 5 → od c = 0 ∧ os c = x := by
  obtain ⟨os, e1, h1⟩ := p_fill N (n := 5) (by omega) (by omega) ss x
  obtain ⟨od, e2, h2⟩ := p_fill N (n := 5) (by omega) (by omega) dm 0
  unfold f_X8_readBy f_X4_readBy
  rw [e1, p_b1, e2, p_b1, p_b2]
  exact ⟨od, os, rfl, fun c hc => ⟨h2 c hc, h1 c hc⟩⟩
theorem q_rule1 (N : Nat) (hN : 41 ≤ N) {pz : Int32} {pc st cd ct hs : Nat → Int32} {k : Nat} (hP : RPile pz pc st cd ct hs 0 k) {c r : Nat} (hc : c < k) (hr3 : r < 3) (x : Int32) :
    ∃ v, (∀ od os : Nat → Int32, (∀ c, c < 5 → od c = 0 ∧ os c = x) → f_X4_choiceOf N pc st od os (nI c) (nI r) = some v) ∧ f_X11_votes N hs (nI c) (nI r) x (0 : Int32) = some v ∧ (v = -4 ∨ ∃ h, h < 4 ∧ v = nI h) := by
  obtain ⟨hk, -, -, hco, hst⟩ := hP
  have hst' : ∀ j, j < 12 * k → st j = hs j := fun j hj => by
    have := (hst j hj).1
    rw [Nat.mul_zero, Nat.zero_add] at this
    exact this
  obtain ⟨-, cy, hcy, ecy⟩ := hco c hc
  obtain ⟨v0, w0, x0, y0⟩ := q_shown N (by omega) (co := pc) (st := st) (dm := fun _ => 0) (ss := fun _ => x) (hs := hs) hk hst' hc hr3 hcy 0
  refine ⟨v0, fun od os h => ?_, x0, y0⟩
  obtain ⟨v1, w1, x1, -⟩ := q_shown N (by omega) (co := pc) (st := st) (dm := od) (ss := os) (hs := hs) hk hst' hc hr3 hcy 0
  rw [(h cy hcy).2] at x1
  have e : v1 = v0 := Option.some.inj (x1.symm.trans x0)
  subst e
  unfold f_X4_choiceOf f_X3_countyOf
  rw [p_get (by omega) (by omega), p_b1, p_b1, ecy, p_get hcy (by omega), p_b1, (h cy hcy).1, if_pos (by decide), w1]
/-- the votes of all cards by every rule -/
theorem p_vtr (N : Nat) (hN : 41 ≤ N) {pz : Int32} {pc st cd ct hs : Nat → Int32} {k : Nat} (hP : RPile pz pc st cd ct hs 0 k) {r : Nat} (hr3 : r < 3) :
    ∃ vt : Nat → Nat → Int32, ∀ l c, c < k → (∀ od os : Nat → Int32, (∀ c, c < 5 → od c = 0 ∧ os c = nI l) → f_X4_choiceOf N pc st od os (nI c) (nI r) = some (vt l c)) ∧ f_X11_votes N hs (nI c) (nI r) (nI l) (0 : Int32) = some (vt l c) ∧ (vt l c = -4 ∨ ∃ h, h < 4 ∧ vt l c = nI h) := by
  have h : ∀ l c : Nat, ∃ v : Int32, c < k → (∀ od os : Nat → Int32, (∀ c, c < 5 → od c = 0 ∧ os c = nI l) → f_X4_choiceOf N pc st od os (nI c) (nI r) = some v) ∧ f_X11_votes N hs (nI c) (nI r) (nI l) (0 : Int32) = some v ∧ (v = -4 ∨ ∃ h, h < 4 ∧ v = nI h) := fun l c => by
    by_cases hc : c < k
    · obtain ⟨v, h⟩ := q_rule1 N hN hP hc hr3 (nI l)
      exact ⟨v, fun _ => h⟩
    · exact ⟨0, fun q => (hc q).elim⟩
  exact ⟨fun l c => Classical.choose (h l c), fun l c => Classical.choose_spec (h l c)⟩
theorem p_n5 : ∀ a, a < 5 → ∀ b, b < 5 → (nI a = nI b ↔ a = b) := by decide
theorem p_n55 : ∀ a, a < 5 → ¬ nI a = (5 : Int32) := by decide
/-- what the check counts by every rule, county by county -/
theorem q_counts (N : Nat) (hN : 121 ≤ N) {cd ct hs : Nat → Int32} {n : Nat} (hn : n ≤ 40) (hcd : cd 0 = nI n) (hct : ∀ k, k < n → ∃ c, c < 5 ∧ ct k = nI c) {r : Nat} {vt : Nat → Nat → Int32} (hv : ∀ l c, c < n → f_X11_votes N hs (nI c) (nI r) (nI l) (0 : Int32) = some (vt l c) ∧ (vt l c = -4 ∨ ∃ h, h < 4 ∧ vt l c = nI h)) (ub : Nat → Int32) :
    ∃ o, f_X11_counts N cd ct hs ub (nI r) = some o ∧ ∀ cy, cy < 5 → ∀ l, 1 ≤ l → l ≤ 5 → ∀ h, h < 4 → o (24 * cy + 4 * l + h) = nI (p_cnt (p_sel ct (nI cy) (vt l) h) n) := by
  unfold f_X11_counts
  obtain ⟨e, he⟩ : ∃ e : Nat, e = 120 := ⟨_, rfl⟩
  obtain ⟨z, hz⟩ : ∃ z : Nat, z = 0 := ⟨_, rfl⟩
  rw [show (0 : Int32) = nI z from by rw [hz]; rfl]
  refine p_run (σ := Nat → Int32) (W := fun m i s => wk_loop (fun k2 : (Nat → Int32) → Int32 → Int32 → Option (Nat → Int32) => B_X11_counts_2 N cd ct hs k2) (fun _ _ _ => none) m s (nI r) (nI i)) (fun i s => ∀ j, j < i → s j = 0) (fun A => ∃ o, A = some o ∧ ∀ cy, cy < 5 → ∀ l, 1 ≤ l → l ≤ 5 → ∀ h, h < 4 → o (24 * cy + 4 * l + h) = nI (p_cnt (p_sel ct (nI cy) (vt l) h) n)) e ?_ ?_ 120 N z ub (by omega) (by omega) (fun j hj => by omega)
  · intro m i s hi hI
    refine ⟨upd s i 0, ?_, fun j hj => ?_⟩
    · show B_X11_counts_2 N cd ct hs _ s (nI r) (nI i) = _
      rw [B_X11_counts_2, if_neg (show ¬ (120 : Int32) ≤ nI i from nI_ge (b := 120) (by omega) (by omega)), p_ck (by omega) (by omega), p_nm, nI_1, nI_clamp (by omega)]
    · by_cases w : j = i
      · subst w; rw [pk_us]
      · rw [pk_un w]; exact hI j (by omega)
  · intro m s hI
    show ∃ o, B_X11_counts_2 N cd ct hs _ s (nI r) (nI e) = some o ∧ _
    rw [B_X11_counts_2, if_pos (show (120 : Int32) ≤ nI e from nI_le (a := 120) (by omega) (by omega)), show (0 : Int32) = nI z from by rw [hz]; rfl]
    refine p_run (σ := Nat → Int32) (W := fun m i s => wk_loop (fun k23 : (Nat → Int32) → Int32 → Int32 → Option (Nat → Int32) => B_X11_counts_23 N cd ct hs k23) (fun _ _ _ => none) m s (nI r) (nI i)) (fun i s => ∀ cy, cy < 5 → ∀ l, 1 ≤ l → l ≤ 5 → ∀ h, h < 4 → s (24 * cy + 4 * l + h) = nI (p_cnt (p_sel ct (nI cy) (vt l) h) i)) (fun A => ∃ o, A = some o ∧ ∀ cy, cy < 5 → ∀ l, 1 ≤ l → l ≤ 5 → ∀ h, h < 4 → o (24 * cy + 4 * l + h) = nI (p_cnt (p_sel ct (nI cy) (vt l) h) n)) n ?_ ?_ n N z s (by omega) (by omega) (fun cy h1 l h2 h3 h h4 => by rw [hI _ (by omega), hz]; rfl)
    · intro m i s hi hI
      have g : ¬ nI n ≤ nI i := nI_ge hi (by omega)
      obtain ⟨c0, hc0, ec0⟩ := hct i hi
      have inner : ∀ k23 : (Nat → Int32) → Int32 → Int32 → Option (Nat → Int32), ∃ s', wk_loop (fun k35 : (Nat → Int32) → Int32 → Int32 → Int32 → Option (Nat → Int32) => B_X11_counts_35 N cd ct hs k23 k35) (fun _ _ _ _ => none) N s (nI r) (nI i) (nI 1) = k23 s' (nI r) (nI (i + 1)) ∧ ∀ cy, cy < 5 → ∀ l, 1 ≤ l → l ≤ 5 → ∀ h, h < 4 → s' (24 * cy + 4 * l + h) = nI (p_cnt (p_sel ct (nI cy) (vt l) h) (i + 1)) := by
        intro k23
        obtain ⟨e6, he6⟩ : ∃ e : Nat, e = 6 := ⟨_, rfl⟩
        refine p_run (σ := Nat → Int32) (W := fun m j s => wk_loop (fun k35 : (Nat → Int32) → Int32 → Int32 → Int32 → Option (Nat → Int32) => B_X11_counts_35 N cd ct hs k23 k35) (fun _ _ _ _ => none) m s (nI r) (nI i) (nI j)) (fun j s => 1 ≤ j ∧ ∀ cy, cy < 5 → ∀ l, 1 ≤ l → l ≤ 5 → ∀ h, h < 4 → s (24 * cy + 4 * l + h) = nI (p_cnt (p_sel ct (nI cy) (vt l) h) (if l < j then i + 1 else i))) (fun A => ∃ s', A = k23 s' (nI r) (nI (i + 1)) ∧ ∀ cy, cy < 5 → ∀ l, 1 ≤ l → l ≤ 5 → ∀ h, h < 4 → s' (24 * cy + 4 * l + h) = nI (p_cnt (p_sel ct (nI cy) (vt l) h) (i + 1))) e6 ?_ ?_ (e6 - 1) N 1 s (by omega) (by omega) ⟨by omega, fun cy h1 l h2 h3 h h4 => by rw [if_neg (by omega)]; exact hI cy h1 l h2 h3 h h4⟩
        · rintro m j s hj ⟨hj0, hJ⟩
          have gj : ¬ (6 : Int32) ≤ nI j := nI_ge (b := 6) (by omega) (by omega)
          obtain ⟨v1, v2⟩ := hv j i hi
          have stay : ∀ cy, cy < 5 → ∀ l, 1 ≤ l → l ≤ 5 → ∀ h, h < 4 → ¬ (l = j ∧ p_sel ct (nI cy) (vt l) h i = true) → p_cnt (p_sel ct (nI cy) (vt l) h) (if l < j + 1 then i + 1 else i) = p_cnt (p_sel ct (nI cy) (vt l) h) (if l < j then i + 1 else i) := by
            intro cy h1 l h2 h3 h h4 hq
            by_cases w1 : l < j
            · rw [if_pos w1, if_pos (by omega)]
            · rw [if_neg w1]
              by_cases w2 : l < j + 1
              · rw [if_pos w2, p_cnt_s, if_neg (fun q => hq ⟨by omega, q⟩)]; simp only [Nat.add_zero]
              · rw [if_neg w2]
          rcases v2 with q | ⟨h0, hh0, q⟩
          · refine ⟨s, ?_, by omega, fun cy h1 l h2 h3 h h4 => ?_⟩
            · show B_X11_counts_35 N cd ct hs k23 _ s (nI r) (nI i) (nI j) = _
              rw [B_X11_counts_35, if_neg gj, v1, p_b1, if_pos (by rw [q]; decide), p_nm, nI_1]
            · rw [hJ cy h1 l h2 h3 h h4, stay cy h1 l h2 h3 h h4]
              rintro ⟨rfl, w⟩
              exact p_n4 h h4 ((of_decide_eq_true w).2.symm.trans q)
          · have hj0' : 1 ≤ j := hj0
            · have ei : (((24 : Int32) * nI c0) + ((4 : Int32) * nI j)) + nI h0 = nI (24 * c0 + 4 * j + h0) := by
                rw [show (24 : Int32) = nI 24 from rfl, show (4 : Int32) = nI 4 from rfl, pk_mul, pk_mul, nI_add, nI_add]
              have hold := hJ c0 hc0 j hj0 (by omega) h0 hh0
              rw [if_neg (by omega)] at hold
              refine ⟨upd s (24 * c0 + 4 * j + h0) (nI (p_cnt (p_sel ct (nI c0) (vt j) h0) i + 1)), ?_, by omega, fun cy h1 l h2 h3 h h4 => ?_⟩
              · show B_X11_counts_35 N cd ct hs k23 _ s (nI r) (nI i) (nI j) = _
                rw [B_X11_counts_35, if_neg gj, v1, p_b1, q, if_neg (nI_pos (by omega)), p_ck (by omega) (by omega), nI_clamp (by omega), ec0, ei, p_ck (by omega) (by omega), p_ck (by omega) (by omega), p_nm, nI_1, nI_clamp (by omega), hold, nI_1]
              · by_cases w : cy = c0 ∧ l = j ∧ h = h0
                · obtain ⟨rfl, rfl, rfl⟩ := w
                  rw [pk_us, if_pos (by omega), p_cnt_s, if_pos (show p_sel ct (nI cy) (vt l) h i = true from decide_eq_true ⟨Or.inr ec0, q⟩)]
                · rw [pk_un (by omega), hJ cy h1 l h2 h3 h h4, stay cy h1 l h2 h3 h h4]
                  rintro ⟨rfl, w2⟩
                  obtain ⟨w3, w4⟩ := of_decide_eq_true w2
                  rcases w3 with w3 | w3
                  · exact p_n55 cy h1 w3
                  · exact w ⟨(p_n5 cy h1 c0 hc0).mp (w3.symm.trans ec0), rfl, (p_nh h h4 h0 hh0).mp (w4.symm.trans q)⟩
        · rintro m s ⟨hj0, hJ⟩
          refine ⟨s, ?_, fun cy h1 l h2 h3 h h4 => ?_⟩
          · show B_X11_counts_35 N cd ct hs k23 _ s (nI r) (nI i) (nI e6) = _
            rw [B_X11_counts_35, if_pos (show (6 : Int32) ≤ nI e6 from nI_le (a := 6) (by omega) (by omega)), p_nm, nI_1]
          · rw [hJ cy h1 l h2 h3 h h4, if_pos (by omega)]
      obtain ⟨s', e1, e2⟩ := inner (fun a b c => wk_loop (fun k23 : (Nat → Int32) → Int32 → Int32 → Option (Nat → Int32) => B_X11_counts_23 N cd ct hs k23) (fun _ _ _ => none) m a b c)
      refine ⟨s', ?_, e2⟩
      show B_X11_counts_23 N cd ct hs _ s (nI r) (nI i) = _
      rw [B_X11_counts_23, p_ck0, p_cl0, hcd, if_neg g]
      exact e1
    · intro m s hI
      refine ⟨s, ?_, hI⟩
      show B_X11_counts_23 N cd ct hs _ s (nI r) (nI n) = _
      rw [B_X11_counts_23, p_ck0, p_cl0, hcd, if_pos (nI_le (Nat.le_refl n) (by omega))]
