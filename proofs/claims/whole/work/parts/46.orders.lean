/-! PURE: orders; rule and why -/
/-- the items in force -/
def ROrd (sz : Int32) (co hr kd rk vl : Nat → Int32) (it : Int32) (uh ul ur uv uw : Nat → Int32) (n : Nat) : Prop := n ≤ 40 ∧ sz = nI n ∧ it = nI n ∧ ∀ k, k < n → (ul k = kd k ∧ uw k = co k ∧ ur k = rk k ∧ uv k = vl k ∧ uh k = hr k) ∧ (∃ a, a < 4 ∧ kd k = nI a) ∧ (∃ a, a < 6 ∧ co k = nI a) ∧ (∃ a, a < 4 ∧ rk k = nI a) ∧ (∃ a, a < 13 ∧ vl k = nI a) ∧ (∃ a, a < 1000 ∧ hr k = nI a) ∧ (kd k = 2 → co k = 5) ∧ (kd k = 0 → ∃ a, 1 ≤ a ∧ a ≤ 5 ∧ vl k = nI a) ∧ (kd k = 2 → ∃ a, 2 ≤ a ∧ a ≤ 5 ∧ vl k = nI a) ∧ (kd k = 3 → ∃ a, a ≤ 1 ∧ vl k = nI a)
theorem p_isFor (N : Nat) (co : Nat → Int32) {i : Nat} (hi : i < 40) (c : Int32) : f_X1_isFor N co (nI i) c = some (decide (co i = 5 ∨ co i = c)) := by
  unfold f_X1_isFor
  rw [p_get hi (by omega), p_b1, p_b1]
  by_cases a : co i = 5
  · rw [if_pos a, decide_eq_true (Or.inl a)]
  · rw [if_neg a]
    by_cases b : co i = c
    · rw [if_pos b, decide_eq_true (Or.inr b)]
    · rw [if_neg b, decide_eq_false (fun h => h.elim a b)]
/-- an earlier item is ahead of a later order -/
def p_yl (hr rk : Nat → Int32) (i k : Nat) : Prop := rk i < rk k ∨ rk i = rk k ∧ hr i < hr k
theorem p_nle (x y : Int32) : (¬ y ≤ x) = (x < y) := by rw [p_toInt_le, p_toInt_lt]; exact propext (by omega)
theorem p_yields (N : Nat) (hr kd rk : Nat → Int32) {i k : Nat} (hi : i < 40) (hk : k < 40) : (kd i = 3 ∧ p_yl hr rk i k → f_X1_yields N hr kd rk (nI i) (nI k) = some true) ∧ (¬ (kd i = 3 ∧ p_yl hr rk i k) → f_X1_yields N hr kd rk (nI i) (nI k) = some false) := by
  unfold f_X1_yields p_yl
  simp only [p_get hi (show 40 ≤ 2000 by decide), p_get hk (show 40 ≤ 2000 by decide), p_b1]
  by_cases a : kd i = 3
  · simp only [if_pos a, a, true_and]
    by_cases b : rk i = rk k
    · simp only [if_pos b]
      by_cases c : hr k ≤ hr i
      · have c' : ¬ hr i < hr k := by rw [p_toInt_lt]; rw [p_toInt_le] at c; omega
        have b' : ¬ rk i < rk k := by rw [p_toInt_lt, b]; omega
        rw [if_pos c]
        exact ⟨fun h => (h.elim b' (fun q => c' q.2)).elim, fun _ => rfl⟩
      · have c' : hr i < hr k := by rw [← p_nle]; exact c
        rw [if_neg c]
        exact ⟨fun _ => rfl, fun h => (h (Or.inr ⟨b, c'⟩)).elim⟩
    · simp only [if_neg b]
      by_cases c : rk k ≤ rk i
      · have c' : ¬ rk i < rk k := by rw [p_toInt_lt]; rw [p_toInt_le] at c; omega
        rw [if_pos c]
        exact ⟨fun h => (h.elim c' (fun q => b q.1)).elim, fun _ => rfl⟩
      · have c' : rk i < rk k := by rw [← p_nle]; exact c
        rw [if_neg c]
        exact ⟨fun _ => rfl, fun h => (h (Or.inl c')).elim⟩
  · simp only [if_neg a]
    exact ⟨fun h => (a h.1).elim, fun _ => trivial⟩
theorem q_hold (N : Nat) (hN : 41 ≤ N) {sz it : Int32} {co hr kd rk vl uh ul ur uv uw : Nat → Int32} {n : Nat} (hR : ROrd sz co hr kd rk vl it uh ul ur uv uw n) {w : Nat} (hw : w < 4) (c t : Int32) : ∃ r, f_X1_holding N sz co hr kd rk (nI w) c t = some r ∧ f_X11_lineOf N it uh ul ur uw (nI w) c t = some r ∧ (r = -4 ∨ ∃ k, k < n ∧ r = nI k) := by
  obtain ⟨hn, rfl, rfl, hi⟩ := hR
  unfold f_X1_holding f_X11_lineOf
  rw [show (0 : Int32) = nI 0 from rfl]
  refine p_sim (σ := Int32) (τ := Int32)
    (W := fun m i s => wk_loop (fun k7 : Int32 → Int32 → Int32 → Int32 → Int32 → Option Int32 => B_X1_holding_7 N (nI n) co hr kd rk k7) (fun _ _ _ _ _ => none) m (nI w) c t s (nI i))
    (V := fun m i s => wk_loop (fun k7 : Int32 → Int32 → Int32 → Int32 → Int32 → Option Int32 => B_X11_lineOf_7 N (nI n) uh ul ur uw k7) (fun _ _ _ _ _ => none) m (nI w) c t s (nI i))
    (fun i s s' => s = s' ∧ (s = -4 ∨ ∃ k, k < i ∧ s = nI k))
    (fun A B => ∃ r, A = some r ∧ B = some r ∧ (r = -4 ∨ ∃ k, k < n ∧ r = nI k)) n ?_ ?_ n N N 0 (-4) (-4) (by omega) (by omega) (by omega) ⟨rfl, Or.inl rfl⟩
  · intro m m' i f f' hin hI
    obtain ⟨hff, hf⟩ := hI
    subst hff
    obtain ⟨⟨e1, e2, e3, e4, e5⟩, -, -, -, -, -, h2, -⟩ := hi i hin
    have g : ¬ nI n ≤ nI i := nI_ge hin (by omega)
    have b0 : ∀ k7 : Int32 → Int32 → Int32 → Int32 → Int32 → Option Int32, B_X1_holding_57 N (nI n) co hr kd rk k7 (nI w) c t f (nI i) (0 : Int32) = k7 (nI w) c t f (nI (i + 1)) := fun k7 => by
      rw [B_X1_holding_57, if_pos rfl, p_nm, nI_1]
    -- what the item does to what is found
    have key : ∃ f2, (f2 = -4 ∨ ∃ k, k < i + 1 ∧ f2 = nI k) ∧
        (∀ k7 : Int32 → Int32 → Int32 → Int32 → Int32 → Option Int32, kd i = nI w → B_X1_holding_57 N (nI n) co hr kd rk k7 (nI w) c t f (nI i) (1 : Int32) = k7 (nI w) c t f2 (nI (i + 1))) ∧
        (∀ k7 : Int32 → Int32 → Int32 → Int32 → Int32 → Option Int32, kd i = nI w → B_X11_lineOf_68 N (nI n) uh ul ur uw k7 (nI w) c t f (nI i) = k7 (nI w) c t f2 (nI (i + 1))) := by
      rcases hf with hf | ⟨k, hk, hf⟩
      · subst hf
        refine ⟨nI i, Or.inr ⟨i, by omega, rfl⟩, fun k7 _ => ?_, fun k7 _ => ?_⟩
        · rw [B_X1_holding_57, if_neg (by decide), if_pos rfl, p_nm, nI_1]
        · rw [B_X11_lineOf_68]
          by_cases w3 : nI w = 3
          · rw [if_pos w3, if_pos (by decide), B_X11_lineOf_134, if_pos rfl, p_nm, nI_1]
          · rw [if_neg w3, B_X11_lineOf_134, if_pos rfl, p_nm, nI_1]
      · subst hf
        obtain ⟨⟨d1, d2, d3, d4, d5⟩, -⟩ := hi k (by omega)
        have nk : ¬ nI k = (-4 : Int32) := fun h => by
          have := congrArg Int32.toInt h
          rw [nI_toInt (by omega), show (-4 : Int32).toInt = -4 from rfl] at this
          omega
        have kp : ¬ nI k < 0 := nI_pos (by omega)
        obtain ⟨y1, y2⟩ := p_yields N hr kd rk (i := i) (k := k) (by omega) (by omega)
        by_cases y : kd i = 3 ∧ p_yl hr rk i k
        · refine ⟨nI k, Or.inr ⟨k, by omega, rfl⟩, fun k7 _ => ?_, fun k7 hw3 => ?_⟩
          · rw [B_X1_holding_57, if_neg (by decide), if_neg nk, y1 y, p_b1, if_neg (by decide), p_nm, nI_1]
          · have w3 : nI w = 3 := by rw [← hw3]; exact y.1
            have a1 : ∀ k7 : Int32 → Int32 → Int32 → Int32 → Int32 → Option Int32, B_X11_lineOf_134 N (nI n) uh ul ur uw k7 (nI w) c t (nI k) (nI i) (1 : Int32) = k7 (nI w) c t (nI k) (nI (i + 1)) := fun k7 => by
              rw [B_X11_lineOf_134, if_neg (by decide), p_nm, nI_1]
            rw [B_X11_lineOf_68, if_pos w3, if_neg kp]
            simp only [p_ck (show i < 40 by omega) (show 40 < 2 ^ 31 by decide), p_ck (show k < 40 by omega) (show 40 < 2 ^ 31 by decide), nI_clamp (show i < 2 ^ 31 by omega), nI_clamp (show k < 2 ^ 31 by omega), e3, d3, e5, d5]
            rcases y.2 with q | ⟨q1, q2⟩
            · rw [if_pos q, a1]
            · have q3 : ¬ rk i < rk k := by rw [p_toInt_lt, q1]; omega
              have q4 : ¬ hr k ≤ hr i := by rw [p_nle]; exact q2
              rw [if_neg q3, if_pos q1, if_neg q4, a1]
        · refine ⟨nI i, Or.inr ⟨i, by omega, rfl⟩, fun k7 _ => ?_, fun k7 hw3 => ?_⟩
          · rw [B_X1_holding_57, if_neg (by decide), if_neg nk, y2 y, p_b1, if_pos (show wk_bI false = 0 from rfl), p_nm, nI_1]
          · have a0 : ∀ k7 : Int32 → Int32 → Int32 → Int32 → Int32 → Option Int32, B_X11_lineOf_134 N (nI n) uh ul ur uw k7 (nI w) c t (nI k) (nI i) (0 : Int32) = k7 (nI w) c t (nI i) (nI (i + 1)) := fun k7 => by
              rw [B_X11_lineOf_134, if_pos rfl, p_nm, nI_1]
            rw [B_X11_lineOf_68]
            by_cases w3 : nI w = 3
            · rw [if_pos w3, if_neg kp]
              simp only [p_ck (show i < 40 by omega) (show 40 < 2 ^ 31 by decide), p_ck (show k < 40 by omega) (show 40 < 2 ^ 31 by decide), nI_clamp (show i < 2 ^ 31 by omega), nI_clamp (show k < 2 ^ 31 by omega), e3, d3, e5, d5]
              have y' : ¬ p_yl hr rk i k := fun q => y ⟨by rw [hw3]; exact w3, q⟩
              rw [if_neg (fun q => y' (Or.inl q))]
              by_cases q1 : rk i = rk k
              · rw [if_pos q1]
                by_cases q2 : hr k ≤ hr i
                · rw [if_pos q2, a0]
                · exact absurd (Or.inr ⟨q1, by rw [← p_nle]; exact q2⟩) y'
              · rw [if_neg q1, a0]
            · rw [if_neg w3, a0]
    obtain ⟨f2, hf2, c1, c2⟩ := key
    by_cases k1 : kd i = nI w
    · by_cases k2 : t < hr i
      · refine ⟨f, f, ?_, ?_, rfl, hf.imp id (fun ⟨k, a, b⟩ => ⟨k, by omega, b⟩)⟩
        · show B_X1_holding_7 N (nI n) co hr kd rk _ (nI w) c t f (nI i) = _
          rw [B_X1_holding_7, if_neg g, p_get (by omega) (by omega), p_b1, if_pos k1, p_isFor N co (by omega), p_b1]
          by_cases k3 : co i = 5 ∨ co i = c
          · rw [if_neg (by rw [p_bI, decide_eq_true k3]; decide), p_get (by omega) (by omega), p_b1, if_pos k2, b0]
          · rw [if_pos (by rw [p_bI, decide_eq_false k3]), b0]
        · show B_X11_lineOf_7 N (nI n) uh ul ur uw _ (nI w) c t f (nI i) = _
          rw [B_X11_lineOf_7, if_neg g, p_ck (by omega) (by omega), nI_clamp (by omega), e1, if_pos k1, p_ck (by omega) (by omega), e5, if_pos k2, p_nm, nI_1]
      · by_cases k3 : co i = 5 ∨ co i = c
        · refine ⟨f2, f2, ?_, ?_, rfl, hf2⟩
          · show B_X1_holding_7 N (nI n) co hr kd rk _ (nI w) c t f (nI i) = _
            rw [B_X1_holding_7, if_neg g, p_get (by omega) (by omega), p_b1, if_pos k1, p_isFor N co (by omega), p_b1, if_neg (by rw [p_bI, decide_eq_true k3]; decide), p_get (by omega) (by omega), p_b1, if_neg k2, c1 _ k1]
          · show B_X11_lineOf_7 N (nI n) uh ul ur uw _ (nI w) c t f (nI i) = _
            rw [B_X11_lineOf_7, if_neg g, p_ck (by omega) (by omega), nI_clamp (by omega), e1, if_pos k1, p_ck (by omega) (by omega), e5, if_neg k2]
            by_cases k4 : nI w = 2
            · rw [if_pos k4, c2 _ k1]
            · rw [if_neg k4, p_ck (by omega) (by omega), e2]
              by_cases k5 : co i = 5
              · rw [if_pos k5, c2 _ k1]
              · rw [if_neg k5, p_ck (by omega) (by omega), if_pos (k3.resolve_left k5), c2 _ k1]
        · refine ⟨f, f, ?_, ?_, rfl, hf.imp id (fun ⟨k, a, b⟩ => ⟨k, by omega, b⟩)⟩
          · show B_X1_holding_7 N (nI n) co hr kd rk _ (nI w) c t f (nI i) = _
            rw [B_X1_holding_7, if_neg g, p_get (by omega) (by omega), p_b1, if_pos k1, p_isFor N co (by omega), p_b1, if_pos (by rw [p_bI, decide_eq_false k3]), b0]
          · show B_X11_lineOf_7 N (nI n) uh ul ur uw _ (nI w) c t f (nI i) = _
            have k4 : ¬ nI w = 2 := fun q => k3 (Or.inl (h2 (by rw [k1]; exact q)))
            rw [B_X11_lineOf_7, if_neg g, p_ck (by omega) (by omega), nI_clamp (by omega), e1, if_pos k1, p_ck (by omega) (by omega), e5, if_neg k2, if_neg k4, p_ck (by omega) (by omega), e2, if_neg (fun q => k3 (Or.inl q)), p_ck (by omega) (by omega), if_neg (fun q => k3 (Or.inr q)), p_nm, nI_1]
    · refine ⟨f, f, ?_, ?_, rfl, hf.imp id (fun ⟨k, a, b⟩ => ⟨k, by omega, b⟩)⟩
      · show B_X1_holding_7 N (nI n) co hr kd rk _ (nI w) c t f (nI i) = _
        rw [B_X1_holding_7, if_neg g, p_get (by omega) (by omega), p_b1, if_neg k1, b0]
      · show B_X11_lineOf_7 N (nI n) uh ul ur uw _ (nI w) c t f (nI i) = _
        rw [B_X11_lineOf_7, if_neg g, p_ck (by omega) (by omega), nI_clamp (by omega), e1, if_neg k1, p_nm, nI_1]
  · intro m m' f f' hI
    obtain ⟨hff, hf⟩ := hI
    subst hff
    refine ⟨f, ?_, ?_, hf⟩
    · show B_X1_holding_7 N (nI n) co hr kd rk _ (nI w) c t f (nI n) = _
      rw [B_X1_holding_7, if_pos (nI_le (Nat.le_refl n) (by omega))]
    · show B_X11_lineOf_7 N (nI n) uh ul ur uw _ (nI w) c t f (nI n) = _
      rw [B_X11_lineOf_7, if_pos (nI_le (Nat.le_refl n) (by omega))]
theorem q_value (N : Nat) (hN : 41 ≤ N) {sz it : Int32} {co hr kd rk vl uh ul ur uv uw : Nat → Int32} {n : Nat} (hR : ROrd sz co hr kd rk vl it uh ul ur uv uw n) {w : Nat} (hw : w < 4) (c t : Int32) : ∃ r, f_X1_valueIn N sz co hr kd rk vl (nI w) c t = some r ∧ f_X11_ruleOf N it uh ul ur uv uw (nI w) c t = some r := by
  obtain ⟨r, e1, e2, h⟩ := q_hold N hN hR hw c t
  unfold f_X1_valueIn f_X11_ruleOf f_X1_without
  rw [e1, e2, p_b1, p_b1]
  rcases h with rfl | ⟨k, hk, rfl⟩
  · rw [if_pos rfl, if_pos (show (-4 : Int32) < 0 by decide)]
    rcases (show w = 0 ∨ w = 1 ∨ w = 2 ∨ w = 3 by omega) with rfl | rfl | rfl | rfl <;> exact ⟨_, rfl, rfl⟩
  · obtain ⟨hn, -, -, hi⟩ := hR
    have nk : ¬ nI k = (-4 : Int32) := fun h => by
      have := congrArg Int32.toInt h
      rw [nI_toInt (by omega), show (-4 : Int32).toInt = -4 from rfl] at this
      omega
    refine ⟨vl k, ?_, ?_⟩
    · rw [if_neg nk, p_get (by omega) (by omega), p_b1]
    · rw [if_neg (nI_pos (by omega)), p_ck (by omega) (by omega), nI_clamp (by omega), (hi k hk).1.2.2.2.1]
theorem q_rule (N : Nat) (hN : 41 ≤ N) {sz it : Int32} {co hr kd rk vl uh ul ur uv uw : Nat → Int32} {n : Nat} (hR : ROrd sz co hr kd rk vl it uh ul ur uv uw n) (x y z : Int32) : ∃ r, f_X10_rule N sz co hr kd rk vl x y z = some r ∧ f_X11_rule N it uh ul ur uv uw x y z = some r := by
  unfold f_X10_rule f_X11_rule
  simp only [p_isWhat, p_isCounty, p_isHour, p_mhour, p_inI, p_b1, p_bI, decide_eq_false_iff_not, show (0 : Int64).toInt = 0 from rfl, show (3 : Int64).toInt = 3 from rfl, show (4 : Int64).toInt = 4 from rfl, show (4 : Int32).toInt = 4 from rfl]
  by_cases a : 0 ≤ x.toInt ∧ x.toInt ≤ 3
  · simp only [if_neg (show ¬ ¬ (0 ≤ x.toInt ∧ x.toInt < 4) by omega), if_neg (not_not_intro a)]
    by_cases b : 0 ≤ y.toInt ∧ y.toInt ≤ 4
    · simp only [if_neg (not_not_intro b)]
      by_cases c : 0 ≤ z.toInt ∧ z.toInt ≤ 999
      · simp only [if_neg (not_not_intro c)]
        obtain ⟨w, hw, rfl⟩ := p_of (n := 3) a.1 (by omega)
        obtain ⟨r, e1, e2⟩ := q_value N hN hR (w := w) (by omega) y z
        rw [e1, e2]
        exact ⟨_, rfl, rfl⟩
      · simp only [if_pos c]; exact ⟨_, rfl, rfl⟩
    · simp only [if_pos b]; exact ⟨_, rfl, rfl⟩
  · simp only [if_pos (show ¬ (0 ≤ x.toInt ∧ x.toInt < 4) by omega), if_pos a]; exact ⟨_, rfl, rfl⟩
theorem q_why (N : Nat) (hN : 41 ≤ N) {sz it : Int32} {co hr kd rk vl uh ul ur uv uw : Nat → Int32} {n : Nat} (hR : ROrd sz co hr kd rk vl it uh ul ur uv uw n) (x y z : Int32) : ∃ r, f_X10_why N sz co hr kd rk x y z = some r ∧ f_X11_why N it uh ul ur uw x y z = some r := by
  unfold f_X10_why f_X11_why
  simp only [p_isWhat, p_isCounty, p_isHour, p_mhour, p_inI, p_b1, p_bI, decide_eq_false_iff_not, show (0 : Int64).toInt = 0 from rfl, show (3 : Int64).toInt = 3 from rfl, show (4 : Int64).toInt = 4 from rfl, show (4 : Int32).toInt = 4 from rfl]
  by_cases a : 0 ≤ x.toInt ∧ x.toInt ≤ 3
  · simp only [if_neg (show ¬ ¬ (0 ≤ x.toInt ∧ x.toInt < 4) by omega), if_neg (not_not_intro a)]
    by_cases b : 0 ≤ y.toInt ∧ y.toInt ≤ 4
    · simp only [if_neg (not_not_intro b)]
      by_cases c : 0 ≤ z.toInt ∧ z.toInt ≤ 999
      · simp only [if_neg (not_not_intro c)]
        obtain ⟨w, hw, rfl⟩ := p_of (n := 3) a.1 (by omega)
        obtain ⟨r, e1, e2, -⟩ := q_hold N hN hR (w := w) (by omega) y z
        rw [e1, e2]
        exact ⟨_, rfl, rfl⟩
      · simp only [if_pos c]; exact ⟨_, rfl, rfl⟩
    · simp only [if_pos b]; exact ⟨_, rfl, rfl⟩
  · simp only [if_pos (show ¬ (0 ≤ x.toInt ∧ x.toInt < 4) by omega), if_pos a]; exact ⟨_, rfl, rfl⟩
