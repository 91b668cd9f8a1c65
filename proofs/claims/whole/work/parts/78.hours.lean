/-! PURE: work and hours -/
theorem p_dvn {α : Type} {n : Nat} (h0 : 0 < n) (hn : n < 2 ^ 31) (k : Option α) : wk_dv (nI n) k = k := by
  rw [wk_dv, if_neg (nI_ne0 h0 hn)]
theorem p_and5 : ∀ a, a < 32 → ∀ b, b < 32 → nI a &&& nI b = nI (a &&& b) := by decide +kernel
theorem p_and5l : ∀ a, a < 32 → ∀ b, b < 32 → a &&& b < 32 := by decide +kernel
theorem p_and0 (b : Nat) : 0 &&& b = 0 := Nat.zero_and b
/-- the work of the counties of a set -/
def p_ws (W : Nat → Nat) (s : Nat) : Nat → Nat | 0 => 0 | k + 1 => p_ws W s k + (if s.testBit k = true then W k else 0)
theorem p_ws_s (W : Nat → Nat) (s k : Nat) : p_ws W s (k + 1) = p_ws W s k + (if s.testBit k = true then W k else 0) := rfl
theorem p_ws_le {W : Nat → Nat} (hW : ∀ c, c < 5 → W c ≤ 600) (s : Nat) : ∀ k, k ≤ 5 → p_ws W s k ≤ 600 * k := by
  intro k
  induction k with
  | zero => intro _; exact Nat.le_refl 0
  | succ k ih =>
    intro h
    have := ih (by omega)
    have := hW k (by omega)
    rw [p_ws_s]
    split <;> omega
/-- how many hours of a span one of a set is free -/
def p_hrs (A : Nat → Nat) (g n s : Nat) : Nat := p_cnt (fun j => decide (A (g + j) &&& s ≠ 0)) n
/-- in how many hours just these are free -/
def p_hin (A : Nat → Nat) (g n o : Nat) : Nat := p_cnt (fun j => decide (A (g + j) = o)) n
def p_sm (F : Nat → Nat) : Nat → Nat | 0 => 0 | k + 1 => p_sm F k + F k
theorem p_sm_add (F G : Nat → Nat) : ∀ k, p_sm (fun o => F o + G o) k = p_sm F k + p_sm G k := by
  intro k
  induction k with
  | zero => rfl
  | succ k ih => show p_sm (fun o => F o + G o) k + (F k + G k) = p_sm F k + F k + (p_sm G k + G k); rw [ih]; omega
theorem p_sm_one (a v : Nat) : ∀ k, p_sm (fun o => if o = a then v else 0) k = if a < k then v else 0 := by
  intro k
  induction k with
  | zero => rfl
  | succ k ih =>
    show p_sm (fun o => if o = a then v else 0) k + (if k = a then v else 0) = _
    rw [ih]
    by_cases h1 : a < k
    · rw [if_pos h1, if_neg (by omega), if_pos (by omega)]; rfl
    · by_cases h2 : k = a
      · rw [if_neg h1, if_pos h2, if_pos (by omega)]; omega
      · rw [if_neg h1, if_neg h2, if_neg (by omega)]
theorem p_sm_c {F G : Nat → Nat} : ∀ k, (∀ o, o < k → F o = G o) → p_sm F k = p_sm G k := by
  intro k
  induction k with
  | zero => intro _; rfl
  | succ k ih => intro h; show p_sm F k + F k = p_sm G k + G k; rw [ih (fun o ho => h o (by omega)), h k (by omega)]
/-- counted by what is free, or hour by hour -/
theorem p_hrs_sm {A : Nat → Nat} {g : Nat} (s : Nat) : ∀ n, (∀ j, j < n → A (g + j) < 32) → p_sm (fun o => if o &&& s ≠ 0 then p_hin A g n o else 0) 32 = p_hrs A g n s := by
  intro n
  induction n with
  | zero =>
    intro _
    have : ∀ k, p_sm (fun o => if o &&& s ≠ 0 then p_hin A g 0 o else 0) k = 0 := by
      intro k
      induction k with
      | zero => rfl
      | succ k ih =>
        show p_sm (fun o => if o &&& s ≠ 0 then p_hin A g 0 o else 0) k + (if k &&& s ≠ 0 then p_hin A g 0 k else 0) = 0
        rw [ih]
        split <;> rfl
    exact this 32
  | succ n ih =>
    intro h
    have hn := h n (by omega)
    have e1 : p_sm (fun o => if o &&& s ≠ 0 then p_hin A g (n + 1) o else 0) 32 = p_sm (fun o => (if o &&& s ≠ 0 then p_hin A g n o else 0) + (if o = A (g + n) then (if A (g + n) &&& s ≠ 0 then 1 else 0) else 0)) 32 := by
      refine p_sm_c 32 (fun o _ => ?_)
      have e2 : p_hin A g (n + 1) o = p_hin A g n o + (if A (g + n) = o then 1 else 0) := by
        show p_cnt _ (n + 1) = _
        rw [p_cnt_s]
        show _ + (if decide (A (g + n) = o) = true then 1 else 0) = _
        by_cases a : A (g + n) = o
        · rw [if_pos (decide_eq_true a), if_pos a]; rfl
        · rw [if_neg (by rw [decide_eq_false a]; decide), if_neg a]; rfl
      rw [e2]
      by_cases a : A (g + n) = o
      · rw [if_pos a, if_pos a.symm, a]
        by_cases b : o &&& s ≠ 0
        · rw [if_pos b, if_pos b, if_pos b]
        · rw [if_neg b, if_neg b, if_neg b]
      · rw [if_neg a, if_neg (show ¬ o = A (g + n) from fun c => a c.symm)]
        rfl
    rw [e1, p_sm_add, ih (fun j hj => h j (by omega)), p_sm_one, if_pos hn]
    show _ = p_cnt _ (n + 1)
    rw [p_cnt_s]
    show _ = _ + (if decide (A (g + n) &&& s ≠ 0) = true then 1 else 0)
    by_cases a : A (g + n) &&& s ≠ 0
    · rw [if_pos a, if_pos (decide_eq_true a)]; rfl
    · rw [if_neg a, if_neg (by rw [decide_eq_false a]; decide)]; rfl
theorem p_hin_le (A : Nat → Nat) (g n o : Nat) : p_hin A g n o ≤ n := p_cnt_le _ n
theorem p_hrs_le (A : Nat → Nat) (g n s : Nat) : p_hrs A g n s ≤ n := p_cnt_le _ n
theorem p_hrs_s (A : Nat → Nat) (g n s : Nat) : p_hrs A g (n + 1) s = p_hrs A g n s + (if A (g + n) &&& s ≠ 0 then 1 else 0) := by
  show p_cnt _ (n + 1) = _
  rw [p_cnt_s]
  show _ + (if decide (A (g + n) &&& s ≠ 0) = true then 1 else 0) = _
  by_cases a : A (g + n) &&& s ≠ 0
  · rw [if_pos a, if_pos (decide_eq_true a)]; rfl
  · rw [if_neg a, if_neg (by rw [decide_eq_false a]; decide)]; rfl
/-- what is free hour by hour: as the class and as the check have it -/
def ROpen (N : Nat) (A : Nat → Nat) (cl : Nat → Int32) (it : Int32) (uh ul ur uv uw : Nat → Int32) : Prop := ∀ h, h < 1000 → A h < 32 ∧ cl h = nI (31 - A h) ∧ f_X11_open N it uh ul ur uv uw (nI h) = some (nI (A h))
theorem RShut.opn {N : Nat} {cl : Nat → Int32} {it : Int32} {uh ul ur uv uw : Nat → Int32} (h : RShut N cl it uh ul ur uv uw) : ∃ A, ROpen N A cl it uh ul ur uv uw := by
  have hc : ∀ k : Nat, ∃ a : Nat, k < 1000 → a < 32 ∧ cl k = nI (31 - a) ∧ f_X11_open N it uh ul ur uv uw (nI k) = some (nI a) := by
    intro k
    by_cases a : k < 1000
    · obtain ⟨c, h1, h2, h3⟩ := h k a
      exact ⟨31 - c, fun _ => ⟨by omega, by rw [h2, show 31 - (31 - c) = c by omega], h3⟩⟩
    · exact ⟨0, fun b => absurd b a⟩
  exact ⟨fun k => Classical.choose (hc k), fun k hk => Classical.choose_spec (hc k) hk⟩
/-- the work of each county -/
def RWork (N : Nat) (W : Nat → Nat) (hp sp uh us : Nat → Int32) : Prop := ∀ c, c < 5 → W c ≤ 600 ∧ f_X7_workOf N hp sp (nI c) = some (nI (W c)) ∧ f_X11_work N uh us (nI c) = some (nI (W c))
theorem RBox.work {hp sp uh us : Nat → Int32} (h : RBox hp sp uh us) (N : Nat) : ∃ W, RWork N W hp sp uh us := by
  have hc : ∀ c : Nat, ∃ w : Nat, c < 5 → w ≤ 600 ∧ f_X7_workOf N hp sp (nI c) = some (nI w) ∧ f_X11_work N uh us (nI c) = some (nI w) := by
    intro c
    by_cases a : c < 5
    · obtain ⟨⟨h1, v, hv, hv2⟩, h2, s, hs, hs5, hs2⟩ := h c a
      refine ⟨(v + s - 1) / s, fun _ => ⟨Nat.le_trans (Nat.div_le_self _ _) (by omega), ?_, ?_⟩⟩
      · unfold f_X7_workOf f_X7_roundedUp
        rw [p_get (by omega) (by omega), p_b1, p_get (by omega) (by omega), p_b1, hv2, hs2, if_pos (show (1 : Int32) ≤ nI s from nI_le (a := 1) hs (by omega)), p_dvn (by omega) (by omega), p_b1, nI_add, show (1 : Int32) = nI 1 from rfl, pk_sub (by omega), pk_div (by omega) (by omega) (by omega)]
      · unfold f_X11_work
        rw [p_ck a (by omega), p_ck a (by omega), p_ck a (by omega), nI_clamp (by omega), ← h1, ← h2, hv2, hs2, p_dvn (by omega) (by omega), nI_add, show (1 : Int32) = nI 1 from rfl, pk_sub (by omega), pk_div (by omega) (by omega) (by omega)]
    · exact ⟨0, fun b => absurd b a⟩
  exact ⟨fun k => Classical.choose (hc k), fun k hk => Classical.choose_spec (hc k) hk⟩
/-- the class sorts the hours -/
theorem p_sort (N : Nat) (hN : 1001 ≤ N) {A : Nat → Nat} {cl : Nat → Int32} (hA : ∀ h, h < 1000 → A h < 32 ∧ cl h = nI (31 - A h)) (ho : Nat → Int32) {g t : Nat} (hg : g ≤ t) (ht : t ≤ 1000) :
    ∃ o, f_X7_sortHours N cl ho (nI g) (nI t) = some o ∧ ∀ k, k < 32 → o k = nI (p_hin A g (t - g) k) := by
  obtain ⟨o0, e0, h0⟩ := p_fill N (n := 32) (by omega) (by omega) ho 0
  unfold f_X7_sortHours
  rw [e0, p_b1]
  refine p_run (σ := Nat → Int32)
    (W := fun m i s => wk_loop (fun k10 : (Nat → Int32) → Int32 → Int32 → Option (Nat → Int32) => B_X7_sortHours_10 N cl k10) (fun _ _ _ => none) m s (nI t) (nI i))
    (fun i s => g ≤ i ∧ ∀ k, k < 32 → s k = nI (p_hin A g (i - g) k))
    (fun B => ∃ o, B = some o ∧ ∀ k, k < 32 → o k = nI (p_hin A g (t - g) k)) t ?_ ?_ (t - g) N g o0 (by omega) (by omega) ⟨Nat.le_refl g, fun k hk => by rw [Nat.sub_self, h0 k hk]; rfl⟩
  · intro m i s hi hI
    obtain ⟨hgi, hs⟩ := hI
    obtain ⟨a1, a2⟩ := hA i (by omega)
    refine ⟨upd s (A i) (nI (p_hin A g (i - g) (A i) + 1)), ?_, by omega, fun k hk => ?_⟩
    · show B_X7_sortHours_10 N cl _ s (nI t) (nI i) = _
      rw [B_X7_sortHours_10, if_neg (nI_ge hi (by omega)), p_get (by omega) (by omega), p_b1, a2, show (31 : Int32) = nI 31 from rfl, pk_sub (by omega), show 31 - (31 - A i) = A i by omega]
      unfold f_X6_add
      rw [p_get a1 (by omega), p_b1, p_set a1 (by omega), p_b1, p_b1, p_nm, nI_1, hs _ a1, nI_1]
    · have e1 : i + 1 - g = (i - g) + 1 := by omega
      rw [e1]
      have e2 : p_hin A g (i - g + 1) k = p_hin A g (i - g) k + (if A i = k then 1 else 0) := by
        show p_cnt _ (i - g + 1) = _
        rw [p_cnt_s]
        show _ + (if decide (A (g + (i - g)) = k) = true then 1 else 0) = _
        rw [show g + (i - g) = i by omega]
        by_cases a : A i = k
        · rw [if_pos (decide_eq_true a), if_pos a]; rfl
        · rw [if_neg (by rw [decide_eq_false a]; decide), if_neg a]; rfl
      rw [e2]
      by_cases a : A i = k
      · rw [if_pos a, ← a, pk_us]
      · rw [if_neg a, pk_un (fun b => a b.symm), hs k hk]; rfl
  · intro m s hI
    refine ⟨s, ?_, hI.2⟩
    show B_X7_sortHours_10 N cl _ s (nI t) (nI t) = _
    rw [B_X7_sortHours_10, if_pos (nI_le (Nat.le_refl t) (by omega))]
theorem p_hoursFor (N : Nat) (hN : 1001 ≤ N) {A : Nat → Nat} {g n s : Nat} (hA : ∀ j, j < n → A (g + j) < 32) (hn : n ≤ 1000) (hs : s < 32) {o : Nat → Int32} (ho : ∀ k, k < 32 → o k = nI (p_hin A g n k)) : f_X7_hoursFor N o (nI s) = some (nI (p_hrs A g n s)) := by
  rw [← p_hrs_sm s n hA]
  unfold f_X7_hoursFor
  obtain ⟨e, he⟩ : ∃ e : Nat, e = 32 := ⟨_, rfl⟩
  obtain ⟨z, hz⟩ : ∃ z : Nat, z = 1 := ⟨_, rfl⟩
  rw [show (1 : Int32) = nI z by rw [hz]; rfl, show (0 : Int32) = nI 0 from rfl, ← he]
  refine p_run (σ := Nat)
    (W := fun m i s' => wk_loop (fun k4 : Int32 → Int32 → Int32 → Option Int32 => B_X7_hoursFor_4 N o k4) (fun _ _ _ => none) m (nI s) (nI s') (nI i))
    (fun i s' => 1 ≤ i ∧ s' = p_sm (fun o => if o &&& s ≠ 0 then p_hin A g n o else 0) i ∧ s' ≤ 1000 * i)
    (fun B => B = some (nI (p_sm (fun o => if o &&& s ≠ 0 then p_hin A g n o else 0) e))) e ?_ ?_ (e - z) N z 0 (by omega) (by omega) ?_
  · intro m i s' hi hI
    obtain ⟨h1, h2, h3⟩ := hI
    have g1 : ¬ (32 : Int32) ≤ nI i := nI_ge (b := 32) (by omega) (by omega)
    have hh := p_hin_le A g n i
    have el := p_and5l i (by omega) s hs
    by_cases a : i &&& s ≠ 0
    · refine ⟨s' + p_hin A g n i, ?_, by omega, ?_, by omega⟩
      · show B_X7_hoursFor_4 N o _ (nI s) (nI s') (nI i) = _
        rw [B_X7_hoursFor_4, if_neg g1, p_and5 i (by omega) s hs, if_neg (nI_ne0 (by omega) (by omega)), p_get (by omega) (by omega), p_b1, p_nm, p_nm, nI_1, ho i (by omega), nI_add]
      · show _ = p_sm _ i + (if i &&& s ≠ 0 then p_hin A g n i else 0)
        rw [if_pos a, h2]
    · refine ⟨s', ?_, by omega, ?_, by omega⟩
      · show B_X7_hoursFor_4 N o _ (nI s) (nI s') (nI i) = _
        rw [B_X7_hoursFor_4, if_neg g1, p_and5 i (by omega) s hs, if_pos (show nI (i &&& s) = 0 by rw [Classical.byContradiction (fun b => a b) |> (fun (q : i &&& s = 0) => q)]; rfl), p_nm, nI_1]
      · show _ = p_sm _ i + (if i &&& s ≠ 0 then p_hin A g n i else 0)
        rw [if_neg a, h2]; rfl
  · intro m s' hI
    show B_X7_hoursFor_4 N o _ (nI s) (nI s') (nI e) = _
    rw [B_X7_hoursFor_4, if_pos (show (32 : Int32) ≤ nI e by rw [he]; decide), hI.2.1]
  · subst hz
    refine ⟨Nat.le_refl 1, ?_, by omega⟩
    show 0 = 0 + (if 0 &&& s ≠ 0 then p_hin A g n 0 else 0)
    rw [if_neg (by rw [p_and0]; omega)]
/-- hands for a set -/
def p_hf (w h : Nat) : Nat := if w = 0 then 0 else if h = 0 then 1000000 else (w + h - 1) / h
theorem p_hf_le {w h : Nat} (hw : w ≤ 3000) (hh : h ≤ 1000) : p_hf w h ≤ 1000000 := by
  unfold p_hf
  split
  · omega
  · split
    · omega
    · exact Nat.le_trans (Nat.div_le_self _ _) (by omega)
theorem p_hf_iff {w h k : Nat} (hk : k ≤ 20) : p_hf w h ≤ k ↔ w ≤ k * h := by
  unfold p_hf
  by_cases a : w = 0
  · rw [if_pos a]; omega
  · rw [if_neg a]
    by_cases b : h = 0
    · rw [if_pos b, b]; omega
    · rw [if_neg b, ← Nat.lt_succ_iff, Nat.div_lt_iff_lt_mul (by omega), Nat.succ_mul]
      omega
theorem p_handsFor (N : Nat) (hN : 1001 ≤ N) {A : Nat → Nat} {g n s : Nat} (hA : ∀ j, j < n → A (g + j) < 32) (hn : n ≤ 1000) (hs : s < 32) {o : Nat → Int32} (ho : ∀ k, k < 32 → o k = nI (p_hin A g n k)) {W : Nat → Nat} {hp sp uh us : Nat → Int32} (hW : RWork N W hp sp uh us) :
    f_X7_handsFor N hp o sp (nI s) = some (nI (p_hf (p_ws W s 5) (p_hrs A g n s))) := by
  unfold f_X7_handsFor
  obtain ⟨e, he⟩ : ∃ e : Nat, e = 5 := ⟨_, rfl⟩
  obtain ⟨z, hz⟩ : ∃ z : Nat, z = 0 := ⟨_, rfl⟩
  have hW6 : ∀ c, c < 5 → W c ≤ 600 := fun c hc => (hW c hc).1
  rw [show (0 : Int32) = nI z by rw [hz]; rfl]
  refine p_run (σ := Nat)
    (W := fun m i s' => wk_loop (fun k4 : Int32 → Int32 → Int32 → Option Int32 => B_X7_handsFor_4 N hp o sp k4) (fun _ _ _ => none) m (nI s) (nI s') (nI i))
    (fun i s' => s' = p_ws W s i)
    (fun B => B = some (nI (p_hf (p_ws W s 5) (p_hrs A g n s)))) e ?_ ?_ e N z z (by omega) (by omega) (by subst hz; rfl)
  · intro m i s' hi hI
    have g1 : ¬ (5 : Int32) ≤ nI i := nI_ge (b := 5) (by omega) (by omega)
    cases hb : s.testBit i with
    | true =>
      refine ⟨s' + W i, ?_, by rw [p_ws_s, hb, if_pos rfl, hI]⟩
      show B_X7_handsFor_4 N hp o sp _ (nI s) (nI s') (nI i) = _
      rw [B_X7_handsFor_4, if_neg g1, p_has10 N (by omega) (by omega), p_b1, hb, if_neg (show ¬ wk_bI true = 0 by decide), (hW i (by omega)).2.1, p_b1, p_nm, p_nm, nI_1, nI_add]
    | false =>
      refine ⟨s', ?_, by rw [p_ws_s, hb, if_neg (by decide), hI]; rfl⟩
      show B_X7_handsFor_4 N hp o sp _ (nI s) (nI s') (nI i) = _
      rw [B_X7_handsFor_4, if_neg g1, p_has10 N (by omega) (by omega), p_b1, hb, if_pos (show wk_bI false = 0 from rfl), p_nm, nI_1]
  · intro m s' hI
    show B_X7_handsFor_4 N hp o sp _ (nI s) (nI s') (nI e) = _
    have hle := p_ws_le hW6 s 5 (by omega)
    have hhl := p_hrs_le A g n s
    rw [he] at hI
    rw [B_X7_handsFor_4, if_pos (show (5 : Int32) ≤ nI e by rw [he]; decide), hI]
    unfold p_hf
    by_cases a : p_ws W s 5 = 0
    · rw [if_pos (show nI (p_ws W s 5) = 0 by rw [a]; rfl), if_pos a]; rfl
    · rw [if_neg (nI_ne0 (by omega) (by omega)), if_neg a, p_hoursFor N hN hA hn hs ho, p_b1]
      unfold f_X7_roundedUp
      by_cases b : p_hrs A g n s = 0
      · rw [if_neg (show ¬ (1 : Int32) ≤ nI (p_hrs A g n s) by rw [b]; decide), if_pos b, p_b1]; rfl
      · rw [if_pos (show (1 : Int32) ≤ nI (p_hrs A g n s) from nI_le (a := 1) (by omega) (by omega)), if_neg b, p_dvn (by omega) (by omega), p_b1, nI_add, show (1 : Int32) = nI 1 from rfl, pk_sub (by omega), pk_div (by omega) (by omega) (by omega)]
/-- all can be done with so many hands -/
abbrev p_D (W A : Nat → Nat) (g n k : Nat) : Prop := ∀ s, s < 32 → p_ws W s 5 ≤ k * p_hrs A g n s
theorem p_need (N : Nat) (hN : 1001 ≤ N) {A : Nat → Nat} {cl : Nat → Int32} (hA : ∀ h, h < 1000 → A h < 32 ∧ cl h = nI (31 - A h)) (ho : Nat → Int32) {g t : Nat} (hg : g ≤ t) (ht : t ≤ 1000) {W : Nat → Nat} {hp sp uh us : Nat → Int32} (hW : RWork N W hp sp uh us) :
    ∃ M o, f_X7_handsNeeded N cl hp sp ho (nI g) (nI t) = some (nI M, o) ∧ 1 ≤ M ∧ M ≤ 1000000 ∧ ∀ k, 1 ≤ k → k ≤ 20 → (M ≤ k ↔ p_D W A g (t - g) k) := by
  obtain ⟨o, e0, h0⟩ := p_sort N hN hA ho hg ht
  unfold f_X7_handsNeeded
  rw [e0, p_b1]
  have hW6 : ∀ c, c < 5 → W c ≤ 600 := fun c hc => (hW c hc).1
  have hA2 : ∀ j, j < t - g → A (g + j) < 32 := fun j hj => (hA _ (by omega)).1
  obtain ⟨e, he⟩ : ∃ e : Nat, e = 32 := ⟨_, rfl⟩
  obtain ⟨z, hz⟩ : ∃ z : Nat, z = 1 := ⟨_, rfl⟩
  rw [show (1 : Int32) = nI z by rw [hz]; rfl]
  refine p_run (σ := Nat)
    (W := fun m i s' => wk_loop (fun k11 : (Nat → Int32) → Int32 → Int32 → Option (Int32 × (Nat → Int32)) => B_X7_handsNeeded_11 N cl hp sp k11) (fun _ _ _ => none) m o (nI s') (nI i))
    (fun i M => 1 ≤ M ∧ M ≤ 1000000 ∧ ∀ k, 1 ≤ k → k ≤ 20 → (M ≤ k ↔ ∀ s, s < i → p_ws W s 5 ≤ k * p_hrs A g (t - g) s))
    (fun B => ∃ M o, B = some (nI M, o) ∧ 1 ≤ M ∧ M ≤ 1000000 ∧ ∀ k, 1 ≤ k → k ≤ 20 → (M ≤ k ↔ p_D W A g (t - g) k)) e ?_ ?_ (e - z) N z z (by omega) (by omega) ?_
  · intro m i M hi hI
    obtain ⟨h1, h2, h3⟩ := hI
    have g1 : ¬ (32 : Int32) ≤ nI i := nI_ge (b := 32) (by omega) (by omega)
    have hf := p_hf_le (show p_ws W i 5 ≤ 3000 from p_ws_le hW6 i 5 (by omega)) (show p_hrs A g (t - g) i ≤ 1000 from Nat.le_trans (p_hrs_le _ _ _ _) (by omega))
    refine ⟨if M < p_hf (p_ws W i 5) (p_hrs A g (t - g) i) then p_hf (p_ws W i 5) (p_hrs A g (t - g) i) else M, ?_, by split <;> omega, by split <;> omega, fun k hk1 hk2 => ?_⟩
    · show B_X7_handsNeeded_11 N cl hp sp _ o (nI M) (nI i) = _
      rw [B_X7_handsNeeded_11, if_neg g1, p_handsFor N hN hA2 (by omega) (by omega) h0 hW, p_b1, p_nm, p_nm, nI_1]
      by_cases a : M < p_hf (p_ws W i 5) (p_hrs A g (t - g) i)
      · rw [if_pos (nI_lt a (by omega)), if_pos a]
      · rw [if_neg (nI_nlt (by omega) (by omega)), if_neg a]
    · have hh := h3 k hk1 hk2
      have hif := p_hf_iff (w := p_ws W i 5) (h := p_hrs A g (t - g) i) hk2
      constructor
      · intro q s hs
        by_cases b : s = i
        · subst b
          refine hif.mp ?_
          by_cases a : M < p_hf (p_ws W s 5) (p_hrs A g (t - g) s)
          · rw [if_pos a] at q; exact q
          · rw [if_neg a] at q; omega
        · refine hh.mp ?_ s (by omega)
          by_cases a : M < p_hf (p_ws W i 5) (p_hrs A g (t - g) i)
          · rw [if_pos a] at q; omega
          · rw [if_neg a] at q; exact q
      · intro q
        have q1 := hh.mpr (fun s hs => q s (by omega))
        have q2 := hif.mpr (q i (by omega))
        by_cases a : M < p_hf (p_ws W i 5) (p_hrs A g (t - g) i)
        · rw [if_pos a]; exact q2
        · rw [if_neg a]; exact q1
  · intro m M hI
    obtain ⟨h1, h2, h3⟩ := hI
    refine ⟨M, o, ?_, h1, h2, fun k hk1 hk2 => ?_⟩
    · show B_X7_handsNeeded_11 N cl hp sp _ o (nI M) (nI e) = _
      rw [B_X7_handsNeeded_11, if_pos (show (32 : Int32) ≤ nI e by rw [he]; decide)]
    · rw [h3 k hk1 hk2, he]
  · subst hz
    refine ⟨Nat.le_refl 1, by omega, fun k hk1 hk2 => ⟨fun _ s hs => ?_, fun _ => hk1⟩⟩
    have : s = 0 := by omega
    subst this
    have : ∀ k, p_ws W 0 k = 0 := by
      intro k
      induction k with
      | zero => rfl
      | succ k ih => rw [p_ws_s, ih, Nat.zero_testBit, if_neg (by decide)]
    rw [this]
    omega
