/-! PURE: who is placed in an hour -/
theorem p_tb31 : ∀ a, a < 32 → ∀ c, c < 5 → (31 - a).testBit c = !a.testBit c := by decide +kernel
theorem p_isOpen (N : Nat) {A : Nat → Nat} {cl : Nat → Int32} (hA : ∀ h, h < 1000 → A h < 32 ∧ cl h = nI (31 - A h)) {c h : Nat} (hc : c < 5) (hh : h < 1000) : f_X7_isOpen N cl (nI c) (nI h) = some ((A h).testBit c) := by
  obtain ⟨a1, a2⟩ := hA h hh
  unfold f_X7_isOpen
  rw [p_get (by omega) (by omega), p_b1, a2, p_has10 N (by omega) (by omega), p_b1, p_tb31 _ a1 c hc]
  cases (A h).testBit c <;> rfl
/-- the first of those with the least -/
def p_arg (P : Nat → Bool) (Y : Nat → Nat) : Nat → Option Nat
  | 0 => none
  | k + 1 => if P k = true then (match p_arg P Y k with | none => some k | some j => if Y k < Y j then some k else some j) else p_arg P Y k
theorem p_arg_n {P : Nat → Bool} {Y : Nat → Nat} {k : Nat} (h : P k = true) (h2 : p_arg P Y k = none) : p_arg P Y (k + 1) = some k := by
  rw [p_arg, if_pos h, h2]
theorem p_arg_j {P : Nat → Bool} {Y : Nat → Nat} {k j : Nat} (h : P k = true) (h2 : p_arg P Y k = some j) : p_arg P Y (k + 1) = if Y k < Y j then some k else some j := by
  rw [p_arg, if_pos h, h2]
theorem p_arg_f {P : Nat → Bool} {Y : Nat → Nat} {k : Nat} (h : ¬ P k = true) : p_arg P Y (k + 1) = p_arg P Y k := by
  rw [p_arg, if_neg h]
def p_isarg (P : Nat → Bool) (Y : Nat → Nat) (k j : Nat) : Prop := j < k ∧ P j = true ∧ ∀ c, c < k → P c = true → (Y j < Y c ∨ (Y j = Y c ∧ j ≤ c))
theorem p_arg_t {P : Nat → Bool} {Y : Nat → Nat} : ∀ k, (p_arg P Y k = none ∧ ∀ c, c < k → ¬ P c = true) ∨ ∃ j, p_arg P Y k = some j ∧ p_isarg P Y k j := by
  intro k
  induction k with
  | zero => exact Or.inl ⟨rfl, fun c h => absurd h (by omega)⟩
  | succ k ih =>
    by_cases a : P k = true
    · rcases ih with ⟨h1, h2⟩ | ⟨j, h1, h2, h3, h4⟩
      · refine Or.inr ⟨k, p_arg_n a h1, by omega, a, fun c hc hP => ?_⟩
        by_cases b : c = k
        · subst b; exact Or.inr ⟨rfl, Nat.le_refl c⟩
        · exact absurd hP (h2 c (by omega))
      · by_cases b : Y k < Y j
        · refine Or.inr ⟨k, by rw [p_arg_j a h1, if_pos b], by omega, a, fun c hc hP => ?_⟩
          by_cases d : c = k
          · subst d; exact Or.inr ⟨rfl, Nat.le_refl c⟩
          · have := h4 c (by omega) hP; omega
        · refine Or.inr ⟨j, by rw [p_arg_j a h1, if_neg b], by omega, h3, fun c hc hP => ?_⟩
          by_cases d : c = k
          · subst d; omega
          · exact h4 c (by omega) hP
    · rcases ih with ⟨h1, h2⟩ | ⟨j, h1, h2, h3, h4⟩
      · refine Or.inl ⟨by rw [p_arg_f a, h1], fun c hc hP => ?_⟩
        by_cases b : c = k
        · subst b; exact a hP
        · exact h2 c (by omega) hP
      · refine Or.inr ⟨j, by rw [p_arg_f a, h1], by omega, h3, fun c hc hP => ?_⟩
        by_cases b : c = k
        · subst b; exact absurd hP a
        · exact h4 c (by omega) hP
theorem p_arg_u {P : Nat → Bool} {Y : Nat → Nat} {k j : Nat} (h : p_isarg P Y k j) : p_arg P Y k = some j := by
  obtain ⟨h1, h2, h3⟩ := h
  rcases p_arg_t (P := P) (Y := Y) k with ⟨q1, q2⟩ | ⟨j', q1, q2, q3, q4⟩
  · exact absurd h2 (q2 j h1)
  · have a := h3 j' q2 q3
    have b := q4 j h1 h2
    have : j' = j := by omega
    rw [q1, this]
def p_code (o : Option Nat) : Int32 := match o with | none => -4 | some j => nI j
/-- the class's scarcest county -/
theorem p_scarcest (N : Nat) (hN : 41 ≤ N) {A : Nat → Nat} {cl : Nat → Int32} (hA : ∀ h, h < 1000 → A h < 32 ∧ cl h = nI (31 - A h)) {h : Nat} (hh : h < 1000) {ah td : Nat → Int32} {Y D : Nat → Nat} (hY : ∀ c, c < 5 → Y c ≤ 1000 ∧ ah c = nI (Y c)) (hD : ∀ c, c < 5 → D c ≤ 600 ∧ td c = nI (D c)) :
    f_X7_scarcest N cl ah td (nI h) = some (p_code (p_arg (fun c => (A h).testBit c && decide (0 < D c)) Y 5)) := by
  unfold f_X7_scarcest
  obtain ⟨e, he⟩ : ∃ e : Nat, e = 5 := ⟨_, rfl⟩
  obtain ⟨z, hz⟩ : ∃ z : Nat, z = 0 := ⟨_, rfl⟩
  rw [show (0 : Int32) = nI z by rw [hz]; rfl]
  refine p_run (σ := Int32)
    (W := fun m i s => wk_loop (fun k5 : Int32 → Int32 → Int32 → Option Int32 => B_X7_scarcest_5 N cl ah td k5) (fun _ _ _ => none) m (nI h) s (nI i))
    (fun i s => s = p_code (p_arg (fun c => (A h).testBit c && decide (0 < D c)) Y i))
    (fun B => B = some (p_code (p_arg (fun c => (A h).testBit c && decide (0 < D c)) Y 5))) e ?_ ?_ e N z (-4) (by omega) (by omega) (by subst hz; rfl)
  · intro m i s hi hI
    have g1 : ¬ (5 : Int32) ≤ nI i := nI_ge (b := 5) (by omega) (by omega)
    obtain ⟨d1, d2⟩ := hD i (by omega)
    have z0 : ∀ k5 : Int32 → Int32 → Int32 → Option Int32, B_X7_scarcest_35 N cl ah td k5 (nI h) s (nI i) 0 = k5 (nI h) s (nI (i + 1)) := fun k5 => by
      rw [B_X7_scarcest_35, if_pos rfl, p_nm, nI_1]
    cases hb : (A h).testBit i with
    | false =>
      refine ⟨s, ?_, by rw [p_arg_f (by rw [hb, Bool.false_and]; decide), hI]⟩
      show B_X7_scarcest_5 N cl ah td _ (nI h) s (nI i) = _
      rw [B_X7_scarcest_5, if_neg g1, p_isOpen N hA (by omega) hh, p_b1, hb, if_pos (show wk_bI false = 0 from rfl), z0]
    | true =>
      by_cases a : 0 < D i
      · have hP : ((A h).testBit i && decide (0 < D i)) = true := by rw [hb, decide_eq_true a]; rfl
        have e5 : ∀ k5 : Int32 → Int32 → Int32 → Option Int32, B_X7_scarcest_5 N cl ah td k5 (nI h) s (nI i) = B_X7_scarcest_35 N cl ah td k5 (nI h) s (nI i) 1 := fun k5 => by
          rw [B_X7_scarcest_5, if_neg g1, p_isOpen N hA (by omega) hh, p_b1, hb, if_neg (show ¬ wk_bI true = 0 by decide), p_get (by omega) (by omega), p_b1, d2, if_neg (nI_nle a (by omega))]
        rcases p_arg_t (P := fun c => (A h).testBit c && decide (0 < D c)) (Y := Y) i with ⟨q1, q2⟩ | ⟨j, q1, q2, q3, q4⟩
        · rw [q1] at hI
          refine ⟨nI i, ?_, by rw [p_arg_n hP q1]; rfl⟩
          show B_X7_scarcest_5 N cl ah td _ (nI h) s (nI i) = _
          rw [e5, B_X7_scarcest_35, if_neg (by decide), if_pos (show s = -4 from hI), p_nm, nI_1]
        · rw [q1] at hI
          have hs : s = nI j := hI
          obtain ⟨y1, y2⟩ := hY i (by omega)
          obtain ⟨y3, y4⟩ := hY j (by omega)
          have n4 : ¬ s = (-4 : Int32) := fun q => by
            rw [hs] at q
            have := congrArg Int32.toInt q
            rw [nI_toInt (by omega), show (-4 : Int32).toInt = -4 from rfl] at this
            omega
          refine ⟨if Y i < Y j then nI i else nI j, ?_, ?_⟩
          · show B_X7_scarcest_5 N cl ah td _ (nI h) s (nI i) = _
            rw [e5, B_X7_scarcest_35, if_neg (by decide), if_neg n4, p_get (by omega) (by omega), p_b1, hs, p_get (by omega) (by omega), p_b1, y2, y4]
            by_cases b : Y i < Y j
            · rw [if_neg (nI_ge b (by omega)), if_pos b, p_nm, nI_1]
            · rw [if_pos (nI_le (by omega) (by omega)), if_neg b, p_nm, nI_1]
          · rw [p_arg_j hP q1]
            by_cases b : Y i < Y j
            · rw [if_pos b, if_pos b]; rfl
            · rw [if_neg b, if_neg b]; rfl
      · refine ⟨s, ?_, by rw [p_arg_f (by rw [decide_eq_false a, Bool.and_false]; decide), hI]⟩
        show B_X7_scarcest_5 N cl ah td _ (nI h) s (nI i) = _
        rw [B_X7_scarcest_5, if_neg g1, p_isOpen N hA (by omega) hh, p_b1, hb, if_neg (show ¬ wk_bI true = 0 by decide), p_get (by omega) (by omega), p_b1, d2, if_pos (show nI (D i) ≤ 0 by rw [show D i = 0 by omega]; decide), z0]
  · intro m s hI
    rw [he] at hI
    show B_X7_scarcest_5 N cl ah td _ (nI h) s (nI e) = _
    rw [B_X7_scarcest_5, if_pos (show (5 : Int32) ≤ nI e by rw [he]; decide), hI]
/-- the check's next county -/
theorem p_next11 (N : Nat) (hN : 41 ≤ N) (it : Int32) (hp uh ul ur us uv uw : Nat → Int32) {l : Nat} (hl : l < 32) {put rest yet : Nat → Int32} {Y : Nat → Nat} (hY : ∀ c, c < 5 → Y c ≤ 1000 ∧ yet c = nI (Y c)) (k110 : (Nat → Int32) → (Nat → Int32) → (Nat → Int32) → Int32 → Int32 → Int32 → Option ((Nat → Int32) × (Nat → Int32) × (Nat → Int32))) (k155 : (Nat → Int32) → (Nat → Int32) → (Nat → Int32) → Int32 → Int32 → Int32 → Int32 → Int32 → Int32 → Option ((Nat → Int32) × (Nat → Int32) × (Nat → Int32))) (x3 x4 x5 x6 x7 : Int32) {j : Nat} (hj : p_arg (fun c => l.testBit c) Y 5 = some j) :
    ∃ m, wk_loop (fun k167 : (Nat → Int32) → (Nat → Int32) → (Nat → Int32) → Int32 → Int32 → Int32 → Int32 → Int32 → Int32 → Int32 → Int32 → Option ((Nat → Int32) × (Nat → Int32) × (Nat → Int32)) => B_X11_tables_167 N it hp uh ul ur us uv uw k110 k155 k167) (fun _ _ _ _ _ _ _ _ _ _ _ => none) N put rest yet x3 x4 x5 x6 x7 (nI l) (-4 : Int32) (0 : Int32) = B_X11_tables_167 N it hp uh ul ur us uv uw k110 k155 (wk_loop (fun k167 : (Nat → Int32) → (Nat → Int32) → (Nat → Int32) → Int32 → Int32 → Int32 → Int32 → Int32 → Int32 → Int32 → Int32 → Option ((Nat → Int32) × (Nat → Int32) × (Nat → Int32)) => B_X11_tables_167 N it hp uh ul ur us uv uw k110 k155 k167) (fun _ _ _ _ _ _ _ _ _ _ _ => none) m) put rest yet x3 x4 x5 x6 x7 (nI l) (nI j) (nI 5) := by
  obtain ⟨e, he⟩ : ∃ e : Nat, e = 5 := ⟨_, rfl⟩
  obtain ⟨z, hz⟩ : ∃ z : Nat, z = 0 := ⟨_, rfl⟩
  rw [show (0 : Int32) = nI z by rw [hz]; rfl, ← he]
  refine p_run (σ := Int32)
    (W := fun m i s => wk_loop (fun k167 : (Nat → Int32) → (Nat → Int32) → (Nat → Int32) → Int32 → Int32 → Int32 → Int32 → Int32 → Int32 → Int32 → Int32 → Option ((Nat → Int32) × (Nat → Int32) × (Nat → Int32)) => B_X11_tables_167 N it hp uh ul ur us uv uw k110 k155 k167) (fun _ _ _ _ _ _ _ _ _ _ _ => none) m put rest yet x3 x4 x5 x6 x7 (nI l) s (nI i))
    (fun i s => s = p_code (p_arg (fun c => l.testBit c) Y i))
    (fun B => ∃ m, B = B_X11_tables_167 N it hp uh ul ur us uv uw k110 k155 (wk_loop (fun k167 : (Nat → Int32) → (Nat → Int32) → (Nat → Int32) → Int32 → Int32 → Int32 → Int32 → Int32 → Int32 → Int32 → Int32 → Option ((Nat → Int32) × (Nat → Int32) × (Nat → Int32)) => B_X11_tables_167 N it hp uh ul ur us uv uw k110 k155 k167) (fun _ _ _ _ _ _ _ _ _ _ _ => none) m) put rest yet x3 x4 x5 x6 x7 (nI l) (nI j) (nI e)) e ?_ ?_ e N z (-4) (by omega) (by omega) (by subst hz; rfl)
  · intro m i s hi hI
    have g1 : ¬ (5 : Int32) ≤ nI i := nI_ge (b := 5) (by omega) (by omega)
    cases hb : l.testBit i with
    | false =>
      refine ⟨s, ?_, by rw [p_arg_f (by rw [hb]; decide), hI]⟩
      show B_X11_tables_167 N it hp uh ul ur us uv uw k110 k155 _ put rest yet x3 x4 x5 x6 x7 (nI l) s (nI i) = _
      rw [B_X11_tables_167, if_neg g1, p_has11 N (by omega) (by omega), p_b1, hb, if_pos (show wk_bI false = 0 from rfl), p_nm, nI_1]
    | true =>
      rcases p_arg_t (P := fun c => l.testBit c) (Y := Y) i with ⟨q1, q2⟩ | ⟨j', q1, q2, q3, q4⟩
      · rw [q1] at hI
        refine ⟨nI i, ?_, by rw [p_arg_n hb q1]; rfl⟩
        show B_X11_tables_167 N it hp uh ul ur us uv uw k110 k155 _ put rest yet x3 x4 x5 x6 x7 (nI l) s (nI i) = _
        rw [B_X11_tables_167, if_neg g1, p_has11 N (by omega) (by omega), p_b1, hb, if_neg (show ¬ wk_bI true = 0 by decide), if_pos (show s < 0 by rw [hI]; decide), p_nm, nI_1]
      · rw [q1] at hI
        have hs : s = nI j' := hI
        obtain ⟨y1, y2⟩ := hY i (by omega)
        obtain ⟨y3, y4⟩ := hY j' (by omega)
        refine ⟨if Y i < Y j' then nI i else nI j', ?_, ?_⟩
        · show B_X11_tables_167 N it hp uh ul ur us uv uw k110 k155 _ put rest yet x3 x4 x5 x6 x7 (nI l) s (nI i) = _
          rw [B_X11_tables_167, if_neg g1, p_has11 N (by omega) (by omega), p_b1, hb, if_neg (show ¬ wk_bI true = 0 by decide), hs, if_neg (nI_pos (by omega)), p_ck (by omega) (by omega), p_ck (by omega) (by omega), nI_clamp (by omega), nI_clamp (by omega), y2, y4]
          by_cases b : Y i < Y j'
          · rw [if_neg (nI_ge b (by omega)), if_pos b, p_nm, nI_1]
          · rw [if_pos (nI_le (by omega) (by omega)), if_neg b, p_nm, nI_1]
        · rw [p_arg_j hb q1]
          by_cases b : Y i < Y j'
          · rw [if_pos b, if_pos b]; rfl
          · rw [if_neg b, if_neg b]; rfl
  · intro m s hI
    rw [he, hj] at hI
    refine ⟨m, ?_⟩
    show B_X11_tables_167 N it hp uh ul ur us uv uw k110 k155 _ put rest yet x3 x4 x5 x6 x7 (nI l) s (nI e) = _
    rw [hI]
    rfl
