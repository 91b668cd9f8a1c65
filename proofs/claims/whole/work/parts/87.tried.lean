/-! PURE: all mixtures tried -/
theorem p_b7' {a1 a2 a3 a4 a5 a6 a7 δ : Type} (a : a1) (b : a2) (c : a3) (d : a4) (e : a5) (f : a6) (g : a7) (k : a1 → a2 → a3 → a4 → a5 → a6 → a7 → Option δ) : wk_b7 (some (a, b, c, d, e, f, g)) k = k a b c d e f g := rfl
/-- the class tries all -/
theorem p_try (N : Nat) (hN : 121 ≤ N) {ct : Nat → Int32} {vt : Nat → Nat → Int32} {n : Nat} (hn : n ≤ 40) (hT : ∀ d h, p_T ct vt n d h ≤ 40) {vo : Nat → Int32} (hV : RVotes ct vt n vo) {fv base rules : Nat} (hfv : fv < 4) (hb : base ≤ 5) (hr : rules < 32) {std : Int32} (hstd : (base = 0 ∧ std = -4) ∨ (base ≠ 0 ∧ f_X0_winnerBy N vo (nI base) = some std)) (b0 f0 s0 w0 l0 e0 : Int32) (ch0 : Nat → Int32) :
    ∃ (C : Nat → Nat) (w' ld' fw' : Int32) (ch' : Nat → Int32), (∀ c, c < 5 → RChoice ct vt n base rules c (C c)) ∧ f_X0_tryAll N vo b0 f0 s0 w0 l0 e0 ch0 (nI base) (nI rules) (nI fv) = some (nI base, nI fv, std, w', ld', fw', ch') ∧ RMx (p_T ct vt n) (fun d => p_ext C 0 (fun _ => 0) d) fv base std w' ld' fw' := by
  obtain ⟨z, hz⟩ : ∃ z : Nat, z = 0 := ⟨_, rfl⟩
  obtain ⟨e, he⟩ : ∃ e : Nat, e = 5 := ⟨_, rfl⟩
  have hCc : ∀ c : Nat, ∃ s : Nat, c < 5 → f_X0_unlikeChoices N (nI base) vo (nI c) (nI rules) = some (nI s) ∧ RChoice ct vt n base rules c s := by
    intro c
    by_cases a : c < 5
    · obtain ⟨s, h1, h2⟩ := p_unlike5 N hN hn hV hb hr a
      exact ⟨s, fun _ => ⟨h1, h2⟩⟩
    · exact ⟨0, fun q => absurd q a⟩
  obtain ⟨C, hC⟩ : ∃ C : Nat → Nat, ∀ c, c < 5 → f_X0_unlikeChoices N (nI base) vo (nI c) (nI rules) = some (nI (C c)) ∧ RChoice ct vt n base rules c (C c) := ⟨fun c => Classical.choose (hCc c), fun c hc => Classical.choose_spec (hCc c) hc⟩
  have main : ∃ (w' ld' fw' : Int32) (ch' : Nat → Int32), B_X0_tryAll_20 N vo (nI base) f0 s0 w0 l0 e0 ch0 (nI rules) (nI fv) std = some (nI base, nI fv, std, w', ld', fw', ch') ∧ RMx (p_T ct vt n) (fun d => p_ext C 0 (fun _ => 0) d) fv base std w' ld' fw' := by
    rw [B_X0_tryAll_20]
    rw [show wk_loop (fun k49 : Int32 → Int32 → Int32 → Int32 → Int32 → Int32 → (Nat → Int32) → Int32 → Int32 → Option (Int32 × Int32 × Int32 × Int32 × Int32 × Int32 × (Nat → Int32)) => B_X0_tryAll_49 N vo k49) (fun _ _ _ _ _ _ _ _ _ => none) N (nI base) (nI fv) std (0 : Int32) (-1000 : Int32) (-4 : Int32) ch0 (nI rules) (0 : Int32) = wk_loop (fun k49 : Int32 → Int32 → Int32 → Int32 → Int32 → Int32 → (Nat → Int32) → Int32 → Int32 → Option (Int32 × Int32 × Int32 × Int32 × Int32 × Int32 × (Nat → Int32)) => B_X0_tryAll_49 N vo k49) (fun _ _ _ _ _ _ _ _ _ => none) N (nI base) (nI fv) std (0 : Int32) (-1000 : Int32) (-4 : Int32) ch0 (nI rules) (nI z) by rw [hz]; rfl]
    refine p_run (σ := Nat → Int32)
      (W := fun m i s => wk_loop (fun k49 : Int32 → Int32 → Int32 → Int32 → Int32 → Int32 → (Nat → Int32) → Int32 → Int32 → Option (Int32 × Int32 × Int32 × Int32 × Int32 × Int32 × (Nat → Int32)) => B_X0_tryAll_49 N vo k49) (fun _ _ _ _ _ _ _ _ _ => none) m (nI base) (nI fv) std (0 : Int32) (-1000 : Int32) (-4 : Int32) s (nI rules) (nI i))
      (fun i s => ∀ c, c < i → s c = nI (C c))
      (fun A => ∃ (w' ld' fw' : Int32) (ch' : Nat → Int32), A = some (nI base, nI fv, std, w', ld', fw', ch') ∧ RMx (p_T ct vt n) (fun d => p_ext C 0 (fun _ => 0) d) fv base std w' ld' fw') e ?_ ?_ e N z ch0 (by omega) (by omega) (fun c hc => absurd hc (by omega))
    · intro m i s hi hI
      refine ⟨upd s i (nI (C i)), ?_, fun c hc => ?_⟩
      · show B_X0_tryAll_49 N vo _ (nI base) (nI fv) std 0 (-1000) (-4) s (nI rules) (nI i) = _
        rw [B_X0_tryAll_49, if_neg (show ¬ (5 : Int32) ≤ nI i from nI_ge (b := 5) (by omega) (by omega)), (hC i (by omega)).1, p_b1, p_set (by omega) (by omega), p_b1, p_nm, nI_1]
      · by_cases d : c = i
        · subst d; exact pk_us
        · rw [pk_un d]; exact hI c (by omega)
    · intro m s hI
      have hR0 : RMx (p_T ct vt n) (fun _ => False) fv base std 0 (-1000) (-4) := ⟨⟨0, by omega, rfl, fun h _ => by rw [Nat.zero_testBit]; exact ⟨fun q => (by cases q), fun ⟨d, q, _⟩ => q.elim⟩⟩, Or.inl ⟨rfl, fun d q => q⟩, Or.inl ⟨rfl, fun d q => q.elim⟩⟩
      obtain ⟨w', ld', fw', e1, hR⟩ := p_mix N hN hT hV (ch := s) (C := C) (fun c hc => ⟨(hC c hc).2.1, hI c (by omega)⟩) hfv hb std 5 0 6 (fun _ => 0) (fun _ => False) 0 (-1000) (-4) rfl (by omega) hR0
      refine ⟨w', ld', fw', s, ?_, hR.of (fun d => ⟨fun q => q.resolve_left (fun w => w), Or.inr⟩)⟩
      show B_X0_tryAll_49 N vo _ (nI base) (nI fv) std 0 (-1000) (-4) s (nI rules) (nI e) = _
      have e2 : f_X0_mix N 6 (nI base) (nI fv) std s vo 0 (-1000) (-4) 0 0 0 = some (w', ld', fw') := e1
      rw [B_X0_tryAll_49, if_pos (show (5 : Int32) ≤ nI e by rw [he]; decide), e2, p_b3]
  obtain ⟨w', ld', fw', ch', e1, hR⟩ := main
  refine ⟨C, w', ld', fw', ch', fun c hc => (hC c hc).2, ?_, hR⟩
  unfold f_X0_tryAll
  rcases hstd with ⟨q1, q2⟩ | ⟨q1, q2⟩
  · rw [if_pos (show nI base = 0 by rw [q1]; rfl), ← q2, e1]
  · rw [if_neg (nI_ne0 (by omega) (by omega)), q2, p_b1, e1]
/-! one mixture more, as the check adds it -/
theorem p_str_c {c c' : Nat → Nat} (h : ∀ g, g < 4 → c g = c' g) {i : Nat} (hi : i < 4) : p_str c i 4 ↔ p_str c' i 4 := by
  unfold p_str
  rw [h i hi]
  constructor
  · rintro ⟨a, b⟩; exact ⟨a, fun g hg hne => by rw [← h g hg]; exact b g hg hne⟩
  · rintro ⟨a, b⟩; exact ⟨a, fun g hg hne => by rw [h g hg]; exact b g hg hne⟩
theorem p_ldI_c {c c' : Nat → Nat} (h : ∀ g, g < 4 → c g = c' g) {i : Nat} (hi : i < 4) : p_ldI c i = p_ldI c' i := by
  have : ∀ k, k ≤ 4 → p_mx c i k = p_mx c' i k := by
    intro k
    induction k with
    | zero => intro _; rfl
    | succ k ih => intro hk; rw [p_mx_s, p_mx_s, ih (by omega), h k (by omega)]
  unfold p_ldI
  rw [this 4 (by omega), h i hi]
theorem p_RW_u {T : (Nat → Nat) → Nat → Nat} {V V' : (Nat → Nat) → Prop} {w w' : Int32} (h1 : RMw T V w) (h2 : RMw T V' w') (h : ∀ h, h < 4 → ((∃ d, V d ∧ p_str (T d) h 4) ↔ ∃ d, V' d ∧ p_str (T d) h 4)) : w = w' := by
  obtain ⟨b, hb, rfl, q⟩ := h1
  obtain ⟨b', hb', rfl, q'⟩ := h2
  have : b = b' := by
    apply Nat.eq_of_testBit_eq
    intro i
    by_cases a : i < 4
    · have := (q i a).trans ((h i a).trans (q' i a).symm)
      cases x : b.testBit i <;> cases y : b'.testBit i
      · rfl
      · rw [x, y] at this; exact absurd (this.mpr rfl) (by decide)
      · rw [x, y] at this; exact absurd (this.mp rfl) (by decide)
      · rfl
    · have hp : 2 ^ 4 ≤ 2 ^ i := Nat.pow_le_pow_right (by omega) (by omega)
      rw [Nat.testBit_lt_two_pow (Nat.lt_of_lt_of_le hb hp), Nat.testBit_lt_two_pow (Nat.lt_of_lt_of_le hb' hp)]
  rw [this]
theorem p_RL_u {T : (Nat → Nat) → Nat → Nat} {V V' : (Nat → Nat) → Prop} {h : Nat} {l l' : Int32} (h1 : RMl T V h l) (h2 : RMl T V' h l') (hne : ∃ d, V d) (ha : ∀ d, V d → ∃ d', V' d' ∧ p_ldI (T d) h = p_ldI (T d') h) (hb : ∀ d, V' d → ∃ d', V d' ∧ p_ldI (T d) h = p_ldI (T d') h) : l = l' := by
  obtain ⟨d0, hd0⟩ := hne
  obtain ⟨d0', hd0', -⟩ := ha d0 hd0
  rcases h1 with ⟨-, q⟩ | ⟨⟨d, q1, q2⟩, q3⟩
  · exact absurd hd0 (q d0)
  · rcases h2 with ⟨-, r⟩ | ⟨⟨d', r1, r2⟩, r3⟩
    · exact absurd hd0' (r d0')
    · apply Int32.toInt_inj.mp
      obtain ⟨x, x1, x2⟩ := ha d q1
      obtain ⟨y, y1, y2⟩ := hb d' r1
      have := r3 x x1
      have := q3 y y1
      omega
theorem p_RW_add {T : (Nat → Nat) → Nat → Nat} (hTc : ∀ d d', (∀ c, c < 5 → d c = d' c) → T d = T d') {V : (Nat → Nat) → Prop} {w : Int32} (hR : RMw T V w) (d0 : Nat → Nat) {v : Int32} (hv : p_isw (T d0) v) :
    ∃ w', RMw T (fun d => V d ∨ ∀ c, c < 5 → d c = d0 c) w' ∧ (v = -4 → w ||| (0 : Int32) = w') ∧ ∀ h, h < 4 → v = nI h → w ||| ((1 : Int32) <<< (nI h &&& 31)) = w' := by
  obtain ⟨b, hb, rfl, hW⟩ := hR
  rcases hv with ⟨h0, hh0, rfl, hs0⟩ | ⟨rfl, hn0⟩
  · obtain ⟨b', hb', eb, hbt⟩ := p_or4 h0 hh0 b hb
    refine ⟨nI b', ⟨b', hb', rfl, fun h hh => ?_⟩, fun q => absurd q (p_n44 h0 hh0), fun h hh q => ?_⟩
    · rw [hbt h hh, Bool.or_eq_true, hW h hh, decide_eq_true_iff]
      constructor
      · rintro (⟨d, q1, q2⟩ | rfl)
        · exact ⟨d, Or.inl q1, q2⟩
        · exact ⟨d0, Or.inr (fun _ _ => rfl), hs0⟩
      · rintro ⟨d, q1 | q1, q2⟩
        · exact Or.inl ⟨d, q1, q2⟩
        · rw [hTc d d0 q1] at q2; exact Or.inr (p_str_u hh hh0 q2 hs0)
    · rw [← q, eb]
  · refine ⟨nI b, ⟨b, hb, rfl, fun h hh => ?_⟩, fun _ => p_or0 b hb, fun h hh q => absurd q.symm (p_n44 h hh)⟩
    rw [hW h hh]
    constructor
    · rintro ⟨d, q1, q2⟩; exact ⟨d, Or.inl q1, q2⟩
    · rintro ⟨d, q1 | q1, q2⟩
      · exact ⟨d, q1, q2⟩
      · rw [hTc d d0 q1] at q2; exact absurd q2 (hn0 h hh)
theorem p_RL_add {T : (Nat → Nat) → Nat → Nat} (hT : ∀ d h, T d h ≤ 40) (hTc : ∀ d d', (∀ c, c < 5 → d c = d' c) → T d = T d') {V : (Nat → Nat) → Prop} {h : Nat} {ld r1 : Int32} (hL : RMl T V h ld) (d0 : Nat → Nat) (hr1 : r1.toInt = p_ldI (T d0) h) :
    RMl T (fun d => V d ∨ ∀ c, c < 5 → d c = d0 c) h (if r1 ≤ ld then ld else r1) := by
  have hT0 := hT d0 h
  have hm0 := p_mx_le (c := T d0) (hT d0) h 4
  have hnew : V d0 ∨ ∀ c, c < 5 → d0 c = d0 c := Or.inr (fun _ _ => rfl)
  right
  rcases hL with ⟨rfl, hn⟩ | ⟨⟨d, hd, hd2⟩, hmax⟩
  · rw [if_neg (by rw [p_toInt_le, hr1, show (-1000 : Int32).toInt = -1000 from rfl]; unfold p_ldI; omega)]
    refine ⟨⟨d0, hnew, hr1⟩, fun d hd => ?_⟩
    rcases hd with hd | hd
    · exact absurd hd (hn d)
    · rw [hTc d d0 hd, hr1]; exact Int.le_refl _
  · by_cases a : r1 ≤ ld
    · rw [if_pos a]
      rw [p_toInt_le] at a
      refine ⟨⟨d, Or.inl hd, hd2⟩, fun d' hd' => ?_⟩
      rcases hd' with hd' | hd'
      · exact hmax d' hd'
      · rw [hTc d' d0 hd', ← hr1]; omega
    · rw [if_neg a]
      rw [p_toInt_le] at a
      refine ⟨⟨d0, hnew, hr1⟩, fun d' hd' => ?_⟩
      rcases hd' with hd' | hd'
      · have := hmax d' hd'; omega
      · rw [hTc d' d0 hd', hr1]; exact Int.le_refl _
/-! the check's mixtures -/
theorem p_dg_lt (m c : Nat) : p_dg m c ≤ 7 := by unfold p_dg; omega
/-- the counties of a set by rules of a set, the others by one -/
def p_of5 (m rules cs other : Nat) : Prop := ∀ c, c < 5 → (cs.testBit c = true → p_inR rules (p_dg m c)) ∧ (cs.testBit c = false → p_dg m c = other)
theorem p_isOf11 (N : Nat) (hN : 41 ≤ N) {m rules cs other : Nat} (hm : m < 2 ^ 31) (hr : rules < 32) (hcs : cs < 32) (ho : other ≤ 7) : ∃ b : Bool, f_X11_isOf N (nI m) (nI rules) (nI cs) (nI other) = some b ∧ (b = true ↔ p_of5 m rules cs other) := by
  unfold f_X11_isOf
  obtain ⟨z, hz⟩ : ∃ z : Nat, z = 0 := ⟨_, rfl⟩
  obtain ⟨e, he⟩ : ∃ e : Nat, e = 5 := ⟨_, rfl⟩
  have fd : ¬ wk_bI true = 0 := by decide
  have fe : wk_bI false = 0 := rfl
  rw [show wk_loop (fun k6 : Int32 → Int32 → Int32 → Int32 → Int32 → Int32 → Option Bool => B_X11_isOf_6 N k6) (fun _ _ _ _ _ _ => none) N (nI m) (nI rules) (nI cs) (nI other) (1 : Int32) (0 : Int32) = wk_loop (fun k6 : Int32 → Int32 → Int32 → Int32 → Int32 → Int32 → Option Bool => B_X11_isOf_6 N k6) (fun _ _ _ _ _ _ => none) N (nI m) (nI rules) (nI cs) (nI other) (wk_bI true) (nI z) by rw [hz]; rfl]
  refine p_run (σ := Bool)
    (W := fun q c s => wk_loop (fun k6 : Int32 → Int32 → Int32 → Int32 → Int32 → Int32 → Option Bool => B_X11_isOf_6 N k6) (fun _ _ _ _ _ _ => none) q (nI m) (nI rules) (nI cs) (nI other) (wk_bI s) (nI c))
    (fun i s => s = true ↔ ∀ c, c < i → (cs.testBit c = true → p_inR rules (p_dg m c)) ∧ (cs.testBit c = false → p_dg m c = other))
    (fun A => ∃ b : Bool, A = some b ∧ (b = true ↔ p_of5 m rules cs other)) e ?_ ?_ e N z true (by omega) (by omega) ⟨fun _ c hc => absurd hc (by omega), fun _ => rfl⟩
  · intro q i s hi hI
    have g : ¬ (5 : Int32) ≤ nI i := nI_ge (b := 5) (by omega) (by omega)
    have hdl := p_dg_lt m i
    have next : ∀ s' : Bool, (s' = true ↔ (s = true ∧ (cs.testBit i = true → p_inR rules (p_dg m i)) ∧ (cs.testBit i = false → p_dg m i = other))) → (s' = true ↔ ∀ c, c < i + 1 → (cs.testBit c = true → p_inR rules (p_dg m c)) ∧ (cs.testBit c = false → p_dg m c = other)) := by
      intro s' hs'
      rw [hs', hI]
      constructor
      · rintro ⟨a1, a2⟩ c hc
        by_cases d : c = i
        · subst d; exact a2
        · exact a1 c (by omega)
      · intro a
        exact ⟨fun c hc => a c (by omega), a i (by omega)⟩
    have e0 : ∀ k6 : Int32 → Int32 → Int32 → Int32 → Int32 → Int32 → Option Bool, B_X11_isOf_6 N k6 (nI m) (nI rules) (nI cs) (nI other) (wk_bI s) (nI i) = B_X11_isOf_6 N k6 (nI m) (nI rules) (nI cs) (nI other) (wk_bI s) (nI i) := fun _ => rfl
    cases s with
    | false =>
      refine ⟨false, ?_, next false ⟨fun w => (by cases w), fun w => (by cases w.1)⟩⟩
      show B_X11_isOf_6 N _ (nI m) (nI rules) (nI cs) (nI other) (wk_bI false) (nI i) = _
      rw [B_X11_isOf_6, if_neg g, p_dig hm (by omega), p_nm, if_pos fe, p_nm, nI_1]
      rfl
    | true =>
      cases hb : cs.testBit i with
      | false =>
        by_cases a : p_dg m i = other
        · refine ⟨true, ?_, next true ⟨fun _ => ⟨rfl, fun w => (by rw [hb] at w; cases w), fun _ => a⟩, fun _ => rfl⟩⟩
          show B_X11_isOf_6 N _ (nI m) (nI rules) (nI cs) (nI other) (wk_bI true) (nI i) = _
          rw [B_X11_isOf_6, if_neg g, p_dig hm (by omega), p_nm, if_neg fd, p_has11 N (by omega) (by omega), p_b1, hb, if_pos fe, if_pos (by rw [a]), p_nm, nI_1]
          rfl
        · refine ⟨false, ?_, next false ⟨fun w => (by cases w), fun w => absurd (w.2.2 hb) a⟩⟩
          show B_X11_isOf_6 N _ (nI m) (nI rules) (nI cs) (nI other) (wk_bI true) (nI i) = _
          rw [B_X11_isOf_6, if_neg g, p_dig hm (by omega), p_nm, if_neg fd, p_has11 N (by omega) (by omega), p_b1, hb, if_pos fe, if_neg (fun w => a ((nI_eq (by omega) (by omega)).mp w)), p_nm, nI_1]
          rfl
      | true =>
        by_cases a : 1 ≤ p_dg m i ∧ p_dg m i ≤ 5
        · have esub : nI (p_dg m i) - (1 : Int32) = nI (p_dg m i - 1) := by rw [show (1 : Int32) = nI 1 from rfl, pk_sub a.1]
          cases hr2 : rules.testBit (p_dg m i - 1) with
          | true =>
            refine ⟨true, ?_, next true ⟨fun _ => ⟨rfl, fun _ => ⟨a.1, a.2, hr2⟩, fun w => (by rw [hb] at w; cases w)⟩, fun _ => rfl⟩⟩
            show B_X11_isOf_6 N _ (nI m) (nI rules) (nI cs) (nI other) (wk_bI true) (nI i) = _
            rw [B_X11_isOf_6, if_neg g, p_dig hm (by omega), p_nm, if_neg fd, p_has11 N (by omega) (by omega), p_b1, hb, if_neg fd, p_inI, p_b1, nI_toInt (by omega), show (1 : Int64).toInt = 1 from rfl, show (5 : Int64).toInt = 5 from rfl, decide_eq_true (by omega), if_neg fd, esub, p_has11 N (by omega) (by omega), p_b1, hr2, if_neg fd, p_nm, nI_1]
            rfl
          | false =>
            refine ⟨false, ?_, next false ⟨fun w => (by cases w), fun w => (by have := (w.2.1 hb).2.2; rw [hr2] at this; cases this)⟩⟩
            show B_X11_isOf_6 N _ (nI m) (nI rules) (nI cs) (nI other) (wk_bI true) (nI i) = _
            rw [B_X11_isOf_6, if_neg g, p_dig hm (by omega), p_nm, if_neg fd, p_has11 N (by omega) (by omega), p_b1, hb, if_neg fd, p_inI, p_b1, nI_toInt (by omega), show (1 : Int64).toInt = 1 from rfl, show (5 : Int64).toInt = 5 from rfl, decide_eq_true (by omega), if_neg fd, esub, p_has11 N (by omega) (by omega), p_b1, hr2, if_pos fe, p_nm, nI_1]
            rfl
        · refine ⟨false, ?_, next false ⟨fun w => (by cases w), fun w => absurd ⟨(w.2.1 hb).1, (w.2.1 hb).2.1⟩ a⟩⟩
          show B_X11_isOf_6 N _ (nI m) (nI rules) (nI cs) (nI other) (wk_bI true) (nI i) = _
          rw [B_X11_isOf_6, if_neg g, p_dig hm (by omega), p_nm, if_neg fd, p_has11 N (by omega) (by omega), p_b1, hb, if_neg fd, p_inI, p_b1, nI_toInt (by omega), show (1 : Int64).toInt = 1 from rfl, show (5 : Int64).toInt = 5 from rfl, decide_eq_false (by omega), if_pos fe, p_nm, nI_1]
          rfl
  · intro q s hI
    rw [he] at hI
    refine ⟨s, ?_, hI⟩
    show B_X11_isOf_6 N _ (nI m) (nI rules) (nI cs) (nI other) (wk_bI s) (nI e) = _
    rw [B_X11_isOf_6, if_pos (show (5 : Int32) ≤ nI e by rw [he]; decide)]
    cases s <;> rfl
def p_enc (d : Nat → Nat) : Nat := d 0 + 8 * d 1 + 64 * d 2 + 512 * d 3 + 4096 * d 4
theorem p_enc_lt {d : Nat → Nat} (h : ∀ c, c < 5 → d c ≤ 7) : p_enc d < 32768 := by
  have a0 := h 0 (by omega)
  have a1 := h 1 (by omega)
  have a2 := h 2 (by omega)
  have a3 := h 3 (by omega)
  have a4 := h 4 (by omega)
  unfold p_enc
  omega
theorem p_enc_dg {d : Nat → Nat} (h : ∀ c, c < 5 → d c ≤ 7) : ∀ c, c < 5 → p_dg (p_enc d) c = d c := by
  have a0 := h 0 (by omega)
  have a1 := h 1 (by omega)
  have a2 := h 2 (by omega)
  have a3 := h 3 (by omega)
  have a4 := h 4 (by omega)
  intro c hc
  rcases (show c = 0 ∨ c = 1 ∨ c = 2 ∨ c = 3 ∨ c = 4 by omega) with rfl | rfl | rfl | rfl | rfl
  · show (d 0 + 8 * d 1 + 64 * d 2 + 512 * d 3 + 4096 * d 4) / 1 % 8 = d 0; omega
  · show (d 0 + 8 * d 1 + 64 * d 2 + 512 * d 3 + 4096 * d 4) / 8 % 8 = d 1; omega
  · show (d 0 + 8 * d 1 + 64 * d 2 + 512 * d 3 + 4096 * d 4) / 64 % 8 = d 2; omega
  · show (d 0 + 8 * d 1 + 64 * d 2 + 512 * d 3 + 4096 * d 4) / 512 % 8 = d 3; omega
  · show (d 0 + 8 * d 1 + 64 * d 2 + 512 * d 3 + 4096 * d 4) / 4096 % 8 = d 4; omega
