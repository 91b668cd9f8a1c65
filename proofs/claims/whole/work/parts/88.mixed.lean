/-! PURE: mixed -/
theorem p_isRuleSet (N : Nat) (x : Int32) : f_X10_isRuleSet N x = some (decide (1 ≤ x.toInt ∧ x.toInt ≤ 31)) := by
  unfold f_X10_isRuleSet
  by_cases a : x.toInt < 1
  · rw [if_pos (by rw [p_toInt_lt]; exact a), decide_eq_false (by omega)]
  · rw [if_neg (by rw [p_toInt_lt]; exact a)]
    by_cases b : 32 ≤ x.toInt
    · rw [if_pos (by rw [p_toInt_le]; exact b), decide_eq_false (by omega)]
    · rw [if_neg (by rw [p_toInt_le]; exact b), decide_eq_true (by omega)]
/-- the check's lead of one -/
theorem p_by (N : Nat) (hN : 41 ≤ N) (cd ct hs : Nat → Int32) (k58 : (Nat → Int32) → (Nat → Int32) → Int32 → Int32 → Int32 → Int32 → Int32 → Option (Int32 × (Nat → Int32) × (Nat → Int32))) (o : Nat → Int32) {s : Nat → Int32} {T : Nat → Nat} (hT : ∀ g, T g ≤ 40) (hs2 : ∀ g, g < 4 → s g = nI (T g)) (x2 x4 x5 x6 : Int32) {x3 : Int32} (h3 : x3 = -1 ∨ ∃ h, h < 4 ∧ x3 = nI h) :
    ∃ l : Int32, wk_loop (fun k116 : (Nat → Int32) → (Nat → Int32) → Int32 → Int32 → Int32 → Int32 → Int32 → Int32 → Int32 → Option (Int32 × (Nat → Int32) × (Nat → Int32)) => B_X11_mixed_116 N cd ct hs k58 k116) (fun _ _ _ _ _ _ _ _ _ => none) N o s x2 x3 x4 x5 x6 (0 : Int32) (0 : Int32) = k58 o s x2 x3 x4 l (x6 + 1) ∧ ∀ h, h < 4 → x3 = nI h → ∃ r1 : Int32, r1.toInt = p_ldI T h ∧ l = if r1 ≤ x5 then x5 else r1 := by
  rcases h3 with rfl | ⟨h, hh, rfl⟩
  · obtain ⟨N', rfl⟩ : ∃ q, N = q + 1 := ⟨N - 1, by omega⟩
    refine ⟨if 0 ≤ x5 then x5 else 0, ?_, fun h hh q => ?_⟩
    · show B_X11_mixed_116 (N' + 1) cd ct hs k58 _ o s x2 (-1) x4 x5 x6 0 0 = _
      rw [B_X11_mixed_116, if_neg (by decide), if_pos (by decide), B_X11_mixed_164, if_neg (by decide), B_X11_mixed_181]
      by_cases a : 0 ≤ x5
      · rw [if_pos a, if_pos a, p_nm]
      · rw [if_neg a, if_neg a, p_nm]
    · exfalso
      have := congrArg Int32.toInt q
      rw [nI_toInt (by omega), show (-1 : Int32).toInt = -1 from rfl] at this
      omega
  · obtain ⟨z, hz⟩ : ∃ z : Nat, z = 0 := ⟨_, rfl⟩
    obtain ⟨e, he⟩ : ∃ e : Nat, e = 4 := ⟨_, rfl⟩
    have hz0 : nI z = 0 := by rw [hz]; rfl
    have hTh := hT h
    have hm0 := p_mx_le hT h 4
    rw [show wk_loop (fun k116 : (Nat → Int32) → (Nat → Int32) → Int32 → Int32 → Int32 → Int32 → Int32 → Int32 → Int32 → Option (Int32 × (Nat → Int32) × (Nat → Int32)) => B_X11_mixed_116 N cd ct hs k58 k116) (fun _ _ _ _ _ _ _ _ _ => none) N o s x2 (nI h) x4 x5 x6 (0 : Int32) (0 : Int32) = wk_loop (fun k116 : (Nat → Int32) → (Nat → Int32) → Int32 → Int32 → Int32 → Int32 → Int32 → Int32 → Int32 → Option (Int32 × (Nat → Int32) × (Nat → Int32)) => B_X11_mixed_116 N cd ct hs k58 k116) (fun _ _ _ _ _ _ _ _ _ => none) N o s x2 (nI h) x4 x5 x6 (nI (p_mx T h z)) (nI z) by rw [hz]; rfl]
    refine ⟨if (nI (T h) - nI (p_mx T h 4)) ≤ x5 then x5 else nI (T h) - nI (p_mx T h 4), ?_, fun h' hh' q => ?_⟩
    · refine p_run (σ := Unit)
        (W := fun m i _ => wk_loop (fun k116 : (Nat → Int32) → (Nat → Int32) → Int32 → Int32 → Int32 → Int32 → Int32 → Int32 → Int32 → Option (Int32 × (Nat → Int32) × (Nat → Int32)) => B_X11_mixed_116 N cd ct hs k58 k116) (fun _ _ _ _ _ _ _ _ _ => none) m o s x2 (nI h) x4 x5 x6 (nI (p_mx T h i)) (nI i))
        (fun _ _ => True)
        (fun A => A = k58 o s x2 (nI h) x4 (if (nI (T h) - nI (p_mx T h 4)) ≤ x5 then x5 else nI (T h) - nI (p_mx T h 4)) (x6 + 1)) e ?_ ?_ e N z () (by omega) (by omega) trivial
      · intro m i _ hi _
        have hTi := hT i
        have hmi := p_mx_le hT h i
        refine ⟨(), ?_, trivial⟩
        show B_X11_mixed_116 N cd ct hs k58 _ o s x2 (nI h) x4 x5 x6 (nI (p_mx T h i)) (nI i) = _
        rw [B_X11_mixed_116, if_neg (show ¬ (4 : Int32) ≤ nI i from nI_ge (b := 4) (by omega) (by omega)), if_neg (nI_pos (by omega)), p_mx_s]
        by_cases a : i = h
        · rw [if_pos (by rw [a]), if_pos a, p_nm, nI_1]
        · rw [if_neg (fun q => a ((nI_eq (by omega) (by omega)).mp q)), if_neg a, p_ck (by omega) (by omega), nI_clamp (by omega), hs2 i (by omega)]
          by_cases b : T i ≤ p_mx T h i
          · rw [if_pos (nI_le b (by omega)), p_nm, nI_1, Nat.max_eq_left b]
          · rw [if_neg (nI_ge (by omega) (by omega)), p_ck (by omega) (by omega), p_nm, p_nm, nI_1, Nat.max_eq_right (by omega)]
      · intro m _ _
        show B_X11_mixed_116 N cd ct hs k58 _ o s x2 (nI h) x4 x5 x6 (nI (p_mx T h e)) (nI e) = _
        rw [B_X11_mixed_116, if_pos (show (4 : Int32) ≤ nI e by rw [he]; decide), B_X11_mixed_164, if_pos (nI_pos' (by omega)), p_ck hh (by omega), nI_clamp (by omega), hs2 h hh, B_X11_mixed_181, he]
        by_cases a : (nI (T h) - nI (p_mx T h 4)) ≤ x5
        · rw [if_pos a, if_pos a, p_nm]
        · rw [if_neg a, if_neg a, p_nm]
    · have : h = h' := (nI_eq (by omega) (by omega)).mp q
      subst this
      exact ⟨_, by rw [pk_sub_toInt (by omega) (by omega)]; rfl, rfl⟩
/-- the mixtures that the check goes through -/
def p_Vm (rules cs other i : Nat) (d : Nat → Nat) : Prop := ∃ m, m < i ∧ p_of5 m rules cs other ∧ ∀ c, c < 5 → d c = p_dg m c
theorem p_Vm_s {rules cs other i : Nat} (h : p_of5 i rules cs other) (d : Nat → Nat) : (p_Vm rules cs other i d ∨ ∀ c, c < 5 → d c = p_dg i c) ↔ p_Vm rules cs other (i + 1) d := by
  constructor
  · rintro (⟨m, h1, h2, h3⟩ | q)
    · exact ⟨m, by omega, h2, h3⟩
    · exact ⟨i, by omega, h, q⟩
  · rintro ⟨m, h1, h2, h3⟩
    by_cases a : m = i
    · subst a; exact Or.inr h3
    · exact Or.inl ⟨m, by omega, h2, h3⟩
theorem p_Vm_n {rules cs other i : Nat} (h : ¬ p_of5 i rules cs other) (d : Nat → Nat) : p_Vm rules cs other i d ↔ p_Vm rules cs other (i + 1) d := by
  constructor
  · rintro ⟨m, h1, h2, h3⟩; exact ⟨m, by omega, h2, h3⟩
  · rintro ⟨m, h1, h2, h3⟩
    by_cases a : m = i
    · subst a; exact absurd h2 h
    · exact ⟨m, by omega, h2, h3⟩
theorem RMw.of {T : (Nat → Nat) → Nat → Nat} {V V' : (Nat → Nat) → Prop} {w : Int32} (H : RMw T V w) (hV : ∀ d, V d ↔ V' d) : RMw T V' w := by
  have : V = V' := funext (fun d => propext (hV d))
  rw [← this]; exact H
theorem RMl.of {T : (Nat → Nat) → Nat → Nat} {V V' : (Nat → Nat) → Prop} {h : Nat} {w : Int32} (H : RMl T V h w) (hV : ∀ d, V d ↔ V' d) : RMl T V' h w := by
  have : V = V' := funext (fun d => propext (hV d))
  rw [← this]; exact H
theorem p_tb5 : ∀ c, c < 5 → (31 : Nat).testBit c = true := by decide
theorem p_mixed11 (N : Nat) (hN : 32800 ≤ N) {ct : Nat → Int32} {n : Nat} {vt : Nat → Nat → Int32} (hT : ∀ d h, p_T ct vt n d h ≤ 40) (cd hs : Nat → Int32) {o : Nat → Int32} (ho : ∀ cy, cy < 5 → ∀ l, 1 ≤ l → l ≤ 5 → ∀ h, h < 4 → o (24 * cy + 4 * l + h) = nI (p_cnt (p_sel ct (nI cy) (vt l) h) n)) {rules : Nat} (hr : rules < 32) (uf : Nat → Int32) {x3 : Int32} (h3 : x3 = -1 ∨ ∃ h, h < 4 ∧ x3 = nI h) :
    ∃ (of : Nat → Int32) (w ld : Int32), wk_loop (fun k58 : (Nat → Int32) → (Nat → Int32) → Int32 → Int32 → Int32 → Int32 → Int32 → Option (Int32 × (Nat → Int32) × (Nat → Int32)) => B_X11_mixed_58 N cd ct hs k58) (fun _ _ _ _ _ _ _ => none) N o uf (nI rules) x3 (0 : Int32) (-1000 : Int32) (0 : Int32) = some (if 0 ≤ x3 then ld else w, o, of) ∧ RMw (p_T ct vt n) (p_Vm rules 31 0 32768) w ∧ ∀ h, h < 4 → x3 = nI h → RMl (p_T ct vt n) (p_Vm rules 31 0 32768) h ld := by
  have hTc : ∀ d d' : Nat → Nat, (∀ c, c < 5 → d c = d' c) → p_T ct vt n d = p_T ct vt n d' := fun d d' h => funext (fun g => p_tp_d 5 h)
  obtain ⟨z, hz⟩ : ∃ z : Nat, z = 0 := ⟨_, rfl⟩
  obtain ⟨e, he⟩ : ∃ e : Nat, e = 32768 := ⟨_, rfl⟩
  rw [show wk_loop (fun k58 : (Nat → Int32) → (Nat → Int32) → Int32 → Int32 → Int32 → Int32 → Int32 → Option (Int32 × (Nat → Int32) × (Nat → Int32)) => B_X11_mixed_58 N cd ct hs k58) (fun _ _ _ _ _ _ _ => none) N o uf (nI rules) x3 (0 : Int32) (-1000 : Int32) (0 : Int32) = wk_loop (fun k58 : (Nat → Int32) → (Nat → Int32) → Int32 → Int32 → Int32 → Int32 → Int32 → Option (Int32 × (Nat → Int32) × (Nat → Int32)) => B_X11_mixed_58 N cd ct hs k58) (fun _ _ _ _ _ _ _ => none) N o uf (nI rules) x3 (0 : Int32) (-1000 : Int32) (nI z) by rw [hz]; rfl, ← he]
  refine p_run (σ := (Nat → Int32) × Int32 × Int32)
    (W := fun m i s => wk_loop (fun k58 : (Nat → Int32) → (Nat → Int32) → Int32 → Int32 → Int32 → Int32 → Int32 → Option (Int32 × (Nat → Int32) × (Nat → Int32)) => B_X11_mixed_58 N cd ct hs k58) (fun _ _ _ _ _ _ _ => none) m o s.1 (nI rules) x3 s.2.1 s.2.2 (nI i))
    (fun i s => RMw (p_T ct vt n) (p_Vm rules 31 0 i) s.2.1 ∧ ∀ h, h < 4 → x3 = nI h → RMl (p_T ct vt n) (p_Vm rules 31 0 i) h s.2.2)
    (fun A => ∃ (of : Nat → Int32) (w ld : Int32), A = some (if 0 ≤ x3 then ld else w, o, of) ∧ RMw (p_T ct vt n) (p_Vm rules 31 0 e) w ∧ ∀ h, h < 4 → x3 = nI h → RMl (p_T ct vt n) (p_Vm rules 31 0 e) h ld) e ?_ ?_ e N z (uf, 0, -1000) (by omega) (by omega) ?_
  · intro m i s hi hI
    obtain ⟨s1, s2, s3⟩ := s
    obtain ⟨hw, hl⟩ := hI
    dsimp only at hw hl
    have g : ¬ (32768 : Int32) ≤ nI i := nI_ge (b := 32768) (by omega) (by omega)
    obtain ⟨b, e1, hb⟩ := p_isOf11 N (by omega) (m := i) (rules := rules) (cs := 31) (other := 0) (by omega) hr (by omega) (by omega)
    cases b with
    | false =>
      have hno : ¬ p_of5 i rules 31 0 := fun q => absurd (hb.mpr q) (by decide)
      refine ⟨(s1, s2, s3), ?_, hw.of (p_Vm_n hno), fun h hh q => (hl h hh q).of (p_Vm_n hno)⟩
      show B_X11_mixed_58 N cd ct hs _ o s1 (nI rules) x3 s2 s3 (nI i) = _
      rw [B_X11_mixed_58, if_neg g, show (31 : Int32) = nI 31 from rfl, show (0 : Int32) = nI 0 from rfl, e1, p_b1, if_pos (show wk_bI false = nI 0 from rfl), p_nm, nI_1]
    | true =>
      have hyes := hb.mp rfl
      obtain ⟨t, e2, ht⟩ := q_mixes N (by omega) ho (m := i) (by omega) (fun c hc => ⟨((hyes c hc).1 (p_tb5 c hc)).1, ((hyes c hc).1 (p_tb5 c hc)).2.1⟩) s1
      obtain ⟨v, hv, e3⟩ := p_most N (by omega) (c := p_T ct vt n (p_dg i)) (hT _) (uf := t) ht
      obtain ⟨w', hw', q1, q2⟩ := p_RW_add hTc hw (p_dg i) hv
      obtain ⟨k58, hk58⟩ : ∃ q, q = wk_loop (fun k58 : (Nat → Int32) → (Nat → Int32) → Int32 → Int32 → Int32 → Int32 → Int32 → Option (Int32 × (Nat → Int32) × (Nat → Int32)) => B_X11_mixed_58 N cd ct hs k58) (fun _ _ _ _ _ _ _ => none) m := ⟨_, rfl⟩
      obtain ⟨l, e4, hl4⟩ := p_by N (by omega) cd ct hs k58 o (hT (p_dg i)) ht (nI rules) w' s3 (nI i) h3
      refine ⟨(t, w', l), ?_, hw'.of (p_Vm_s hyes), fun h hh q => ?_⟩
      · show B_X11_mixed_58 N cd ct hs (wk_loop (fun k58 : (Nat → Int32) → (Nat → Int32) → Int32 → Int32 → Int32 → Int32 → Int32 → Option (Int32 × (Nat → Int32) × (Nat → Int32)) => B_X11_mixed_58 N cd ct hs k58) (fun _ _ _ _ _ _ _ => none) m) o s1 (nI rules) x3 s2 s3 (nI i) = _
        rw [← hk58]
        have e5 : B_X11_mixed_58 N cd ct hs k58 o s1 (nI rules) x3 s2 s3 (nI i) = wk_loop (fun k116 : (Nat → Int32) → (Nat → Int32) → Int32 → Int32 → Int32 → Int32 → Int32 → Int32 → Int32 → Option (Int32 × (Nat → Int32) × (Nat → Int32)) => B_X11_mixed_116 N cd ct hs k58 k116) (fun _ _ _ _ _ _ _ _ _ => none) N o t (nI rules) x3 w' s3 (nI i) (0 : Int32) (0 : Int32) := by
          rw [B_X11_mixed_58, if_neg g, show f_X11_isOf N (nI i) (nI rules) (31 : Int32) (0 : Int32) = some true from e1, p_b1, if_neg (show ¬ wk_bI true = 0 by decide), e2, p_b1, e3, p_b1]
          rcases hv with ⟨h, hh, rfl, -⟩ | ⟨rfl, -⟩
          · rw [if_pos (nI_pos' (by omega)), p_nm, q2 h hh rfl]
          · rw [if_neg (by decide), p_nm, q1 rfl]
        rw [e5, e4, nI_1, hk58]
      · obtain ⟨r1, a1, a2⟩ := hl4 h hh q
        have := p_RL_add hT hTc (hl h hh q) (p_dg i) a1
        rw [← a2] at this
        exact this.of (p_Vm_s hyes)
  · intro m s hI
    obtain ⟨s1, s2, s3⟩ := s
    refine ⟨s1, s2, s3, ?_, hI.1, hI.2⟩
    show B_X11_mixed_58 N cd ct hs _ o s1 (nI rules) x3 s2 s3 (nI e) = _
    rw [B_X11_mixed_58, if_pos (show (32768 : Int32) ≤ nI e by rw [he]; decide)]
    by_cases a : 0 ≤ x3
    · rw [if_pos a, if_pos a]
    · rw [if_neg a, if_neg a]
  · have hno : ∀ d, ¬ p_Vm rules 31 0 z d := fun d ⟨m, h1, _⟩ => by omega
    exact ⟨⟨0, by omega, rfl, fun h _ => by rw [Nat.zero_testBit]; exact ⟨fun q => (by cases q), fun ⟨d, q, _⟩ => absurd q (hno d)⟩⟩, fun h hh q => Or.inl ⟨rfl, hno⟩⟩
/-- with the same votes in each county, the same sums -/
theorem p_T_eq {ct : Nat → Int32} {vt : Nat → Nat → Int32} {n : Nat} {d d' : Nat → Nat} {h : Nat} (hd : ∀ c, c < 5 → p_cv ct vt n c (d c) h = p_cv ct vt n c (d' c) h) : p_T ct vt n d h = p_T ct vt n d' h := by
  have : ∀ k, k ≤ 5 → p_tp ct vt d n h k = p_tp ct vt d' n h k := by
    intro k
    induction k with
    | zero => intro _; rfl
    | succ k ih => intro hk; rw [p_tp_s, p_tp_s, ih (by omega)]; congr 1; exact hd k (by omega)
  exact this 5 (by omega)
/-- to each mixture of the set one of the choices, with the same votes -/
theorem p_alt {ct : Nat → Int32} {vt : Nat → Nat → Int32} {n base rules : Nat} {C : Nat → Nat} (hC : ∀ c, c < 5 → RChoice ct vt n base rules c (C c)) {d : Nat → Nat} (hd : ∀ c, c < 5 → p_inR rules (d c) ∨ (base ≠ 0 ∧ d c = base)) : ∃ d', p_ext C 0 (fun _ => 0) d' ∧ (∀ h, h < 4 → p_T ct vt n d h = p_T ct vt n d' h) ∧ ∀ c, c < 5 → d c = base → base ≠ 0 → d' c = base := by
  have h1 : ∀ c : Nat, ∃ o : Nat, c < 5 → p_inR (C c) o ∧ (∀ h, h < 4 → p_cv ct vt n c (d c) h = p_cv ct vt n c o h) ∧ (d c = base → base ≠ 0 → o = base) := by
    intro c
    by_cases a : c < 5
    · obtain ⟨r1, r2, r3, r4⟩ := hC c a
      by_cases b : d c = base ∧ base ≠ 0
      · exact ⟨base, fun _ => ⟨r3 b.2, fun h _ => by rw [b.1], fun _ _ => rfl⟩⟩
      · rcases hd c a with q | q
        · obtain ⟨o', q1, q2⟩ := r4 (d c) q
          exact ⟨o', fun _ => ⟨q1, q2, fun w1 w2 => absurd ⟨w1, w2⟩ b⟩⟩
        · exact absurd ⟨q.2, q.1⟩ b
    · exact ⟨0, fun q => absurd q a⟩
  refine ⟨fun c => Classical.choose (h1 c), ⟨fun c hc => absurd hc (by omega), fun c _ hc => (Classical.choose_spec (h1 c) hc).1⟩, fun h hh => p_T_eq (fun c hc => (Classical.choose_spec (h1 c) hc).2.1 h hh), fun c hc w1 w2 => (Classical.choose_spec (h1 c) hc).2.2 w1 w2⟩
theorem p_zero5 (c : Nat) {o : Nat} (h : p_inR c o) : o ≤ 5 := h.2.1
theorem p_rn0 : ∀ r, 1 ≤ r → r < 32 → ∃ c, c < 5 ∧ r.testBit c = true := fun r h1 h2 => p_pc5n r h2 (by omega)
theorem q_mixed (N : Nat) (hN : 32800 ≤ N) {pz : Int32} {pc st cd ct hs : Nat → Int32} {k : Nat} (hP : RPile pz pc st cd ct hs 0 k) (b0 f0 s0 w0 l0 e0 : Int32) (ch vo dm ss ub uf : Nat → Int32) (x y z : Int32) :
    ∃ r b' f' s' w' l' e' ch' vo' od os ob of, f_X10_mixed N pz pc st b0 f0 s0 w0 l0 e0 ch vo dm ss x y z = some (r, b', f', s', w', l', e', ch', vo', od, os) ∧ f_X11_mixed N cd ct hs ub uf x y z = some (r, ob, of) := by
  have fd : ¬ wk_bI true = 0 := by decide
  have fe : wk_bI false = 0 := rfl
  unfold f_X10_mixed f_X11_mixed
  rw [p_isRace, p_b1, p_inI, p_b1, show (0 : Int64).toInt = 0 from rfl, show (2 : Int64).toInt = 2 from rfl]
  by_cases a : 0 ≤ x.toInt ∧ x.toInt ≤ 2
  · rw [decide_eq_true a, if_neg fd, if_neg fd, p_isRuleSet, p_b1, p_inI, p_b1, show (1 : Int64).toInt = 1 from rfl, show (31 : Int64).toInt = 31 from rfl]
    by_cases b : 1 ≤ y.toInt ∧ y.toInt ≤ 31
    · rw [decide_eq_true b, if_neg fd, if_neg fd, p_inI, p_b1, show (-1 : Int64).toInt = -1 from rfl, show (3 : Int64).toInt = 3 from rfl]
      by_cases c : -1 ≤ z.toInt ∧ z.toInt ≤ 3
      · rw [decide_eq_true c, if_neg fd, if_neg (show ¬ z < (-1 : Int32) by rw [p_toInt_lt, show (-1 : Int32).toInt = -1 from rfl]; omega), if_pos (show z < (4 : Int32) by rw [p_toInt_lt, show (4 : Int32).toInt = 4 from rfl]; omega)]
        obtain ⟨r, hr, rfl⟩ := p_of (n := 2) a.1 a.2
        obtain ⟨rules, hrl, rfl⟩ := p_of (n := 31) (by omega) b.2
        have hrl1 : 1 ≤ rules := by have := b.1; rw [nI_toInt (by omega)] at this; omega
        obtain ⟨vt, hv⟩ := p_vtr N (by omega) hP (r := r) (by omega)
        obtain ⟨hk, rfl, hcd, hco, -⟩ := hP
        have hct : ∀ j, j < k → ∃ c, c < 5 ∧ ct j = nI c := fun j hj => by
          obtain ⟨q, c, hc, q2⟩ := hco j hj
          rw [Nat.mul_zero, Nat.zero_add] at q
          exact ⟨c, hc, q.symm.trans q2⟩
        have hpc : ∀ j, j < k → pc j = ct j := fun j hj => by
          obtain ⟨q, -⟩ := hco j hj
          rw [Nat.mul_zero, Nat.zero_add] at q
          exact q
        have hT : ∀ d h, p_T ct vt k d h ≤ 40 := fun d h => Nat.le_trans (p_tp_le vt d h (Nat.le_refl 5) k hct) hk
        obtain ⟨od, os, vo', e1, hV⟩ := p_learn0 N (by omega) hk hpc (fun l c hc => ⟨(hv l c hc).1, (hv l c hc).2.2⟩) dm ss vo
        obtain ⟨o, e2, ho⟩ := q_counts N (by omega) hk hcd hct (fun l c hc => (hv l c hc).2) ub
        have h3 : z = -1 ∨ ∃ h, h < 4 ∧ z = nI h := by
          by_cases d : z.toInt = -1
          · exact Or.inl (Int32.toInt_inj.mp d)
          · obtain ⟨h, hh, e⟩ := p_of (x := z) (n := 3) (by omega) c.2
            exact Or.inr ⟨h, by omega, e⟩
        obtain ⟨of, w2, ld2, e3, hW2, hL2⟩ := p_mixed11 N hN hT cd hs ho (rules := rules) (by omega) uf h3
        rw [e1, p_b3, e2, p_b1, e3]
        -- the class's mixtures and the check's
        have fam : ∀ C : Nat → Nat, (∀ c, c < 5 → RChoice ct vt k 0 rules c (C c)) → (∃ d, p_ext C 0 (fun _ => 0) d) ∧ (∀ d, p_ext C 0 (fun _ => 0) d → ∃ d', p_Vm rules 31 0 32768 d' ∧ ∀ h, h < 4 → p_T ct vt k d h = p_T ct vt k d' h) ∧ ∀ d, p_Vm rules 31 0 32768 d → ∃ d', p_ext C 0 (fun _ => 0) d' ∧ ∀ h, h < 4 → p_T ct vt k d h = p_T ct vt k d' h := by
          intro C hC
          refine ⟨?_, ?_, ?_⟩
          · obtain ⟨q, hq, hq2⟩ := p_rn0 rules hrl1 (by omega)
            obtain ⟨d', h1, -⟩ := p_alt hC (d := fun _ => q + 1) (fun c hc => Or.inl ⟨by omega, by omega, hq2⟩)
            exact ⟨d', h1⟩
          · intro d hd
            have hin : ∀ c, c < 5 → p_inR rules (d c) := fun c hc => by
              have h1 := hd.2 c (by omega) hc
              rcases (hC c hc).2.1 (d c) h1 with q | q
              · have := h1.1; omega
              · exact q
            have h7 : ∀ c, c < 5 → d c ≤ 7 := fun c hc => by have := (hin c hc).2.1; omega
            refine ⟨d, ⟨p_enc d, p_enc_lt h7, fun c hc => ⟨fun _ => by rw [p_enc_dg h7 c hc]; exact hin c hc, fun q => ?_⟩, fun c hc => (p_enc_dg h7 c hc).symm⟩, fun _ _ => rfl⟩
            rw [p_tb5 c hc] at q; cases q
          · rintro d ⟨m, hm, h1, h2⟩
            obtain ⟨d', q1, q2, -⟩ := p_alt hC (d := d) (fun c hc => Or.inl (by rw [h2 c hc]; exact (h1 c hc).1 (p_tb5 c hc)))
            exact ⟨d', q1, q2⟩
        have main : ∀ fv, fv < 4 → (∀ h, h < 4 → z = nI h → fv = h) → ∃ b' f' s' w' l' e' ch', f_X0_tryAll N vo' b0 f0 s0 w0 l0 e0 ch 0 (nI rules) (nI fv) = some (b', f', s', w', l', e', ch') ∧ w' = w2 ∧ ∀ h, h < 4 → z = nI h → l' = ld2 := by
          intro fv hfv hz
          obtain ⟨C, w', ld', fw', ch', hC, e4, hW', hL', -⟩ := p_try N (by omega) hk hT hV (fv := fv) (base := 0) (rules := rules) hfv (by omega) (by omega) (std := -4) (Or.inl ⟨rfl, rfl⟩) b0 f0 s0 w0 l0 e0 ch
          obtain ⟨hne, ha, hb⟩ := fam C hC
          refine ⟨_, _, _, w', ld', fw', ch', e4, p_RW_u hW' hW2 (fun h hh => ⟨?_, ?_⟩), fun h hh q => ?_⟩
          · rintro ⟨d, q1, q2⟩
            obtain ⟨d', r1, r2⟩ := ha d q1
            exact ⟨d', r1, (p_str_c r2 hh).mp q2⟩
          · rintro ⟨d, q1, q2⟩
            obtain ⟨d', r1, r2⟩ := hb d q1
            exact ⟨d', r1, (p_str_c r2 hh).mp q2⟩
          · have := hz h hh q
            subst this
            refine p_RL_u hL' (hL2 fv hh q) hne (fun d q1 => ?_) (fun d q1 => ?_)
            · obtain ⟨d', r1, r2⟩ := ha d q1
              exact ⟨d', r1, p_ldI_c r2 hh⟩
            · obtain ⟨d', r1, r2⟩ := hb d q1
              exact ⟨d', r1, p_ldI_c r2 hh⟩
        rcases h3 with rfl | ⟨h, hh, rfl⟩
        · obtain ⟨b', f', s', w', l', e', ch', e5, hw, -⟩ := main 0 (by omega) (fun h hh q => by
            have := congrArg Int32.toInt q
            rw [nI_toInt (by omega), show (-1 : Int32).toInt = -1 from rfl] at this
            omega)
          have e5' : f_X0_tryAll N vo' b0 f0 s0 w0 l0 e0 ch 0 (nI rules) 0 = some (b', f', s', w', l', e', ch') := e5
          rw [if_neg (show ¬ (0 : Int32) < -1 by decide), e5', p_b7', if_neg (by decide), if_neg (by decide)]
          unfold f_X0_winners
          rw [p_b1, hw]
          exact ⟨_, _, _, _, _, _, _, _, _, _, _, _, _, rfl, rfl⟩
        · obtain ⟨b', f', s', w', l', e', ch', e5, -, hl⟩ := main h hh (fun h' hh' q => (nI_eq (by omega) (by omega)).mp q)
          have e6 : (if (0 : Int32) < nI h then nI h else (0 : Int32)) = nI h := by
            by_cases q : h = 0
            · subst q; rfl
            · rw [if_pos (show (0 : Int32) < nI h from nI_lt (a := 0) (by omega) (by omega))]
          rw [e6, e5, p_b7', if_pos (nI_pos' (by omega)), if_pos (nI_pos' (by omega))]
          unfold f_X0_lead
          rw [p_b1, hl h hh rfl]
          exact ⟨_, _, _, _, _, _, _, _, _, _, _, _, _, rfl, rfl⟩
      · rw [decide_eq_false c, if_pos fe]
        by_cases d : z < (-1 : Int32)
        · rw [if_pos d]; exact ⟨_, _, _, _, _, _, _, _, _, _, _, _, _, rfl, rfl⟩
        · rw [if_neg d]
          rw [p_toInt_lt, show (-1 : Int32).toInt = -1 from rfl] at d
          rw [if_neg (show ¬ z < (4 : Int32) by rw [p_toInt_lt, show (4 : Int32).toInt = 4 from rfl]; omega)]
          exact ⟨_, _, _, _, _, _, _, _, _, _, _, _, _, rfl, rfl⟩
    · rw [decide_eq_false b, if_pos fe, if_pos fe]; exact ⟨_, _, _, _, _, _, _, _, _, _, _, _, _, rfl, rfl⟩
  · rw [decide_eq_false a, if_pos fe, if_pos fe]; exact ⟨_, _, _, _, _, _, _, _, _, _, _, _, _, rfl, rfl⟩
