/-! PURE: turned -/
/-- with these counties turned, another one wins in some mixture -/
def p_E (T : (Nat → Nat) → Nat → Nat) (others n : Nat) (std : Int32) (s e : Nat) : Prop := ∃ d, p_Vm others s n e d ∧ p_tn T std d
theorem p_tn_c {T : (Nat → Nat) → Nat → Nat} {d d' : Nat → Nat} (h : T d = T d') {std : Int32} : p_tn T std d ↔ p_tn T std d' := by unfold p_tn; rw [h]
theorem p_tn4 {T : (Nat → Nat) → Nat → Nat} {d d' : Nat → Nat} (h : ∀ g, g < 4 → T d g = T d' g) {std : Int32} (q : p_tn T std d) : p_tn T std d' := by
  obtain ⟨g, hg, h1, h2⟩ := q
  exact ⟨g, hg, (p_str_c h hg).mp h1, h2⟩
theorem p_turn1 (N : Nat) (hN : 32800 ≤ N) {ct : Nat → Int32} {n : Nat} {vt : Nat → Nat → Int32} (hT : ∀ d h, p_T ct vt n d h ≤ 40) (cd hs : Nat → Int32) {o : Nat → Int32} (ho : ∀ cy, cy < 5 → ∀ l, 1 ≤ l → l ≤ 5 → ∀ h, h < 4 → o (24 * cy + 4 * l + h) = nI (p_cnt (p_sel ct (nI cy) (vt l) h) n)) {others l s : Nat} (hr : others < 32) (hl1 : 1 ≤ l) (hl5 : l ≤ 5) (hs5 : s < 32) (now x6 : Int32) (uf : Nat → Int32) (k72 : (Nat → Int32) → (Nat → Int32) → Int32 → Int32 → Int32 → Int32 → Int32 → Option (Int32 × (Nat → Int32) × (Nat → Int32))) :
    ∃ (of : Nat → Int32) (x6' : Int32), wk_loop (fun k106 : (Nat → Int32) → (Nat → Int32) → Int32 → Int32 → Int32 → Int32 → Int32 → Int32 → Int32 → Option (Int32 × (Nat → Int32) × (Nat → Int32)) => B_X11_turned_106 N cd ct hs k72 k106) (fun _ _ _ _ _ _ _ _ _ => none) N o uf (nI l) now (nI others) x6 (nI s) (0 : Int32) (0 : Int32) = k72 o of (nI l) now (nI others) x6' (nI (s + 1)) ∧ ((p_E (p_T ct vt n) others l now s 32768 ∧ x6' = nI s) ∨ (¬ p_E (p_T ct vt n) others l now s 32768 ∧ x6' = x6)) := by
  have hTc : ∀ d d' : Nat → Nat, (∀ c, c < 5 → d c = d' c) → p_T ct vt n d = p_T ct vt n d' := fun d d' h => funext (fun g => p_tp_d 5 h)
  have fd : ¬ wk_bI true = 0 := by decide
  have fe : wk_bI false = 0 := rfl
  obtain ⟨z, hz⟩ : ∃ z : Nat, z = 0 := ⟨_, rfl⟩
  obtain ⟨e, he⟩ : ∃ e : Nat, e = 32768 := ⟨_, rfl⟩
  rw [show wk_loop (fun k106 : (Nat → Int32) → (Nat → Int32) → Int32 → Int32 → Int32 → Int32 → Int32 → Int32 → Int32 → Option (Int32 × (Nat → Int32) × (Nat → Int32)) => B_X11_turned_106 N cd ct hs k72 k106) (fun _ _ _ _ _ _ _ _ _ => none) N o uf (nI l) now (nI others) x6 (nI s) (0 : Int32) (0 : Int32) = wk_loop (fun k106 : (Nat → Int32) → (Nat → Int32) → Int32 → Int32 → Int32 → Int32 → Int32 → Int32 → Int32 → Option (Int32 × (Nat → Int32) × (Nat → Int32)) => B_X11_turned_106 N cd ct hs k72 k106) (fun _ _ _ _ _ _ _ _ _ => none) N o uf (nI l) now (nI others) x6 (nI s) (wk_bI false) (nI z) by rw [hz]; rfl, ← he]
  refine p_runx (σ := (Nat → Int32) × Bool)
    (W := fun m i q => wk_loop (fun k106 : (Nat → Int32) → (Nat → Int32) → Int32 → Int32 → Int32 → Int32 → Int32 → Int32 → Int32 → Option (Int32 × (Nat → Int32) × (Nat → Int32)) => B_X11_turned_106 N cd ct hs k72 k106) (fun _ _ _ _ _ _ _ _ _ => none) m o q.1 (nI l) now (nI others) x6 (nI s) (wk_bI q.2) (nI i))
    (fun i q => (q.2 = true ∧ p_E (p_T ct vt n) others l now s e) ∨ (q.2 = false ∧ ¬ p_E (p_T ct vt n) others l now s i))
    (fun A => ∃ (of : Nat → Int32) (x6' : Int32), A = k72 o of (nI l) now (nI others) x6' (nI (s + 1)) ∧ ((p_E (p_T ct vt n) others l now s e ∧ x6' = nI s) ∨ (¬ p_E (p_T ct vt n) others l now s e ∧ x6' = x6))) e ?_ ?_ e N z (uf, false) (by omega) (by omega) (Or.inr ⟨rfl, fun ⟨d, ⟨m, h1, _⟩, _⟩ => by omega⟩)
  · intro m i q hi hI
    obtain ⟨q1, q2⟩ := q
    have g : ¬ (32768 : Int32) ≤ nI i := nI_ge (b := 32768) (by omega) (by omega)
    dsimp only at hI
    rcases hI with ⟨rfl, hE⟩ | ⟨rfl, hE⟩
    · left
      refine ⟨q1, nI s, ?_, Or.inl ⟨hE, rfl⟩⟩
      show B_X11_turned_106 N cd ct hs k72 _ o q1 (nI l) now (nI others) x6 (nI s) (wk_bI true) (nI i) = _
      rw [B_X11_turned_106, if_neg g, if_neg fd, B_X11_turned_168, if_neg fd, p_nm, nI_1]
    · right
      obtain ⟨b, e1, hb⟩ := p_isOf11 N (by omega) (m := i) (rules := others) (cs := s) (other := l) (by omega) hr hs5 (by omega)
      cases b with
      | false =>
        have hno : ¬ p_of5 i others s l := fun q => absurd (hb.mpr q) (by decide)
        refine ⟨(q1, false), ?_, Or.inr ⟨rfl, fun ⟨d, w1, w2⟩ => hE ⟨d, (p_Vm_n hno d).mpr w1, w2⟩⟩⟩
        show B_X11_turned_106 N cd ct hs k72 _ o q1 (nI l) now (nI others) x6 (nI s) (wk_bI false) (nI i) = _
        rw [B_X11_turned_106, if_neg g, if_pos fe, e1, p_b1, if_pos fe, p_nm, nI_1]
      | true =>
        have hyes := hb.mp rfl
        obtain ⟨t, e2, ht⟩ := q_mixes N (by omega) ho (m := i) (by omega) (fun c hc => by
          cases hq : s.testBit c with
          | true => exact ⟨((hyes c hc).1 hq).1, ((hyes c hc).1 hq).2.1⟩
          | false => rw [(hyes c hc).2 hq]; exact ⟨hl1, hl5⟩) q1
        obtain ⟨v, hv, e3⟩ := p_most N (by omega) (c := p_T ct vt n (p_dg i)) (hT _) (uf := t) ht
        have hnot : ¬ p_tn (p_T ct vt n) now (p_dg i) → ¬ p_E (p_T ct vt n) others l now s (i + 1) := by
          rintro hn ⟨d, w1, w2⟩
          rcases (p_Vm_s hyes d).mpr w1 with w | w
          · exact hE ⟨d, w, w2⟩
          · exact hn ((p_tn_c (hTc d _ w)).mp w2)
        have hin : p_tn (p_T ct vt n) now (p_dg i) → p_E (p_T ct vt n) others l now s e := fun q => ⟨p_dg i, ⟨i, hi, hyes, fun _ _ => rfl⟩, q⟩
        have e4 : ∀ k106, B_X11_turned_106 N cd ct hs k72 k106 o q1 (nI l) now (nI others) x6 (nI s) (wk_bI false) (nI i) = (if v < 0 then k106 o t (nI l) now (nI others) x6 (nI s) (wk_bI false) (nI (i + 1)) else if v = now then k106 o t (nI l) now (nI others) x6 (nI s) (wk_bI false) (nI (i + 1)) else k106 o t (nI l) now (nI others) x6 (nI s) (wk_bI true) (nI (i + 1))) := by
          intro k106
          rw [B_X11_turned_106, if_neg g, if_pos fe, e1, p_b1, if_neg fd, e2, p_b1, e3, p_b1]
          simp only [p_nm, nI_1]
          rfl
        rcases hv with ⟨h, hh, rfl, hs0⟩ | ⟨rfl, hn0⟩
        · by_cases a : nI h = now
          · refine ⟨(t, false), ?_, Or.inr ⟨rfl, hnot (fun ⟨h', hh', w1, w2⟩ => w2 (by rw [p_str_u hh' hh w1 hs0]; exact a))⟩⟩
            show B_X11_turned_106 N cd ct hs k72 _ o q1 (nI l) now (nI others) x6 (nI s) (wk_bI false) (nI i) = _
            rw [e4, if_neg (nI_pos (by omega)), if_pos a]
          · refine ⟨(t, true), ?_, Or.inl ⟨rfl, hin ⟨h, hh, hs0, a⟩⟩⟩
            show B_X11_turned_106 N cd ct hs k72 _ o q1 (nI l) now (nI others) x6 (nI s) (wk_bI false) (nI i) = _
            rw [e4, if_neg (nI_pos (by omega)), if_neg a]
        · refine ⟨(t, false), ?_, Or.inr ⟨rfl, hnot (fun ⟨h', hh', w1, w2⟩ => hn0 h' hh' w1)⟩⟩
          show B_X11_turned_106 N cd ct hs k72 _ o q1 (nI l) now (nI others) x6 (nI s) (wk_bI false) (nI i) = _
          rw [e4, if_pos (by decide)]
  · intro m q hI
    obtain ⟨q1, q2⟩ := q
    show ∃ (of : Nat → Int32) (x6' : Int32), B_X11_turned_106 N cd ct hs k72 _ o q1 (nI l) now (nI others) x6 (nI s) (wk_bI q2) (nI e) = _ ∧ _
    rw [B_X11_turned_106, if_pos (show (32768 : Int32) ≤ nI e by rw [he]; decide), B_X11_turned_168]
    dsimp only at hI
    rcases hI with ⟨rfl, hE⟩ | ⟨rfl, hE⟩
    · rw [if_neg fd, p_nm, nI_1]; exact ⟨q1, nI s, rfl, Or.inl ⟨hE, rfl⟩⟩
    · rw [if_pos fe, p_nm, nI_1]; exact ⟨q1, x6, rfl, Or.inr ⟨hE, rfl⟩⟩
/-- the check's best set -/
def p_best (T : (Nat → Nat) → Nat → Nat) (others n : Nat) (std : Int32) (i : Nat) (x : Int32) : Prop := (x = -4 ∧ ∀ s, 1 ≤ s → s < i → ¬ p_E T others n std s 32768) ∨ ∃ b, x = nI b ∧ 1 ≤ b ∧ b < i ∧ p_E T others n std b 32768 ∧ ∀ s, 1 ≤ s → s < i → p_E T others n std s 32768 → p_kle b s
theorem p_turn11 (N : Nat) (hN : 32800 ≤ N) {ct : Nat → Int32} {n : Nat} {vt : Nat → Nat → Int32} (hT : ∀ d h, p_T ct vt n d h ≤ 40) (cd hs : Nat → Int32) {o : Nat → Int32} (ho : ∀ cy, cy < 5 → ∀ l, 1 ≤ l → l ≤ 5 → ∀ h, h < 4 → o (24 * cy + 4 * l + h) = nI (p_cnt (p_sel ct (nI cy) (vt l) h) n)) {others l : Nat} (hr : others < 32) (hl1 : 1 ≤ l) (hl5 : l ≤ 5) (now : Int32) (uf : Nat → Int32) :
    ∃ (of : Nat → Int32) (r : Int32), wk_loop (fun k72 : (Nat → Int32) → (Nat → Int32) → Int32 → Int32 → Int32 → Int32 → Int32 → Option (Int32 × (Nat → Int32) × (Nat → Int32)) => B_X11_turned_72 N cd ct hs k72) (fun _ _ _ _ _ _ _ => none) N o uf (nI l) now (nI others) (-4 : Int32) (1 : Int32) = some (r, o, of) ∧ p_best (p_T ct vt n) others l now 32 r := by
  obtain ⟨z, hz⟩ : ∃ z : Nat, z = 1 := ⟨_, rfl⟩
  obtain ⟨e, he⟩ : ∃ e : Nat, e = 32 := ⟨_, rfl⟩
  rw [show (1 : Int32) = nI z by rw [hz]; rfl, ← he]
  refine p_run (σ := (Nat → Int32) × Int32)
    (W := fun m i q => wk_loop (fun k72 : (Nat → Int32) → (Nat → Int32) → Int32 → Int32 → Int32 → Int32 → Int32 → Option (Int32 × (Nat → Int32) × (Nat → Int32)) => B_X11_turned_72 N cd ct hs k72) (fun _ _ _ _ _ _ _ => none) m o q.1 (nI l) now (nI others) q.2 (nI i))
    (fun i q => 1 ≤ i ∧ p_best (p_T ct vt n) others l now i q.2)
    (fun A => ∃ (of : Nat → Int32) (r : Int32), A = some (r, o, of) ∧ p_best (p_T ct vt n) others l now e r) e ?_ ?_ (e - z) N z (uf, -4) (by omega) (by omega) ⟨by omega, Or.inl ⟨rfl, fun s h1 h2 => absurd h2 (by omega)⟩⟩
  · intro m i q hi hI
    obtain ⟨q1, q2⟩ := q
    obtain ⟨i1, hI⟩ := hI
    dsimp only at hI
    have g : ¬ (32 : Int32) ≤ nI i := nI_ge (b := 32) (by omega) (by omega)
    obtain ⟨k72, hk72⟩ : ∃ q, q = wk_loop (fun k72 : (Nat → Int32) → (Nat → Int32) → Int32 → Int32 → Int32 → Int32 → Int32 → Option (Int32 × (Nat → Int32) × (Nat → Int32)) => B_X11_turned_72 N cd ct hs k72) (fun _ _ _ _ _ _ _ => none) m := ⟨_, rfl⟩
    obtain ⟨of, x6', e1, hx⟩ := p_turn1 N hN hT cd hs ho hr hl1 hl5 (s := i) (by omega) now q2 q1 k72
    rcases hI with ⟨rfl, hno⟩ | ⟨b, rfl, b1, b2, b3, b4⟩
    · refine ⟨(of, x6'), ?_, by omega, ?_⟩
      · show B_X11_turned_72 N cd ct hs (wk_loop (fun k72 : (Nat → Int32) → (Nat → Int32) → Int32 → Int32 → Int32 → Int32 → Int32 → Option (Int32 × (Nat → Int32) × (Nat → Int32)) => B_X11_turned_72 N cd ct hs k72) (fun _ _ _ _ _ _ _ => none) m) o q1 (nI l) now (nI others) (-4) (nI i) = _
        rw [← hk72, B_X11_turned_72, if_neg g, if_pos (by decide), e1]
      · rcases hx with ⟨hE, rfl⟩ | ⟨hE, rfl⟩
        · refine Or.inr ⟨i, rfl, i1, by omega, hE, fun s h1 h2 h3 => ?_⟩
          by_cases d : s = i
          · subst d; exact p_kle_r _
          · exact absurd h3 (hno s h1 (by omega))
        · refine Or.inl ⟨rfl, fun s h1 h2 => ?_⟩
          by_cases d : s = i
          · subst d; exact hE
          · exact hno s h1 (by omega)
    · have hpi := p_pc8_le i
      have hpb := p_pc8_le b
      by_cases a : p_pc8 i < p_pc8 b
      · refine ⟨(of, x6'), ?_, by omega, ?_⟩
        · show B_X11_turned_72 N cd ct hs (wk_loop (fun k72 : (Nat → Int32) → (Nat → Int32) → Int32 → Int32 → Int32 → Int32 → Int32 → Option (Int32 × (Nat → Int32) × (Nat → Int32)) => B_X11_turned_72 N cd ct hs k72) (fun _ _ _ _ _ _ _ => none) m) o q1 (nI l) now (nI others) (nI b) (nI i) = _
          rw [← hk72, B_X11_turned_72, if_neg g, if_neg (nI_pos (by omega)), p_size N (by omega) (by omega), p_b1, p_size N (by omega) (by omega), p_b1, if_pos (nI_lt a (by omega)), e1]
        · rcases hx with ⟨hE, rfl⟩ | ⟨hE, rfl⟩
          · refine Or.inr ⟨i, rfl, i1, by omega, hE, fun s h1 h2 h3 => ?_⟩
            by_cases d : s = i
            · subst d; exact p_kle_r _
            · exact p_kle_t (Or.inl a) (b4 s h1 (by omega) h3)
          · refine Or.inr ⟨b, rfl, b1, by omega, b3, fun s h1 h2 h3 => ?_⟩
            by_cases d : s = i
            · subst d; exact absurd h3 hE
            · exact b4 s h1 (by omega) h3
      · refine ⟨(q1, nI b), ?_, by omega, Or.inr ⟨b, rfl, b1, by omega, b3, fun s h1 h2 h3 => ?_⟩⟩
        · show B_X11_turned_72 N cd ct hs (wk_loop (fun k72 : (Nat → Int32) → (Nat → Int32) → Int32 → Int32 → Int32 → Int32 → Int32 → Option (Int32 × (Nat → Int32) × (Nat → Int32)) => B_X11_turned_72 N cd ct hs k72) (fun _ _ _ _ _ _ _ => none) m) o q1 (nI l) now (nI others) (nI b) (nI i) = _
          rw [B_X11_turned_72, if_neg g, if_neg (nI_pos (by omega)), p_size N (by omega) (by omega), p_b1, p_size N (by omega) (by omega), p_b1, if_neg (nI_nlt (by omega) (by omega)), p_nm, nI_1]
        · by_cases d : s = i
          · subst d; unfold p_kle; omega
          · exact b4 s h1 (by omega) h3
  · intro m q hI
    refine ⟨q.1, q.2, ?_, hI.2⟩
    show B_X11_turned_72 N cd ct hs _ o q.1 (nI l) now (nI others) q.2 (nI e) = _
    rw [B_X11_turned_72, if_pos (show (32 : Int32) ≤ nI e by rw [he]; decide)]
theorem p_drop2 : ∀ j, j < 5 → ∀ l, l < 32 → ∃ l', l' < 32 ∧ nI l &&& (((1 : Int32) <<< (nI j &&& 31)) ^^^ (-1 : Int32)) = nI l' ∧ ∀ c, c < 5 → l'.testBit c = (l.testBit c && decide (c ≠ j)) := by decide +kernel
theorem p_sub5 : ∀ a, a < 32 → ∀ b, b < 32 → (∀ c, c < 5 → a.testBit c = true → b.testBit c = true) → p_pc8 a < p_pc8 b ∨ (p_pc8 a = p_pc8 b ∧ a ≤ b) := by decide +kernel
theorem p_lv_t (base : Nat) (d : Nat → Nat) {c : Nat} (hc : c < 5) : (p_lv base d).testBit c = decide (d c ≠ base) := by
  unfold p_lv
  rw [p_bits_t, decide_eq_true hc, Bool.true_and]
theorem p_n4p : ∀ v : Int32, (v = -4 ∨ ∃ h : Nat, h < 4 ∧ v = nI h) → (0 ≤ v ↔ v ≠ -4) := by
  rintro v (rfl | ⟨h, hh, rfl⟩)
  · exact ⟨fun q => absurd q (by decide), fun q => absurd rfl q⟩
  · exact ⟨fun _ => p_n44 h hh, fun _ => nI_pos' (by omega)⟩
theorem q_turned (N : Nat) (hN : 32800 ≤ N) {pz : Int32} {pc st cd ct hs : Nat → Int32} {k : Nat} (hP : RPile pz pc st cd ct hs 0 k) (b0 f0 s0 w0 l0 e0 : Int32) (ch vo dm ss ub uf : Nat → Int32) (x y z : Int32) :
    ∃ r b' f' s' w' l' e' ch' vo' od os ob of, f_X10_turned N pz pc st b0 f0 s0 w0 l0 e0 ch vo dm ss x y z = some (r, b', f', s', w', l', e', ch', vo', od, os) ∧ f_X11_turned N cd ct hs ub uf x y z = some (r, ob, of) := by
  have fd : ¬ wk_bI true = 0 := by decide
  have fe : wk_bI false = 0 := rfl
  unfold f_X10_turned f_X11_turned
  rw [p_isRace, p_b1, p_inI, p_b1, show (0 : Int64).toInt = 0 from rfl, show (2 : Int64).toInt = 2 from rfl]
  by_cases a : 0 ≤ x.toInt ∧ x.toInt ≤ 2
  · rw [decide_eq_true a, if_neg fd, if_neg fd, p_isRule, p_b1, p_inI, p_b1, show (1 : Int64).toInt = 1 from rfl, show (5 : Int64).toInt = 5 from rfl]
    by_cases b : 1 ≤ y.toInt ∧ y.toInt ≤ 5
    · rw [decide_eq_true b, if_neg fd, if_neg fd, p_isRuleSet, p_b1, p_inI, p_b1, show (1 : Int64).toInt = 1 from rfl, show (31 : Int64).toInt = 31 from rfl]
      by_cases c : 1 ≤ z.toInt ∧ z.toInt ≤ 31
      · rw [decide_eq_true c, if_neg fd, if_neg fd]
        obtain ⟨r, hr, rfl⟩ := p_of (n := 2) a.1 a.2
        obtain ⟨l, hl5, rfl⟩ := p_of (n := 5) (by omega) b.2
        have hl1 : 1 ≤ l := by have := b.1; rw [nI_toInt (by omega)] at this; omega
        obtain ⟨rules, hrl, rfl⟩ := p_of (n := 31) (by omega) c.2
        obtain ⟨vt, hv⟩ := p_vtr N (by omega) hP (r := r) (by omega)
        obtain ⟨hk, rfl, hcd, hco, -⟩ := hP
        have hct : ∀ j, j < k → ∃ c, c < 5 ∧ ct j = nI c := fun j hj => by
          obtain ⟨q, c, hc, q2⟩ := hco j hj
          rw [Nat.mul_zero, Nat.zero_add] at q
          exact ⟨c, hc, q.symm.trans q2⟩
        have hpc : ∀ j, j < k → pc j = ct j := fun j hj => by
          obtain ⟨q, -⟩ := hco j hj
          rw [Nat.mul_zero, Nat.zero_add] at q
          exact q
        have hT : ∀ d h, p_T ct vt k d h ≤ 40 := fun d h => Nat.le_trans (p_tp_le vt d h (Nat.le_refl 5) k hct) hk
        have hTc : ∀ d d' : Nat → Nat, (∀ c, c < 5 → d c = d' c) → p_T ct vt k d = p_T ct vt k d' := fun d d' h => funext (fun g => p_tp_d 5 h)
        obtain ⟨od, os, vo', e1, hV⟩ := p_learn0 N (by omega) hk hpc (fun l c hc => ⟨(hv l c hc).1, (hv l c hc).2.2⟩) dm ss vo
        obtain ⟨v, ob, of, e2, hvw, ho⟩ := q_byM N (by omega) hk hcd hct (r := r) (by omega) (fun l c hc => (hv l c hc).2) ub uf hl1 hl5
        obtain ⟨v2, hv2, e3⟩ := p_won N (by omega) (c := p_T ct vt k (fun _ => l)) (hT _)
        have ev : v2 = v := by
          refine p_isw_1 hv2 ?_
          have : p_T ct vt k (fun _ => l) = fun g => p_cnt (p_sel ct 5 (vt l) g) k := funext (fun g => p_tp_all vt l g k hct)
          rw [this]; exact hvw
        subst ev
        have e4 : f_X0_winnerBy N vo' (nI l) = some v2 := by rw [p_winBy N (by omega) hV hl1 hl5]; exact e3
        have hvc : v2 = -4 ∨ ∃ h : Nat, h < 4 ∧ v2 = nI h := by
          rcases hv2 with ⟨h, hh, q, -⟩ | ⟨q, -⟩
          · exact Or.inr ⟨h, hh, q⟩
          · exact Or.inl q
        rw [e1, p_b3, e4, p_b1, e2, p_b3]
        by_cases d : v2 = -4
        · rw [if_pos d, if_neg (fun q => ((p_n4p v2 hvc).mp q) d)]
          exact ⟨_, _, _, _, _, _, _, _, _, _, _, _, _, rfl, rfl⟩
        · obtain ⟨others, ho32, eo, hot⟩ := p_drop2 (l - 1) (by omega) rules (by omega)
          have esub : nI l - (1 : Int32) = nI (l - 1) := by rw [show (1 : Int32) = nI 1 from rfl, pk_sub hl1]
          rw [if_neg d, if_pos ((p_n4p v2 hvc).mpr d), esub, eo, p_nm]
          have hino : ∀ q, p_inR others q ↔ (p_inR rules q ∧ q ≠ l) := by
            intro q
            unfold p_inR
            constructor
            · rintro ⟨q1, q2, q3⟩
              rw [hot (q - 1) (by omega), Bool.and_eq_true, decide_eq_true_iff] at q3
              exact ⟨⟨q1, q2, q3.1⟩, by omega⟩
            · rintro ⟨⟨q1, q2, q3⟩, q4⟩
              refine ⟨q1, q2, ?_⟩
              rw [hot (q - 1) (by omega), q3, Bool.true_and, decide_eq_true_iff]
              omega
          obtain ⟨of2, best, e5, hbest⟩ := p_turn11 N hN hT cd hs ho ho32 hl1 hl5 v2 of
          obtain ⟨C, w', ld', fw', ch', hC, e6, -, -, hF⟩ := p_try N (by omega) hk hT hV (fv := 0) (base := l) (rules := rules) (by omega) hl5 (by omega) (std := v2) (Or.inr ⟨by omega, e4⟩) b0 f0 s0 w0 l0 e0 ch
          have e6' : f_X0_tryAll N vo' b0 f0 s0 w0 l0 e0 ch (nI l) (nI rules) 0 = some (nI l, nI 0, v2, w', ld', fw', ch') := e6
          rw [e6', p_b7', e5]
          -- a mixture of the class is one of the check's sets
          have toE : ∀ dd, p_ext C 0 (fun _ => 0) dd → p_tn (p_T ct vt k) v2 dd → 1 ≤ p_lv l dd ∧ p_lv l dd < 32 ∧ p_E (p_T ct vt k) others l v2 (p_lv l dd) 32768 := by
            intro dd hd ht
            have hin : ∀ c, c < 5 → dd c ≠ l → p_inR others (dd c) := fun c hc hne => by
              rcases (hC c hc).2.1 (dd c) (hd.2 c (by omega) hc) with q | q
              · exact absurd q hne
              · exact (hino _).mpr ⟨q, hne⟩
            have h7 : ∀ c, c < 5 → dd c ≤ 7 := fun c hc => by have := (hd.2 c (by omega) hc).2.1; omega
            refine ⟨?_, p_lv_lt l dd, dd, ⟨p_enc dd, p_enc_lt h7, fun c hc => ⟨fun q => ?_, fun q => ?_⟩, fun c hc => (p_enc_dg h7 c hc).symm⟩, ht⟩
            · refine Classical.byContradiction (fun ne => ?_)
              have h0 : p_lv l dd = 0 := by omega
              have hall : ∀ c, c < 5 → dd c = l := fun c hc => by
                have := p_lv_t l dd hc
                rw [h0, Nat.zero_testBit] at this
                exact Classical.byContradiction (fun q => by rw [decide_eq_true q] at this; cases this)
              obtain ⟨h, hh, hs0, hne⟩ := ht
              rw [hTc dd (fun _ => l) hall] at hs0
              rcases hv2 with ⟨h', hh', q1, q2⟩ | ⟨q1, q2⟩
              · exact hne (by rw [p_str_u hh hh' hs0 q2, q1])
              · exact q2 h hh hs0
            · rw [p_lv_t l dd hc, decide_eq_true_iff] at q
              rw [p_enc_dg h7 c hc]
              exact hin c hc q
            · rw [p_lv_t l dd hc] at q
              rw [p_enc_dg h7 c hc]
              exact Classical.byContradiction (fun w => by rw [decide_eq_true w] at q; cases q)
          -- to each of the check's sets one of the class's mixtures, no more turned
          have ofE : ∀ s, s < 32 → p_E (p_T ct vt k) others l v2 s 32768 → ∃ dd, p_ext C 0 (fun _ => 0) dd ∧ p_tn (p_T ct vt k) v2 dd ∧ p_kle (p_lv l dd) s := by
            rintro s hs32 ⟨dd, ⟨m, hm, h1, h2⟩, ht⟩
            have hcs : ∀ c, c < 5 → p_inR rules (dd c) ∨ (l ≠ 0 ∧ dd c = l) := fun c hc => by
              cases q : s.testBit c with
              | true => exact Or.inl ((hino _).mp (by rw [h2 c hc]; exact (h1 c hc).1 q)).1
              | false => exact Or.inr ⟨by omega, by rw [h2 c hc]; exact (h1 c hc).2 q⟩
            obtain ⟨d', q1, q2, q3⟩ := p_alt hC hcs
            refine ⟨d', q1, p_tn4 q2 ht, p_sub5 _ (p_lv_lt l d') s hs32 (fun c hc hq => ?_)⟩
            rw [p_lv_t l d' hc, decide_eq_true_iff] at hq
            cases w : s.testBit c with
            | true => rfl
            | false => exact absurd (q3 c hc (by rw [h2 c hc]; exact (h1 c hc).2 w) (by omega)) hq
          have efin : fw' = best := by
            rcases hF with ⟨rfl, f1⟩ | ⟨dd, f1, f2, rfl, f4⟩
            · rcases hbest with ⟨rfl, -⟩ | ⟨bb, rfl, b1, b2, b3, b4⟩
              · rfl
              · obtain ⟨d', q1, q2, -⟩ := ofE bb b2 b3
                exact absurd q2 (f1 d' q1)
            · obtain ⟨t1, t2, t3⟩ := toE dd f1 f2
              rcases hbest with ⟨rfl, g1⟩ | ⟨bb, rfl, b1, b2, b3, b4⟩
              · exact absurd t3 (g1 _ t1 t2)
              · obtain ⟨d', q1, q2, q3⟩ := ofE bb b2 b3
                have k1 := b4 _ t1 t2 t3
                have k2 := p_kle_t (f4 d' q1 q2) q3
                rw [p_kle_a k2 k1]
          unfold f_X0_fewest
          rw [p_b1, efin]
          exact ⟨_, _, _, _, _, _, _, _, _, _, _, _, _, rfl, rfl⟩
      · rw [decide_eq_false c, if_pos fe, if_pos fe]; exact ⟨_, _, _, _, _, _, _, _, _, _, _, _, _, rfl, rfl⟩
    · rw [decide_eq_false b, if_pos fe, if_pos fe]; exact ⟨_, _, _, _, _, _, _, _, _, _, _, _, _, rfl, rfl⟩
  · rw [decide_eq_false a, if_pos fe, if_pos fe]; exact ⟨_, _, _, _, _, _, _, _, _, _, _, _, _, rfl, rfl⟩
