/-! PURE: fault; the items of a text without fault -/
def p_ps (T : Nat → Nat) (L : Nat) : Nat → Nat | 0 => 0 | i + 1 => p_nxt T L (p_ps T L i)
def p_good (T : Nat → Nat) (L i : Nat) : Prop := p_ps T L i < L ∧ p_IT T L (p_ps T L i)
theorem p_okn_le (T : Nat → Nat) (L : Nat) : ∀ k q, p_okn T L k q → q + 2 * k ≤ p_ats T L k q ∧ (0 < k → p_ats T L k q < L) := by
  intro k
  induction k with
  | zero => intro q _; exact ⟨Nat.le_refl q, fun h => absurd h (by omega)⟩
  | succ k ih =>
    intro q h
    obtain ⟨h1, h2, h3⟩ := h
    obtain ⟨i1, i2⟩ := ih _ h3
    have e : p_ats T L (k + 1) q = p_ats T L k (p_nx1 T L q) := rfl
    have f : p_nx1 T L q = q + 1 + p_fg T L (q + 1) := rfl
    rw [e]
    refine ⟨by omega, fun _ => ?_⟩
    by_cases a : k = 0
    · subst a; exact h2.1
    · exact i2 (by omega)
theorem p_IT_le {T : Nat → Nat} {L s : Nat} (h : p_IT T L s) : s + 5 ≤ p_nxt T L s ∧ p_nxt T L s ≤ L := by
  obtain ⟨h1, h2⟩ := p_okn_le T L _ s h.2.1
  have hm : 2 ≤ p_many (p_kd (T s)) := by unfold p_many; split <;> (try split) <;> omega
  unfold p_nxt
  have := h2 (by omega)
  omega
/-- how many items there are ahead of the first fault or the end -/
theorem p_items (T : Nat → Nat) {L : Nat} (hL : L ≤ 200) : ∃ n, n ≤ 40 ∧ (∀ j, j < n → p_good T L j) ∧ ¬ p_good T L n ∧ p_ps T L n ≤ L := by
  have key : ∀ n, (∀ j, j < n → p_good T L j) → 5 * n ≤ p_ps T L n ∧ p_ps T L n ≤ L := by
    intro n
    induction n with
    | zero => intro _; exact ⟨Nat.le_refl 0, Nat.zero_le L⟩
    | succ n ih =>
      intro h
      have h1 := ih (fun j hj => h j (by omega))
      have h2 := p_IT_le (h n (by omega)).2
      have e : p_ps T L (n + 1) = p_nxt T L (p_ps T L n) := rfl
      omega
  obtain ⟨n, h1, h2⟩ := pk_least (fun n => ¬ p_good T L n) (by
    refine Classical.byContradiction (fun c => ?_)
    have h : ∀ j, p_good T L j := fun j => Classical.byContradiction (fun d => c ⟨j, d⟩)
    have := key 40 (fun j _ => h j)
    have := (h 40).1
    omega)
  have h3 : ∀ j, j < n → p_good T L j := fun j hj => Classical.byContradiction (h2 j hj)
  refine ⟨n, ?_, h3, h1, (key n h3).2⟩
  refine Classical.byContradiction (fun c => ?_)
  have := key 40 (fun j hj => h3 j (by omega))
  have := (h3 40 (by omega)).1
  omega
theorem p_b6 {a1 a2 a3 a4 a5 a6 δ : Type} (a : a1) (b : a2) (c : a3) (d : a4) (e : a5) (f : a6) (k : a1 → a2 → a3 → a4 → a5 → a6 → Option δ) : wk_b6 (some (a, b, c, d, e, f)) k = k a b c d e f := rfl
theorem p_b13 {a1 a2 a3 a4 a5 a6 a7 a8 a9 b1 b2 b3 b4 δ : Type} (a : a1) (b : a2) (c : a3) (d : a4) (e : a5) (f : a6) (g : a7) (h : a8) (i : a9) (j : b1) (k' : b2) (l : b3) (m : b4) (k : a1 → a2 → a3 → a4 → a5 → a6 → a7 → a8 → a9 → b1 → b2 → b3 → b4 → Option δ) : wk_b13 (some (a, b, c, d, e, f, g, h, i, j, k', l, m)) k = k a b c d e f g h i j k' l m := rfl
/-- the class's fault -/
theorem p_fault0 (N : Nat) (hN : 401 ≤ N) {L : Nat} (hL : L ≤ 200) {tb : Nat → Int32} {T : Nat → Nat} (hT : ∀ k, k < L → T k < 256 ∧ tb k = nI (T k)) {n : Nat} (hn : n ≤ 40) (hg : ∀ j, j < n → p_good T L j) (hb : ¬ p_good T L n) (hps : p_ps T L n ≤ L) (bh kd cy rk vl hr : Int32) (nm : Nat → Int32) :
    ∃ b' k' c' r' v' h' nm', f_X9_firstFault N (nI L) tb bh kd cy rk vl hr nm = some (if p_ps T L n < L then nI (p_ps T L n) else -4, b', k', c', r', v', h', nm') := by
  have fd : ¬ wk_bI true = 0 := by decide
  have fe : wk_bI false = 0 := rfl
  unfold f_X9_firstFault
  rw [show (0 : Int32) = nI 0 from rfl]
  refine p_run (σ := Int32 × Int32 × Int32 × Int32 × Int32 × Int32 × (Nat → Int32))
    (W := fun m i s' => wk_loop (fun k4 : Int32 → Int32 → Int32 → Int32 → Int32 → Int32 → (Nat → Int32) → Int32 → Int32 → Option (Int32 × Int32 × Int32 × Int32 × Int32 × Int32 × Int32 × (Nat → Int32)) => B_X9_firstFault_4 N (nI L) tb k4) (fun _ _ _ _ _ _ _ _ _ => none) m s'.1 s'.2.1 s'.2.2.1 s'.2.2.2.1 s'.2.2.2.2.1 s'.2.2.2.2.2.1 s'.2.2.2.2.2.2 (nI (p_ps T L i)) (nI i))
    (fun _ _ => True) (fun A => ∃ b' k' c' r' v' h' nm', A = some (if p_ps T L n < L then nI (p_ps T L n) else -4, b', k', c', r', v', h', nm')) n ?_ ?_ n N 0 (bh, kd, cy, rk, vl, hr, nm) (by omega) (by omega) trivial
  · intro m i s' hi _
    obtain ⟨b0, k0, c0, r0, v0, h0, n0⟩ := s'
    obtain ⟨g1, g2⟩ := hg i hi
    obtain ⟨nm', e1⟩ := (p_read N (by omega) hL hT b0 k0 c0 r0 v0 h0 n0 g1).1 g2
    refine ⟨(nI (p_nxt T L (p_ps T L i)), nI (p_kd (T (p_ps T L i))), nI (p_cn T L (p_ps T L i) (p_kd (T (p_ps T L i)))), nI (p_rn T L (p_ps T L i) (p_kd (T (p_ps T L i)))), nI (p_vn T L (p_ps T L i) (p_kd (T (p_ps T L i)))), nI (p_hn T L (p_ps T L i) (p_kd (T (p_ps T L i)))), nm'), ?_, trivial⟩
    show B_X9_firstFault_4 N (nI L) tb _ b0 k0 c0 r0 v0 h0 n0 (nI (p_ps T L i)) (nI i) = _
    rw [B_X9_firstFault_4, if_neg (show ¬ (200 : Int32) ≤ nI i from nI_ge (b := 200) (by omega) (by omega)), if_neg (nI_ge g1 (by omega)), e1, p_b8, if_neg fd, p_nm, nI_1]
    rfl
  · intro m s' _
    obtain ⟨b0, k0, c0, r0, v0, h0, n0⟩ := s'
    show ∃ b' k' c' r' v' h' nm', B_X9_firstFault_4 N (nI L) tb _ b0 k0 c0 r0 v0 h0 n0 (nI (p_ps T L n)) (nI n) = _
    rw [B_X9_firstFault_4, if_neg (show ¬ (200 : Int32) ≤ nI n from nI_ge (b := 200) (by omega) (by omega))]
    by_cases a : p_ps T L n < L
    · obtain ⟨b', k', c', r', v', h', nm', e1⟩ := (p_read N (by omega) hL hT b0 k0 c0 r0 v0 h0 n0 a).2 (fun c => hb ⟨a, c⟩)
      rw [if_neg (nI_ge a (by omega)), e1, p_b8, if_pos fe, if_pos a]
      exact ⟨_, _, _, _, _, _, _, rfl⟩
    · rw [if_pos (nI_le (by omega) (by omega)), if_neg a]
      exact ⟨_, _, _, _, _, _, _, rfl⟩
/-- the rows of items -/
def p_rows (T : Nat → Nat) (L n : Nat) (hr lt rk vl wh : Nat → Int32) : Prop := ∀ k, k < n → hr k = nI (p_hn T L (p_ps T L k) (p_kd (T (p_ps T L k)))) ∧ lt k = nI (p_kd (T (p_ps T L k))) ∧ rk k = nI (p_rn T L (p_ps T L k) (p_kd (T (p_ps T L k)))) ∧ vl k = nI (p_vn T L (p_ps T L k) (p_kd (T (p_ps T L k)))) ∧ wh k = nI (p_cn T L (p_ps T L k) (p_kd (T (p_ps T L k))))
theorem p_rows_s {T : Nat → Nat} {L n : Nat} {hr lt rk vl wh : Nat → Int32} (h : p_rows T L n hr lt rk vl wh) : p_rows T L (n + 1) (upd hr n (nI (p_hn T L (p_ps T L n) (p_kd (T (p_ps T L n)))))) (upd lt n (nI (p_kd (T (p_ps T L n))))) (upd rk n (nI (p_rn T L (p_ps T L n) (p_kd (T (p_ps T L n)))))) (upd vl n (nI (p_vn T L (p_ps T L n) (p_kd (T (p_ps T L n)))))) (upd wh n (nI (p_cn T L (p_ps T L n) (p_kd (T (p_ps T L n)))))) := by
  intro k hk
  by_cases a : k = n
  · subst a
    simp only [pk_us]
    exact ⟨trivial, trivial, trivial, trivial, trivial⟩
  · simp only [pk_un a]
    exact h k (by omega)
theorem p_fault1 (N : Nat) (hN : 401 ≤ N) {L : Nat} (hL : L ≤ 200) {ut : Nat → Int32} {T : Nat → Nat} (hT : ∀ k, k < L → T k < 256 ∧ ut k = sb_b (T k)) {n : Nat} (hn : n ≤ 40) (hg : ∀ j, j < n → p_good T L j) (hb : ¬ p_good T L n) (hps : p_ps T L n ≤ L) (it at' : Int32) (hr lt rk vl wh : Nat → Int32) :
    ∃ a' hr' lt' rk' vl' wh', f_X11_fault N (nI L) ut it at' hr lt rk vl wh = some (if p_ps T L n < L then nI (p_ps T L n) else -4, nI n, a', hr', lt', rk', vl', wh') ∧ p_rows T L n hr' lt' rk' vl' wh' := by
  have fd : ¬ wk_bI true = 0 := by decide
  have fe : wk_bI false = 0 := rfl
  unfold f_X11_fault
  rw [show (0 : Int32) = nI 0 from rfl]
  refine p_run (σ := (Nat → Int32) × (Nat → Int32) × (Nat → Int32) × (Nat → Int32) × (Nat → Int32))
    (W := fun m i s' => wk_loop (fun k10 : Int32 → Int32 → (Nat → Int32) → (Nat → Int32) → (Nat → Int32) → (Nat → Int32) → (Nat → Int32) → Option (Int32 × Int32 × Int32 × (Nat → Int32) × (Nat → Int32) × (Nat → Int32) × (Nat → Int32) × (Nat → Int32)) => B_X11_fault_10 N (nI L) ut k10) (fun _ _ _ _ _ _ _ => none) m (nI i) (nI (p_ps T L i)) s'.1 s'.2.1 s'.2.2.1 s'.2.2.2.1 s'.2.2.2.2)
    (fun i s' => p_rows T L i s'.1 s'.2.1 s'.2.2.1 s'.2.2.2.1 s'.2.2.2.2) (fun A => ∃ a' hr' lt' rk' vl' wh', A = some (if p_ps T L n < L then nI (p_ps T L n) else -4, nI n, a', hr', lt', rk', vl', wh') ∧ p_rows T L n hr' lt' rk' vl' wh') n ?_ ?_ n N 0 (hr, lt, rk, vl, wh) (by omega) (by omega) (fun k hk => absurd hk (by omega))
  · intro m i s' hi hI
    obtain ⟨a1, a2, a3, a4, a5⟩ := s'
    obtain ⟨g1, g2⟩ := hg i hi
    have e1 := (p_reads N hN hL hT (i := i) (by omega) a1 a2 a3 a4 a5 g1).1 g2
    refine ⟨(upd a1 i (nI (p_hn T L (p_ps T L i) (p_kd (T (p_ps T L i))))), upd a2 i (nI (p_kd (T (p_ps T L i)))), upd a3 i (nI (p_rn T L (p_ps T L i) (p_kd (T (p_ps T L i))))), upd a4 i (nI (p_vn T L (p_ps T L i) (p_kd (T (p_ps T L i))))), upd a5 i (nI (p_cn T L (p_ps T L i) (p_kd (T (p_ps T L i)))))), ?_, p_rows_s hI⟩
    show B_X11_fault_10 N (nI L) ut _ (nI i) (nI (p_ps T L i)) a1 a2 a3 a4 a5 = _
    rw [B_X11_fault_10, if_neg (nI_ge g1 (by omega)), e1, p_b8, if_neg fd]
    rfl
  · intro m s' hI
    obtain ⟨a1, a2, a3, a4, a5⟩ := s'
    show ∃ a' hr' lt' rk' vl' wh', B_X11_fault_10 N (nI L) ut _ (nI n) (nI (p_ps T L n)) a1 a2 a3 a4 a5 = _ ∧ _
    rw [B_X11_fault_10]
    by_cases a : p_ps T L n < L
    · by_cases n40 : n < 40
      · obtain ⟨at'', e1⟩ := (p_reads N hN hL hT (i := n) n40 a1 a2 a3 a4 a5 a).2 (fun c => hb ⟨a, c⟩)
        rw [if_neg (nI_ge a (by omega)), e1, p_b8, if_pos fe, if_pos a]
        exact ⟨_, _, _, _, _, _, rfl, hI⟩
      · exfalso
        have key : ∀ j, j ≤ n → 5 * j ≤ p_ps T L j := by
          intro j
          induction j with
          | zero => intro _; exact Nat.le_refl 0
          | succ j ih =>
            intro h
            have h1 := ih (by omega)
            have h2 := p_IT_le (hg j (by omega)).2
            have e : p_ps T L (j + 1) = p_nxt T L (p_ps T L j) := rfl
            omega
        have := key n (Nat.le_refl n)
        omega
    · rw [if_pos (nI_le (by omega) (by omega)), if_neg a]
      exact ⟨_, _, _, _, _, _, rfl, hI⟩
theorem p_textT {L : Nat} {tb ut : Nat → Int32} (h : ∀ k, k < L → ∃ b, b < 256 ∧ tb k = nI b ∧ ut k = sb_b b) : ∃ T : Nat → Nat, (∀ k, k < L → T k < 256 ∧ tb k = nI (T k)) ∧ ∀ k, k < L → T k < 256 ∧ ut k = sb_b (T k) := by
  have hb : ∀ k, ∃ b, k < L → (b < 256 ∧ tb k = nI b ∧ ut k = sb_b b) := by
    intro k
    by_cases a : k < L
    · obtain ⟨b, hb⟩ := h k a
      exact ⟨b, fun _ => hb⟩
    · exact ⟨0, fun c => absurd c a⟩
  exact ⟨fun k => Classical.choose (hb k), fun k hk => ⟨(Classical.choose_spec (hb k) hk).1, (Classical.choose_spec (hb k) hk).2.1⟩, fun k hk => ⟨(Classical.choose_spec (hb k) hk).1, (Classical.choose_spec (hb k) hk).2.2⟩⟩
theorem q_fault (N : Nat) (hN : 401 ≤ N) {len ul : Int32} {tb ut : Nat → Int32} (hX : RText len tb ul ut) (bh kd cy rk vl hr : Int32) (nm : Nat → Int32) (it at' : Int32) (uh lt urk uvl wh : Nat → Int32) :
    ∃ r b' k' c' r' v' h' nm' i' a' hr' lt' rk' vl' wh', f_X10_fault N len tb bh kd cy rk vl hr nm = some (r, b', k', c', r', v', h', nm') ∧ f_X11_fault N ul ut it at' uh lt urk uvl wh = some (r, i', a', hr', lt', rk', vl', wh') := by
  obtain ⟨L, hL, rfl, rfl, hX2⟩ := hX
  obtain ⟨T, h1, h2⟩ := p_textT hX2
  obtain ⟨n, hn, hg, hb, hps⟩ := p_items T hL
  obtain ⟨b', k', c', r', v', h', nm', e1⟩ := p_fault0 N hN hL h1 hn hg hb hps bh kd cy rk vl hr nm
  obtain ⟨a', hr', lt', rk', vl', wh', e2, -⟩ := p_fault1 N hN hL h2 hn hg hb hps it at' uh lt urk uvl wh
  refine ⟨_, b', k', c', r', v', h', nm', _, a', hr', lt', rk', vl', wh', ?_, e2⟩
  unfold f_X10_fault
  rw [e1, p_b8]
/-- the class takes the items -/
theorem p_take (N : Nat) (hN : 401 ≤ N) {L : Nat} (hL : L ≤ 200) {tb : Nat → Int32} {T : Nat → Nat} (hT : ∀ k, k < L → T k < 256 ∧ tb k = nI (T k)) {n : Nat} (hn : n ≤ 40) (hg : ∀ j, j < n → p_good T L j) (hps : L ≤ p_ps T L n) (hps2 : p_ps T L n ≤ L) (bh kd cy rk vl hr : Int32) (nm : Nat → Int32) (sz : Int32) (co oh ok or' ov : Nat → Int32) :
    ∃ b' k' c' r' v' h' nm' co' oh' ok' or'' ov', f_X1_take N (nI L) tb bh kd cy rk vl hr nm sz co oh ok or' ov = some (b', k', c', r', v', h', nm', nI n, co', oh', ok', or'', ov') ∧ p_rows T L n oh' ok' or'' ov' co' := by
  have fd : ¬ wk_bI true = 0 := by decide
  unfold f_X1_take
  rw [show (0 : Int32) = nI 0 from rfl]
  refine p_run (σ := (Int32 × Int32 × Int32 × Int32 × Int32 × Int32 × (Nat → Int32)) × (Nat → Int32) × (Nat → Int32) × (Nat → Int32) × (Nat → Int32) × (Nat → Int32))
    (W := fun m i s' => wk_loop (fun k14 : Int32 → Int32 → Int32 → Int32 → Int32 → Int32 → (Nat → Int32) → Int32 → (Nat → Int32) → (Nat → Int32) → (Nat → Int32) → (Nat → Int32) → (Nat → Int32) → Int32 → Int32 → Option (Int32 × Int32 × Int32 × Int32 × Int32 × Int32 × (Nat → Int32) × Int32 × (Nat → Int32) × (Nat → Int32) × (Nat → Int32) × (Nat → Int32) × (Nat → Int32)) => B_X1_take_14 N (nI L) tb k14) (fun _ _ _ _ _ _ _ _ _ _ _ _ _ _ _ => none) m s'.1.1 s'.1.2.1 s'.1.2.2.1 s'.1.2.2.2.1 s'.1.2.2.2.2.1 s'.1.2.2.2.2.2.1 s'.1.2.2.2.2.2.2 (nI i) s'.2.1 s'.2.2.1 s'.2.2.2.1 s'.2.2.2.2.1 s'.2.2.2.2.2 (nI (p_ps T L i)) (nI i))
    (fun i s' => p_rows T L i s'.2.2.1 s'.2.2.2.1 s'.2.2.2.2.1 s'.2.2.2.2.2 s'.2.1) (fun A => ∃ b' k' c' r' v' h' nm' co' oh' ok' or'' ov', A = some (b', k', c', r', v', h', nm', nI n, co', oh', ok', or'', ov') ∧ p_rows T L n oh' ok' or'' ov' co') n ?_ ?_ n N 0 ((bh, kd, cy, rk, vl, hr, nm), co, oh, ok, or', ov) (by omega) (by omega) (fun k hk => absurd hk (by omega))
  · intro m i s' hi hI
    obtain ⟨⟨b0, k0, c0, r0, v0, h0, n0⟩, a1, a2, a3, a4, a5⟩ := s'
    obtain ⟨g1, g2⟩ := hg i hi
    obtain ⟨nm', e1⟩ := (p_read N (by omega) hL hT b0 k0 c0 r0 v0 h0 n0 g1).1 g2
    refine ⟨((nI (p_nxt T L (p_ps T L i)), nI (p_kd (T (p_ps T L i))), nI (p_cn T L (p_ps T L i) (p_kd (T (p_ps T L i)))), nI (p_rn T L (p_ps T L i) (p_kd (T (p_ps T L i)))), nI (p_vn T L (p_ps T L i) (p_kd (T (p_ps T L i)))), nI (p_hn T L (p_ps T L i) (p_kd (T (p_ps T L i)))), nm'), upd a1 i (nI (p_cn T L (p_ps T L i) (p_kd (T (p_ps T L i))))), upd a2 i (nI (p_hn T L (p_ps T L i) (p_kd (T (p_ps T L i))))), upd a3 i (nI (p_kd (T (p_ps T L i)))), upd a4 i (nI (p_rn T L (p_ps T L i) (p_kd (T (p_ps T L i))))), upd a5 i (nI (p_vn T L (p_ps T L i) (p_kd (T (p_ps T L i)))))), ?_, p_rows_s hI⟩
    show B_X1_take_14 N (nI L) tb _ b0 k0 c0 r0 v0 h0 n0 (nI i) a1 a2 a3 a4 a5 (nI (p_ps T L i)) (nI i) = _
    rw [B_X1_take_14, if_neg (show ¬ (40 : Int32) ≤ nI i from nI_ge (b := 40) (by omega) (by omega)), f_X9_length, p_b1, if_neg (nI_ge g1 (by omega)), e1, p_b8, if_neg fd]
    unfold f_X1_add f_X9_kind f_X9_county f_X9_rank f_X9_value f_X9_hour f_X9_behind
    rw [p_b1, p_set (by omega) (by omega), p_b1, p_b1, p_set (by omega) (by omega), p_b1, p_b1, p_set (by omega) (by omega), p_b1, p_b1, p_set (by omega) (by omega), p_b1, p_b1, p_set (by omega) (by omega), p_b1, p_b6, p_b1, p_nm, nI_1]
    rfl
  · intro m s' hI
    obtain ⟨⟨b0, k0, c0, r0, v0, h0, n0⟩, a1, a2, a3, a4, a5⟩ := s'
    show ∃ b' k' c' r' v' h' nm' co' oh' ok' or'' ov', B_X1_take_14 N (nI L) tb _ b0 k0 c0 r0 v0 h0 n0 (nI n) a1 a2 a3 a4 a5 (nI (p_ps T L n)) (nI n) = _ ∧ _
    rw [B_X1_take_14]
    by_cases a : n < 40
    · rw [if_neg (show ¬ (40 : Int32) ≤ nI n from nI_ge (b := 40) a (by omega)), f_X9_length, p_b1, if_pos (nI_le hps (by omega))]
      exact ⟨_, _, _, _, _, _, _, _, _, _, _, _, rfl, hI⟩
    · rw [if_pos (show (40 : Int32) ≤ nI n from nI_le (a := 40) (by omega) (by omega))]
      exact ⟨_, _, _, _, _, _, _, _, _, _, _, _, rfl, hI⟩
