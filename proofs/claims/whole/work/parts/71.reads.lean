/-! PURE: the check's item at a place -/
/-- a sign and a number behind it -/
def p_Mo (T : Nat → Nat) (L q c : Nat) : Prop := (q < L ∧ T q = c) ∧ p_fg T L (q + 1) ≠ 0 ∧ ¬ p_dgt T L (p_nx1 T L q)
theorem p_more (N : Nat) (hN : 401 ≤ N) {L : Nat} (hL : L ≤ 200) {ut : Nat → Int32} {T : Nat → Nat} (hT : ∀ k, k < L → T k < 256 ∧ ut k = sb_b (T k)) {q c : Nat} (hq : q < 1000) {sg : Int32} (hsg : q < L → (ut q = sg ↔ T q = c)) :
    (p_Mo T L q c → f_X11_more N (nI L) ut (nI q) sg = some (nI (p_vl T L (q + 1)), nI (p_nx1 T L q))) ∧ (¬ p_Mo T L q c → ∃ q', q' < 1000 ∧ f_X11_more N (nI L) ut (nI q) sg = some (-1, nI q')) := by
  unfold f_X11_more
  by_cases a : q < L
  · rw [if_neg (nI_ge a (by omega)), p_ck (by omega) (by omega), nI_clamp (by omega)]
    by_cases b : T q = c
    · rw [if_pos ((hsg a).mpr b), nI_1]
      obtain ⟨h1, h2⟩ := p_mnum N hN hL hT (p := q + 1) (by omega)
      refine ⟨fun h => ?_, fun h => ?_⟩
      · rw [h1 h.2, p_b2]; rfl
      · obtain ⟨q', hq', e⟩ := h2 (fun d => h ⟨⟨a, b⟩, d⟩)
        exact ⟨q', hq', by rw [e, p_b2]⟩
    · rw [if_neg (fun d => b ((hsg a).mp d))]
      exact ⟨fun h => absurd h.1.2 b, fun _ => ⟨q, hq, rfl⟩⟩
  · rw [if_pos (nI_le (by omega) (by omega))]
    exact ⟨fun h => absurd h.1.1 a, fun _ => ⟨q, hq, rfl⟩⟩
/-- the check's rows with an item more -/
theorem p_294 (N L : Nat) (ut : Nat → Int32) {i : Nat} (hi : i < 40) (at' : Int32) (hr lt rk vl wh : Nat → Int32) (x1 x3 x4 x5 x6 : Int32) :
    B_X11_reads_294 N (nI L) ut (nI i) at' hr lt rk vl wh x1 x3 x4 x5 x6 1 = some (true, nI (i + 1), at' + 1, upd hr i x6, upd lt i x1, upd rk i x4, upd vl i x5, upd wh i x3) ∧
    B_X11_reads_294 N (nI L) ut (nI i) at' hr lt rk vl wh x1 x3 x4 x5 x6 0 = some (false, nI i, at', hr, lt, rk, vl, wh) := by
  constructor
  · rw [B_X11_reads_294, if_neg (by decide), p_ck hi (by omega), p_ck hi (by omega), p_ck hi (by omega), p_ck hi (by omega), p_ck hi (by omega), nI_1, nI_clamp (by omega)]
  · rw [B_X11_reads_294, if_pos rfl]
theorem p_207 (N L : Nat) (ut : Nat → Int32) {i : Nat} (hi : i < 40) (at' : Int32) (hr lt rk vl wh : Nat → Int32) {k : Nat} (hk : k < 4) (x3 x4 x5 x6 : Int32) :
    ((p_lw k ≤ x5.toInt ∧ x5.toInt ≤ p_hg k) → B_X11_reads_207 N (nI L) ut (nI i) at' hr lt rk vl wh (nI k) x3 x4 x5 x6 1 = some (true, nI (i + 1), at' + 1, upd hr i x6, upd lt i (nI k), upd rk i x4, upd vl i x5, upd wh i x3)) ∧
    (¬ (p_lw k ≤ x5.toInt ∧ x5.toInt ≤ p_hg k) → B_X11_reads_207 N (nI L) ut (nI i) at' hr lt rk vl wh (nI k) x3 x4 x5 x6 1 = some (false, nI i, at', hr, lt, rk, vl, wh)) ∧
    B_X11_reads_207 N (nI L) ut (nI i) at' hr lt rk vl wh (nI k) x3 x4 x5 x6 0 = some (false, nI i, at', hr, lt, rk, vl, wh) := by
  have fd : ¬ wk_bI true = 0 := by decide
  have fe : wk_bI false = 0 := rfl
  obtain ⟨h1, h0⟩ := p_294 N L ut hi at' hr lt rk vl wh (nI k) x3 x4 x5 x6
  refine ⟨?_, ?_, by rw [B_X11_reads_207, if_pos rfl, h0]⟩
  · intro h
    rw [B_X11_reads_207, if_neg (by decide)]
    unfold p_lw p_hg at h
    rcases (show k = 0 ∨ k = 1 ∨ k = 2 ∨ k = 3 by omega) with rfl | rfl | rfl | rfl
    · rw [if_pos (by decide), p_inI, p_b1, decide_eq_true (by simpa using h), if_neg fd, h1]
    · rw [if_neg (by decide), if_pos (by decide), p_inI, p_b1, decide_eq_true (by simpa using h), if_neg fd, h1]
    · rw [if_neg (by decide), if_neg (by decide), if_pos (by decide), p_inI, p_b1, decide_eq_true (by simpa using h), if_neg fd, h1]
    · rw [if_neg (by decide), if_neg (by decide), if_neg (by decide), p_inI, p_b1, decide_eq_true (by simpa using h), if_neg fd, h1]
  · intro h
    rw [B_X11_reads_207, if_neg (by decide)]
    unfold p_lw p_hg at h
    rcases (show k = 0 ∨ k = 1 ∨ k = 2 ∨ k = 3 by omega) with rfl | rfl | rfl | rfl
    · rw [if_pos (by decide), p_inI, p_b1, decide_eq_false (by simpa using h), if_pos fe, h0]
    · rw [if_neg (by decide), if_pos (by decide), p_inI, p_b1, decide_eq_false (by simpa using h), if_pos fe, h0]
    · rw [if_neg (by decide), if_neg (by decide), if_pos (by decide), p_inI, p_b1, decide_eq_false (by simpa using h), if_pos fe, h0]
    · rw [if_neg (by decide), if_neg (by decide), if_neg (by decide), p_inI, p_b1, decide_eq_false (by simpa using h), if_pos fe, h0]
/-- what is asked of an item's numbers -/
def p_asked (T : Nat → Nat) (L k q : Nat) (c r v h : Int32) : Prop := (0 ≤ c.toInt ∧ c.toInt ≤ 5) ∧ (0 ≤ r.toInt ∧ r.toInt ≤ 3) ∧ ¬ h < 0 ∧ (q < L ∧ T q = 59) ∧ p_lw k ≤ v.toInt ∧ v.toInt ≤ p_hg k
/-- the last two numbers, and what is asked -/
theorem p_134 (N : Nat) (hN : 401 ≤ N) {L : Nat} (hL : L ≤ 200) {ut : Nat → Int32} {T : Nat → Nat} (hT : ∀ k, k < L → T k < 256 ∧ ut k = sb_b (T k)) {i : Nat} (hi : i < 40) (hr lt rk vl wh : Nat → Int32) {k : Nat} (hk : k < 4) (c r : Int32) {q : Nat} {s1 at' : Int32} {v h : Int32} {q1 : Int32} {q2 : Nat} (hq2 : q2 < 1000)
    (e1 : f_X11_more N (nI L) ut at' s1 = some (v, q1)) (e2 : f_X11_more N (nI L) ut q1 44 = some (h, nI q2)) :
    (p_asked T L k q2 c r v h → B_X11_reads_134 N (nI L) ut (nI i) at' hr lt rk vl wh (nI k) c r s1 = some (true, nI (i + 1), nI (q2 + 1), upd hr i h, upd lt i (nI k), upd rk i r, upd vl i v, upd wh i c)) ∧
    (¬ p_asked T L k q2 c r v h → B_X11_reads_134 N (nI L) ut (nI i) at' hr lt rk vl wh (nI k) c r s1 = some (false, nI i, nI q2, hr, lt, rk, vl, wh)) := by
  have fd : ¬ wk_bI true = 0 := by decide
  have fe : wk_bI false = 0 := rfl
  obtain ⟨g1, g2, g3⟩ := p_207 N L ut hi (nI q2) hr lt rk vl wh hk c r v h
  rw [B_X11_reads_134, e1, p_b2, e2, p_b2, p_inI, p_b1, show (0 : Int64).toInt = 0 from rfl, show (5 : Int64).toInt = 5 from rfl]
  by_cases a : 0 ≤ c.toInt ∧ c.toInt ≤ 5
  · rw [decide_eq_true a, if_neg fd, p_inI, p_b1, show (3 : Int64).toInt = 3 from rfl, show (0 : Int64).toInt = 0 from rfl]
    by_cases b : 0 ≤ r.toInt ∧ r.toInt ≤ 3
    · rw [decide_eq_true b, if_neg fd]
      by_cases d : h < 0
      · rw [if_pos d, g3]; exact ⟨fun f => absurd d f.2.2.1, fun _ => rfl⟩
      · rw [if_neg d]
        by_cases e : q2 < L
        · rw [if_neg (nI_ge e (by omega)), p_ck (by omega) (by omega), nI_clamp (by omega), (hT q2 e).2]
          by_cases f : T q2 = 59
          · rw [if_pos ((p_sb_59 _ (hT q2 e).1).mpr f)]
            by_cases g : p_lw k ≤ v.toInt ∧ v.toInt ≤ p_hg k
            · rw [g1 g, nI_1]; exact ⟨fun _ => rfl, fun f' => absurd ⟨a, b, d, ⟨e, f⟩, g⟩ f'⟩
            · rw [g2 g]; exact ⟨fun f' => absurd f'.2.2.2.2 g, fun _ => rfl⟩
          · rw [if_neg (fun f' => f ((p_sb_59 _ (hT q2 e).1).mp f')), g3]; exact ⟨fun f' => absurd f'.2.2.2.1.2 f, fun _ => rfl⟩
        · rw [if_pos (nI_le (by omega) (by omega)), g3]; exact ⟨fun f' => absurd f'.2.2.2.1.1 e, fun _ => rfl⟩
    · rw [decide_eq_false b, if_pos fe, g3]; exact ⟨fun f => absurd f.2.1 b, fun _ => rfl⟩
  · rw [decide_eq_false a, if_pos fe, g3]; exact ⟨fun f => absurd f.1 a, fun _ => rfl⟩
theorem p_sg44 {L : Nat} {ut : Nat → Int32} {T : Nat → Nat} (hT : ∀ k, k < L → T k < 256 ∧ ut k = sb_b (T k)) (q : Nat) : q < L → (ut q = (44 : Int32) ↔ T q = 44) := fun h => by rw [(hT q h).2]; exact p_sb_44 _ (hT q h).1
theorem p_nd44 {T : Nat → Nat} {L q : Nat} (h : T q = 44) : ¬ p_dgt T L q := fun d => by unfold p_dgt at d; omega
theorem p_nd59 {T : Nat → Nat} {L q : Nat} (h : T q = 59) : ¬ p_dgt T L q := fun d => by unfold p_dgt at d; omega
theorem p_Mo_lt {T : Nat → Nat} {L q c : Nat} (hL : L ≤ 200) (h : p_Mo T L q c) : p_nx1 T L q < 1000 := by
  have := p_fg_le T L (q + 1); have := h.1.1; unfold p_nx1; omega
theorem p_n1_lt : ¬ (0 : Int) ≤ (-1 : Int32).toInt := by decide
/-- the check's item at a place -/
theorem p_reads (N : Nat) (hN : 401 ≤ N) {L : Nat} (hL : L ≤ 200) {ut : Nat → Int32} {T : Nat → Nat} (hT : ∀ k, k < L → T k < 256 ∧ ut k = sb_b (T k)) {i : Nat} (hi : i < 40) (hr lt rk vl wh : Nat → Int32) {s : Nat} (hs : s < L) :
    (p_IT T L s → f_X11_reads N (nI L) ut (nI i) (nI s) hr lt rk vl wh = some (true, nI (i + 1), nI (p_nxt T L s), upd hr i (nI (p_hn T L s (p_kd (T s)))), upd lt i (nI (p_kd (T s))), upd rk i (nI (p_rn T L s (p_kd (T s)))), upd vl i (nI (p_vn T L s (p_kd (T s)))), upd wh i (nI (p_cn T L s (p_kd (T s)))))) ∧
    (¬ p_IT T L s → ∃ at', f_X11_reads N (nI L) ut (nI i) (nI s) hr lt rk vl wh = some (false, nI i, at', hr, lt, rk, vl, wh)) := by
  have h256 := (hT s hs).1
  have hbT := (hT s hs).2
  -- the letter
  have hl : ∀ k, k = p_kd (T s) → k < 4 → f_X11_reads N (nI L) ut (nI i) (nI s) hr lt rk vl wh = B_X11_reads_73 N (nI L) ut (nI i) (nI s) hr lt rk vl wh (nI k) := by
    intro k e hk
    unfold f_X11_reads
    rw [p_ck (by omega) (by omega), nI_clamp (by omega), hbT]
    unfold p_kd at e
    by_cases a : T s = 118
    · rw [if_pos a] at e; subst e; rw [if_pos ((p_sb_118 _ h256).mpr a)]; rfl
    · rw [if_neg a] at e
      rw [if_neg (fun d => a ((p_sb_118 _ h256).mp d)), p_ck (by omega) (by omega)]
      by_cases b : T s = 100
      · rw [if_pos b] at e; subst e; rw [if_pos ((p_sb_100 _ h256).mpr b)]; rfl
      · rw [if_neg b] at e
        rw [if_neg (fun d => b ((p_sb_100 _ h256).mp d)), p_ck (by omega) (by omega)]
        by_cases c : T s = 109
        · rw [if_pos c] at e; subst e; rw [if_pos ((p_sb_109 _ h256).mpr c)]; rfl
        · rw [if_neg c] at e
          rw [if_neg (fun d => c ((p_sb_109 _ h256).mp d)), p_ck (by omega) (by omega)]
          by_cases f : T s = 111
          · rw [if_pos f] at e; subst e; rw [if_pos ((p_sb_111 _ h256).mpr f)]; rfl
          · rw [if_neg f] at e; omega
  have hl4 : ¬ p_kd (T s) < 4 → f_X11_reads N (nI L) ut (nI i) (nI s) hr lt rk vl wh = some (false, nI i, nI s, hr, lt, rk, vl, wh) := by
    intro e
    unfold p_kd at e
    unfold f_X11_reads
    have a : ¬ T s = 118 := fun d => e (by rw [if_pos d]; omega)
    rw [if_neg a] at e
    have b : ¬ T s = 100 := fun d => e (by rw [if_pos d]; omega)
    rw [if_neg b] at e
    have c : ¬ T s = 109 := fun d => e (by rw [if_pos d]; omega)
    rw [if_neg c] at e
    have f : ¬ T s = 111 := fun d => e (by rw [if_pos d]; omega)
    rw [p_ck (by omega) (by omega), nI_clamp (by omega), hbT, if_neg (fun d => a ((p_sb_118 _ h256).mp d)), p_ck (by omega) (by omega), if_neg (fun d => b ((p_sb_100 _ h256).mp d)), p_ck (by omega) (by omega), if_neg (fun d => c ((p_sb_109 _ h256).mp d)), p_ck (by omega) (by omega), if_neg (fun d => f ((p_sb_111 _ h256).mp d)), B_X11_reads_73, if_neg (by decide)]
  have hm1 := p_more N hN hL hT (q := s) (c := T s) (by omega) (sg := ut s) (fun _ => ⟨fun _ => rfl, fun _ => rfl⟩)
  have hm : ∀ q, q < 1000 → _ := fun q hq => p_more N hN hL hT (q := q) (c := 44) hq (sg := 44) (p_sg44 hT q)
  by_cases hk : p_kd (T s) < 4
  · have e0 := hl _ rfl hk
    have hvl : ∀ q, (nI (p_vl T L q)).toInt = (p_vl T L q : Int) := fun q => nI_toInt (by have := p_vl_lt T L q; omega)
    have hvp : ∀ q, ¬ nI (p_vl T L q) < 0 := fun q => nI_pos (by have := p_vl_lt T L q; omega)
    have hall : ∀ q : Nat, q < 1000 → ∃ v q', q' < 1000 ∧ f_X11_more N (nI L) ut (nI q) 44 = some (v, nI q') ∧ ((p_Mo T L q 44 ∧ v = nI (p_vl T L (q + 1)) ∧ q' = p_nx1 T L q) ∨ (¬ p_Mo T L q 44 ∧ v = -1)) := by
      intro q hq
      by_cases a : p_Mo T L q 44
      · exact ⟨_, _, p_Mo_lt hL a, (hm q hq).1 a, Or.inl ⟨a, rfl, rfl⟩⟩
      · obtain ⟨q', h1, h2⟩ := (hm q hq).2 a
        exact ⟨_, _, h1, h2, Or.inr ⟨a, rfl⟩⟩
    have hfst : ∃ v q', q' < 1000 ∧ f_X11_more N (nI L) ut (nI s) (ut s) = some (v, nI q') ∧ ((p_Mo T L s (T s) ∧ v = nI (p_vl T L (s + 1)) ∧ q' = p_nx1 T L s) ∨ (¬ p_Mo T L s (T s) ∧ v = -1)) := by
      by_cases a : p_Mo T L s (T s)
      · exact ⟨_, _, p_Mo_lt hL a, hm1.1 a, Or.inl ⟨a, rfl, rfl⟩⟩
      · obtain ⟨q', h1, h2⟩ := hm1.2 a
        exact ⟨_, _, h1, h2, Or.inr ⟨a, rfl⟩⟩
    have h0i : (5 : Int32).toInt = 5 := rfl
    have hz : (0 : Int32).toInt = 0 := rfl
    rw [e0]
    obtain ⟨v1, q1, hq1, f1, g1⟩ := hfst
    obtain ⟨v2, q2, hq2, f2, g2⟩ := hall q1 hq1
    by_cases k2 : p_kd (T s) = 2
    · -- m
      have e1 : B_X11_reads_73 N (nI L) ut (nI i) (nI s) hr lt rk vl wh (nI (p_kd (T s))) = B_X11_reads_134 N (nI L) ut (nI i) (nI s) hr lt rk vl wh (nI (p_kd (T s))) 5 0 (ut s) := by
        rw [k2, B_X11_reads_73, if_pos (by decide), p_ck (by omega) (by omega), nI_clamp (by omega), p_nm, if_pos (by decide), B_X11_reads_104, if_neg (by decide), B_X11_reads_120, if_pos (by decide)]
      rw [e1]
      obtain ⟨t1, t2⟩ := p_134 N hN hL hT hi hr lt rk vl wh hk 5 0 (q := 0) (at' := nI s) (s1 := ut s) hq2 f1 f2
      have hiff : p_asked T L (p_kd (T s)) q2 5 0 v1 v2 ↔ (p_IT T L s ∧ v1 = nI (p_vl T L (s + 1)) ∧ q1 = p_nx1 T L s ∧ v2 = nI (p_vl T L (q1 + 1)) ∧ q2 = p_nx1 T L q1) := by
        have hok : p_okn T L (p_many (p_kd (T s))) s ↔ (p_fg T L (s + 1) ≠ 0 ∧ (p_nx1 T L s < L ∧ T (p_nx1 T L s) = 44) ∧ p_fg T L (p_nx1 T L s + 1) ≠ 0 ∧ (p_nx1 T L (p_nx1 T L s) < L ∧ T (p_nx1 T L (p_nx1 T L s)) = 59) ∧ True) := by
          rw [k2]; exact Iff.rfl
        have htl : p_told T L s (p_kd (T s)) ↔ (5 ≤ 5 ∧ 0 < 4 ∧ p_lw 2 ≤ p_vl T L (s + 1) ∧ p_vl T L (s + 1) ≤ p_hg 2) := by
          rw [k2]; exact Iff.rfl
        constructor
        · intro h
          obtain ⟨a1, a2, a3, a4, a5⟩ := h
          rcases g1 with ⟨m1, rfl, rfl⟩ | ⟨m1, rfl⟩
          · rcases g2 with ⟨m2, rfl, rfl⟩ | ⟨m2, rfl⟩
            · rw [hvl, k2] at a5
              exact ⟨⟨hk, hok.mpr ⟨m1.2.1, m2.1, m2.2.1, a4, trivial⟩, htl.mpr ⟨by omega, by omega, by omega, by omega⟩⟩, rfl, rfl, rfl, rfl⟩
            · exact absurd (show (-1 : Int32) < 0 by decide) a3
          · exact absurd (Int.le_trans (Int.natCast_nonneg _) a5.1) p_n1_lt
        · rintro ⟨⟨-, b1, b2⟩, rfl, rfl, rfl, rfl⟩
          have b3 := hok.mp b1
          have b4 := htl.mp b2
          refine ⟨by rw [h0i]; omega, by rw [hz]; omega, hvp _, b3.2.2.2.1, ?_⟩
          rw [hvl, k2]; omega
      have hit : p_IT T L s → p_asked T L (p_kd (T s)) q2 5 0 v1 v2 := by
        intro h
        refine hiff.mpr ⟨h, ?_⟩
        have hok : p_okn T L (p_many (p_kd (T s))) s := h.2.1
        rw [k2] at hok
        obtain ⟨b1, b2, b3, b4, -⟩ := hok
        have m1 : p_Mo T L s (T s) := ⟨⟨hs, rfl⟩, b1, p_nd44 b2.2⟩
        rcases g1 with ⟨-, rfl, rfl⟩ | ⟨n1, -⟩
        · have m2 : p_Mo T L (p_nx1 T L s) 44 := ⟨b2, b3, p_nd59 b4.2⟩
          rcases g2 with ⟨-, rfl, rfl⟩ | ⟨n2, -⟩
          · exact ⟨rfl, rfl, rfl, rfl⟩
          · exact absurd m2 n2
        · exact absurd m1 n1
      refine ⟨fun h => ?_, fun h => ⟨_, t2 (fun d => h (hiff.mp d).1)⟩⟩
      have ha := hit h
      obtain ⟨-, rfl, rfl, rfl, rfl⟩ := hiff.mp ha
      rw [t1 ha]
      unfold p_nxt p_hn p_rn p_vn p_cn
      rw [k2]
      rfl
    · obtain ⟨v3, q3, hq3, f3, g3⟩ := hall q2 hq2
      by_cases k3 : p_kd (T s) = 3
      · -- o
        obtain ⟨v4, q4, hq4, f4, g4⟩ := hall q3 hq3
        have e1 : B_X11_reads_73 N (nI L) ut (nI i) (nI s) hr lt rk vl wh (nI (p_kd (T s))) = B_X11_reads_134 N (nI L) ut (nI i) (nI q2) hr lt rk vl wh (nI (p_kd (T s))) v1 v2 44 := by
          rw [k3, B_X11_reads_73, if_pos (by decide), p_ck (by omega) (by omega), nI_clamp (by omega), p_nm, if_neg (by decide), f1, p_b2, B_X11_reads_104, if_pos (by decide), f2, p_b2, B_X11_reads_120, if_neg (by decide)]
        rw [e1]
        obtain ⟨t1, t2⟩ := p_134 N hN hL hT hi hr lt rk vl wh hk v1 v2 (q := 0) (at' := nI q2) (s1 := 44) hq4 f3 f4
        have hiff : p_asked T L (p_kd (T s)) q4 v1 v2 v3 v4 ↔ (p_IT T L s ∧ v1 = nI (p_vl T L (s + 1)) ∧ q1 = p_nx1 T L s ∧ v2 = nI (p_vl T L (q1 + 1)) ∧ q2 = p_nx1 T L q1 ∧ v3 = nI (p_vl T L (q2 + 1)) ∧ q3 = p_nx1 T L q2 ∧ v4 = nI (p_vl T L (q3 + 1)) ∧ q4 = p_nx1 T L q3) := by
          have hok : p_okn T L (p_many (p_kd (T s))) s ↔ (p_fg T L (s + 1) ≠ 0 ∧ (p_nx1 T L s < L ∧ T (p_nx1 T L s) = 44) ∧ p_fg T L (p_nx1 T L s + 1) ≠ 0 ∧ (p_nx1 T L (p_nx1 T L s) < L ∧ T (p_nx1 T L (p_nx1 T L s)) = 44) ∧ p_fg T L (p_nx1 T L (p_nx1 T L s) + 1) ≠ 0 ∧ (p_nx1 T L (p_nx1 T L (p_nx1 T L s)) < L ∧ T (p_nx1 T L (p_nx1 T L (p_nx1 T L s))) = 44) ∧ p_fg T L (p_nx1 T L (p_nx1 T L (p_nx1 T L s)) + 1) ≠ 0 ∧ (p_nx1 T L (p_nx1 T L (p_nx1 T L (p_nx1 T L s))) < L ∧ T (p_nx1 T L (p_nx1 T L (p_nx1 T L (p_nx1 T L s)))) = 59) ∧ True) := by
            rw [k3]; exact Iff.rfl
          have htl : p_told T L s (p_kd (T s)) ↔ (p_vl T L (s + 1) ≤ 5 ∧ p_vl T L (p_nx1 T L s + 1) < 4 ∧ p_lw 3 ≤ p_vl T L (p_nx1 T L (p_nx1 T L s) + 1) ∧ p_vl T L (p_nx1 T L (p_nx1 T L s) + 1) ≤ p_hg 3) := by
            rw [k3]; exact Iff.rfl
          constructor
          · intro h
            obtain ⟨a1, a2, a3, a4, a5⟩ := h
            rcases g1 with ⟨m1, rfl, rfl⟩ | ⟨m1, rfl⟩
            · rcases g2 with ⟨m2, rfl, rfl⟩ | ⟨m2, rfl⟩
              · rcases g3 with ⟨m3, rfl, rfl⟩ | ⟨m3, rfl⟩
                · rcases g4 with ⟨m4, rfl, rfl⟩ | ⟨m4, rfl⟩
                  · rw [hvl, k3] at a5
                    rw [hvl] at a1 a2
                    exact ⟨⟨hk, hok.mpr ⟨m1.2.1, m2.1, m2.2.1, m3.1, m3.2.1, m4.1, m4.2.1, a4, trivial⟩, htl.mpr ⟨by omega, by omega, by omega, by omega⟩⟩, rfl, rfl, rfl, rfl, rfl, rfl, rfl, rfl⟩
                  · exact absurd (show (-1 : Int32) < 0 by decide) a3
                · exact absurd (Int.le_trans (Int.natCast_nonneg _) a5.1) p_n1_lt
              · exact absurd a2.1 p_n1_lt
            · exact absurd a1.1 p_n1_lt
          · rintro ⟨⟨-, b1, b2⟩, rfl, rfl, rfl, rfl, rfl, rfl, rfl, rfl⟩
            have b3 := hok.mp b1
            have b4 := htl.mp b2
            refine ⟨by rw [hvl]; omega, by rw [hvl]; omega, hvp _, b3.2.2.2.2.2.2.2.1, ?_⟩
            rw [hvl, k3]; omega
        have hit : p_IT T L s → p_asked T L (p_kd (T s)) q4 v1 v2 v3 v4 := by
          intro h
          refine hiff.mpr ⟨h, ?_⟩
          have hok : p_okn T L (p_many (p_kd (T s))) s := h.2.1
          rw [k3] at hok
          obtain ⟨b1, b2, b3, b4, b5, b6, b7, b8, -⟩ := hok
          have m1 : p_Mo T L s (T s) := ⟨⟨hs, rfl⟩, b1, p_nd44 b2.2⟩
          rcases g1 with ⟨-, rfl, rfl⟩ | ⟨n1, -⟩
          · have m2 : p_Mo T L (p_nx1 T L s) 44 := ⟨b2, b3, p_nd44 b4.2⟩
            rcases g2 with ⟨-, rfl, rfl⟩ | ⟨n2, -⟩
            · have m3 : p_Mo T L (p_nx1 T L (p_nx1 T L s)) 44 := ⟨b4, b5, p_nd44 b6.2⟩
              rcases g3 with ⟨-, rfl, rfl⟩ | ⟨n3, -⟩
              · have m4 : p_Mo T L (p_nx1 T L (p_nx1 T L (p_nx1 T L s))) 44 := ⟨b6, b7, p_nd59 b8.2⟩
                rcases g4 with ⟨-, rfl, rfl⟩ | ⟨n4, -⟩
                · exact ⟨rfl, rfl, rfl, rfl, rfl, rfl, rfl, rfl⟩
                · exact absurd m4 n4
              · exact absurd m3 n3
            · exact absurd m2 n2
          · exact absurd m1 n1
        refine ⟨fun h => ?_, fun h => ⟨_, t2 (fun d => h (hiff.mp d).1)⟩⟩
        have ha := hit h
        obtain ⟨-, rfl, rfl, rfl, rfl, rfl, rfl, rfl, rfl⟩ := hiff.mp ha
        rw [t1 ha]
        unfold p_nxt p_hn p_rn p_vn p_cn
        rw [k3]
        rfl
      · -- v, d
        have hmn : p_many (p_kd (T s)) = 3 := by unfold p_many; rw [if_neg k2, if_neg k3]
        have e1 : B_X11_reads_73 N (nI L) ut (nI i) (nI s) hr lt rk vl wh (nI (p_kd (T s))) = B_X11_reads_134 N (nI L) ut (nI i) (nI q1) hr lt rk vl wh (nI (p_kd (T s))) v1 0 44 := by
          have n2 : ¬ nI (p_kd (T s)) = (2 : Int32) := fun d => k2 ((nI_eq (b := 2) (by omega) (by omega)).mp d)
          have n3 : ¬ nI (p_kd (T s)) = (3 : Int32) := fun d => k3 ((nI_eq (b := 3) (by omega) (by omega)).mp d)
          rw [B_X11_reads_73, if_pos (nI_pos' (by omega)), p_ck (by omega) (by omega), nI_clamp (by omega), p_nm, if_neg n2, f1, p_b2, B_X11_reads_104, if_neg n3, B_X11_reads_120, if_neg n2]
        rw [e1]
        obtain ⟨t1, t2⟩ := p_134 N hN hL hT hi hr lt rk vl wh hk v1 0 (q := 0) (at' := nI q1) (s1 := 44) hq3 f2 f3
        have hiff : p_asked T L (p_kd (T s)) q3 v1 0 v2 v3 ↔ (p_IT T L s ∧ v1 = nI (p_vl T L (s + 1)) ∧ q1 = p_nx1 T L s ∧ v2 = nI (p_vl T L (q1 + 1)) ∧ q2 = p_nx1 T L q1 ∧ v3 = nI (p_vl T L (q2 + 1)) ∧ q3 = p_nx1 T L q2) := by
          have hok : p_okn T L (p_many (p_kd (T s))) s ↔ (p_fg T L (s + 1) ≠ 0 ∧ (p_nx1 T L s < L ∧ T (p_nx1 T L s) = 44) ∧ p_fg T L (p_nx1 T L s + 1) ≠ 0 ∧ (p_nx1 T L (p_nx1 T L s) < L ∧ T (p_nx1 T L (p_nx1 T L s)) = 44) ∧ p_fg T L (p_nx1 T L (p_nx1 T L s) + 1) ≠ 0 ∧ (p_nx1 T L (p_nx1 T L (p_nx1 T L s)) < L ∧ T (p_nx1 T L (p_nx1 T L (p_nx1 T L s))) = 59) ∧ True) := by
            rw [hmn]; exact Iff.rfl
          have htl : p_told T L s (p_kd (T s)) ↔ (p_vl T L (s + 1) ≤ 5 ∧ 0 < 4 ∧ p_lw (p_kd (T s)) ≤ p_vl T L (p_nx1 T L s + 1) ∧ p_vl T L (p_nx1 T L s + 1) ≤ p_hg (p_kd (T s))) := by
            unfold p_told p_cn p_rn p_vn
            rw [if_neg k2, if_neg k3, if_neg k2, if_neg k3]; exact Iff.rfl
          constructor
          · intro h
            obtain ⟨a1, a2, a3, a4, a5⟩ := h
            rcases g1 with ⟨m1, rfl, rfl⟩ | ⟨m1, rfl⟩
            · rcases g2 with ⟨m2, rfl, rfl⟩ | ⟨m2, rfl⟩
              · rcases g3 with ⟨m3, rfl, rfl⟩ | ⟨m3, rfl⟩
                · rw [hvl] at a5
                  rw [hvl] at a1
                  exact ⟨⟨hk, hok.mpr ⟨m1.2.1, m2.1, m2.2.1, m3.1, m3.2.1, a4, trivial⟩, htl.mpr ⟨by omega, by omega, by omega, by omega⟩⟩, rfl, rfl, rfl, rfl, rfl, rfl⟩
                · exact absurd (show (-1 : Int32) < 0 by decide) a3
              · exact absurd (Int.le_trans (Int.natCast_nonneg _) a5.1) p_n1_lt
            · exact absurd a1.1 p_n1_lt
          · rintro ⟨⟨-, b1, b2⟩, rfl, rfl, rfl, rfl, rfl, rfl⟩
            have b3 := hok.mp b1
            have b4 := htl.mp b2
            refine ⟨by rw [hvl]; omega, by rw [hz]; omega, hvp _, b3.2.2.2.2.2.1, ?_⟩
            rw [hvl]; omega
        have hit : p_IT T L s → p_asked T L (p_kd (T s)) q3 v1 0 v2 v3 := by
          intro h
          refine hiff.mpr ⟨h, ?_⟩
          have hok : p_okn T L (p_many (p_kd (T s))) s := h.2.1
          rw [hmn] at hok
          obtain ⟨b1, b2, b3, b4, b5, b6, -⟩ := hok
          have m1 : p_Mo T L s (T s) := ⟨⟨hs, rfl⟩, b1, p_nd44 b2.2⟩
          rcases g1 with ⟨-, rfl, rfl⟩ | ⟨n1, -⟩
          · have m2 : p_Mo T L (p_nx1 T L s) 44 := ⟨b2, b3, p_nd44 b4.2⟩
            rcases g2 with ⟨-, rfl, rfl⟩ | ⟨n2, -⟩
            · have m3 : p_Mo T L (p_nx1 T L (p_nx1 T L s)) 44 := ⟨b4, b5, p_nd59 b6.2⟩
              rcases g3 with ⟨-, rfl, rfl⟩ | ⟨n3, -⟩
              · exact ⟨rfl, rfl, rfl, rfl, rfl, rfl⟩
              · exact absurd m3 n3
            · exact absurd m2 n2
          · exact absurd m1 n1
        refine ⟨fun h => ?_, fun h => ⟨_, t2 (fun d => h (hiff.mp d).1)⟩⟩
        have ha := hit h
        obtain ⟨-, rfl, rfl, rfl, rfl, rfl, rfl⟩ := hiff.mp ha
        rw [t1 ha]
        unfold p_nxt p_hn p_rn p_vn p_cn
        rw [hmn, if_neg k2, if_neg k3, if_neg k2, if_neg k3]
        rfl
  · rw [hl4 hk]
    exact ⟨fun h => absurd h.1 hk, fun _ => ⟨_, rfl⟩⟩
