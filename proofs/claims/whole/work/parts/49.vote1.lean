/-! PURE: a card's vote by the hour's rules -/
theorem q_mach (N : Nat) (hN : 41 ≤ N) {it : Int32} {uh ul ur uv uw : Nat → Int32} {n : Nat} (hn : n ≤ 40) (hit : it = nI n) (c t : Int32) : f_X11_ruleOf N it uh ul ur uv uw (nI 2) c t = f_X11_ruleOf N it uh ul ur uv uw (nI 2) 0 t := by
  subst hit
  have key : f_X11_lineOf N (nI n) uh ul ur uw (nI 2) c t = f_X11_lineOf N (nI n) uh ul ur uw (nI 2) 0 t := by
    unfold f_X11_lineOf
    obtain ⟨z, hz⟩ : ∃ z : Int32, z = 0 := ⟨_, rfl⟩
    rw [← hz]
    conv => lhs; rw [hz, show (0 : Int32) = nI 0 from rfl]
    obtain ⟨y, hy⟩ : ∃ y : Int32, y = z := ⟨_, rfl⟩
    refine Eq.trans ?_ (show wk_loop (fun k7 : Int32 → Int32 → Int32 → Int32 → Int32 → Option Int32 => B_X11_lineOf_7 N (nI n) uh ul ur uw k7) (fun _ _ _ _ _ => none) N (nI 2) z t (-4) (nI 0) = _ by rw [hz]; rfl)
    refine p_sim (σ := Int32) (τ := Int32)
      (W := fun m i s => wk_loop (fun k7 : Int32 → Int32 → Int32 → Int32 → Int32 → Option Int32 => B_X11_lineOf_7 N (nI n) uh ul ur uw k7) (fun _ _ _ _ _ => none) m (nI 2) c t s (nI i))
      (V := fun m i s => wk_loop (fun k7 : Int32 → Int32 → Int32 → Int32 → Int32 → Option Int32 => B_X11_lineOf_7 N (nI n) uh ul ur uw k7) (fun _ _ _ _ _ => none) m (nI 2) z t s (nI i))
      (fun _ s s' => s = s') (fun A B => A = B) n ?_ ?_ n N N 0 (-4) (-4) (by omega) (by omega) (by omega) rfl
    · intro m m' i f f' hi hI
      subst hI
      have g : ¬ nI n ≤ nI i := nI_ge hi (by omega)
      have s2 : nI 2 = (2 : Int32) := rfl
      have b68 : ∀ (x : Int32) (k7 : Int32 → Int32 → Int32 → Int32 → Int32 → Option Int32), B_X11_lineOf_68 N (nI n) uh ul ur uw k7 (nI 2) x t f (nI i) = k7 (nI 2) x t (nI i) (nI (i + 1)) := fun x k => by
        rw [B_X11_lineOf_68, if_neg (by decide), B_X11_lineOf_134, if_pos rfl, p_nm, nI_1]
      have b7 : ∀ (x : Int32) (k7 : Int32 → Int32 → Int32 → Int32 → Int32 → Option Int32), B_X11_lineOf_7 N (nI n) uh ul ur uw k7 (nI 2) x t f (nI i) = k7 (nI 2) x t (if ul i = nI 2 then (if t < uh i then f else nI i) else f) (nI (i + 1)) := fun x k => by
        rw [B_X11_lineOf_7, if_neg g, p_ck (by omega) (by omega), nI_clamp (by omega)]
        by_cases a : ul i = nI 2
        · rw [if_pos a, if_pos a, p_ck (by omega) (by omega)]
          by_cases b : t < uh i
          · rw [if_pos b, if_pos b, p_nm, nI_1]
          · rw [if_neg b, if_neg b, if_pos s2, b68]
        · rw [if_neg a, if_neg a, p_nm, nI_1]
      exact ⟨_, _, b7 c _, b7 z _, rfl⟩
    · intro m m' f f' hI
      subst hI
      show B_X11_lineOf_7 N (nI n) uh ul ur uw _ (nI 2) c t f (nI n) = B_X11_lineOf_7 N (nI n) uh ul ur uw _ (nI 2) z t f (nI n)
      have g3 : nI n ≤ nI n := nI_le (Nat.le_refl n) (by omega)
      rw [B_X11_lineOf_7, B_X11_lineOf_7, if_pos g3, if_pos g3]
  unfold f_X11_ruleOf
  rw [key]
/-- what a reading holds, by the orders -/
def RRead (N : Nat) (sz : Int32) (co hr kd rk vl : Nat → Int32) (t mach : Int32) (od os : Nat → Int32) : Prop := ∀ c, c < 5 → (mach = 0 → f_X1_valueIn N sz co hr kd rk vl (nI 0) (nI c) t = some (os c) ∧ f_X1_valueIn N sz co hr kd rk vl (nI 1) (nI c) t = some (od c)) ∧ (¬ mach = 0 → f_X1_valueIn N sz co hr kd rk vl (nI 2) (nI c) t = some (os c) ∧ od c = 0)
theorem q_readIn (N : Nat) (hN : 41 ≤ N) {sz it : Int32} {co hr kd rk vl uh ul ur uv uw : Nat → Int32} {n : Nat} (hR : ROrd sz co hr kd rk vl it uh ul ur uv uw n) (dm ss : Nat → Int32) (t mach : Int32) : ∃ od os, f_X4_readIn N sz co hr kd rk vl dm ss t mach = some (od, os) ∧ RRead N sz co hr kd rk vl t mach od os := by
  unfold f_X4_readIn
  obtain ⟨e, he⟩ : ∃ e : Nat, e = 5 := ⟨_, rfl⟩
  rw [show (0 : Int32) = nI 0 from rfl]
  refine p_run (σ := (Nat → Int32) × (Nat → Int32))
    (W := fun m i s => wk_loop (fun k8 : (Nat → Int32) → (Nat → Int32) → Int32 → Int32 → Int32 → Option ((Nat → Int32) × (Nat → Int32)) => B_X4_readIn_8 N sz co hr kd rk vl k8) (fun _ _ _ _ _ => none) m s.1 s.2 t mach (nI i))
    (fun i s => ∀ c, c < i → (mach = 0 → f_X1_valueIn N sz co hr kd rk vl (nI 0) (nI c) t = some (s.2 c) ∧ f_X1_valueIn N sz co hr kd rk vl (nI 1) (nI c) t = some (s.1 c)) ∧ (¬ mach = 0 → f_X1_valueIn N sz co hr kd rk vl (nI 2) (nI c) t = some (s.2 c) ∧ s.1 c = 0))
    (fun A => ∃ od os, A = some (od, os) ∧ RRead N sz co hr kd rk vl t mach od os) e ?_ ?_ 5 N 0 (dm, ss) (by omega) (by omega) (fun c hc => by omega)
  · intro m i s hi hI
    obtain ⟨a, b⟩ := s
    have g : ¬ (5 : Int32) ≤ nI i := nI_ge (b := 5) (by omega) (by omega)
    obtain ⟨v0, e0, -⟩ := q_value N hN hR (w := 0) (by omega) (nI i) t
    obtain ⟨v1, e1, -⟩ := q_value N hN hR (w := 1) (by omega) (nI i) t
    obtain ⟨v2, e2, -⟩ := q_value N hN hR (w := 2) (by omega) (nI i) t
    by_cases hm : mach = 0
    · refine ⟨(upd a i v1, upd b i v0), ?_, fun c hc => ⟨fun _ => ?_, fun h => (h hm).elim⟩⟩
      · show B_X4_readIn_8 N sz co hr kd rk vl _ a b t mach (nI i) = _
        rw [B_X4_readIn_8, if_neg g, if_pos hm, B_X4_readIn_30, show (0 : Int32) = nI 0 from rfl, show (1 : Int32) = nI 1 from rfl, e0, p_b1, p_set (by omega) (by omega), p_b1, if_pos (show mach = nI 0 from hm), e1, p_b1, B_X4_readIn_61, p_set (by omega) (by omega), p_b1, p_nm, nI_1]
      · dsimp only
        by_cases hci : c = i
        · subst hci; rw [pk_us, pk_us]; exact ⟨e0, e1⟩
        · rw [pk_un hci, pk_un hci]; exact (hI c (by omega)).1 hm
    · refine ⟨(upd a i 0, upd b i v2), ?_, fun c hc => ⟨fun h => (hm h).elim, fun _ => ?_⟩⟩
      · show B_X4_readIn_8 N sz co hr kd rk vl _ a b t mach (nI i) = _
        rw [B_X4_readIn_8, if_neg g, if_neg hm, B_X4_readIn_30, show (2 : Int32) = nI 2 from rfl, e2, p_b1, p_set (by omega) (by omega), p_b1, if_neg hm, B_X4_readIn_61, p_set (by omega) (by omega), p_b1, p_nm, nI_1]
      · dsimp only
        by_cases hci : c = i
        · subst hci; rw [pk_us, pk_us]; exact ⟨e2, rfl⟩
        · rw [pk_un hci, pk_un hci]; exact (hI c (by omega)).2 hm
  · intro m s hI
    obtain ⟨a, b⟩ := s
    refine ⟨a, b, ?_, fun c hc => hI c (by omega)⟩
    show B_X4_readIn_8 N sz co hr kd rk vl _ a b t mach (nI e) = _
    rw [B_X4_readIn_8, if_pos (show (5 : Int32) ≤ nI e from nI_le (a := 5) (by omega) (by omega))]
/-- a card's vote: the class by its reading, the check by the items -/
theorem q_vote1 (N : Nat) (hN : 41 ≤ N) {sz it : Int32} {co hr kd rk vl uh ul ur uv uw : Nat → Int32} {n : Nat} (hR : ROrd sz co hr kd rk vl it uh ul ur uv uw n) {pz : Int32} {pc st cd ct hs : Nat → Int32} {k : Nat} (hP : RPile pz pc st cd ct hs 0 k) {t mach : Int32} {od os : Nat → Int32} (hD : RRead N sz co hr kd rk vl t mach od os) {c r : Nat} (hc : c < k) (hr3 : r < 3) :
    ∃ v, f_X4_choiceOf N pc st od os (nI c) (nI r) = some v ∧ f_X11_voteOf N it ct hs uh ul ur uv uw (nI c) (nI r) t mach = some v ∧ (v = -4 ∨ ∃ h, h < 4 ∧ v = nI h) := by
  obtain ⟨hk, -, -, hco, hst⟩ := hP
  have hst' : ∀ j, j < 12 * k → st j = hs j := fun j hj => by
    have := (hst j hj).1
    rw [Nat.mul_zero, Nat.zero_add] at this
    exact this
  obtain ⟨hcc, cy, hcy, ecy⟩ := hco c hc
  rw [Nat.mul_zero, Nat.zero_add] at hcc
  obtain ⟨d0, d1⟩ := hD cy hcy
  obtain ⟨v0, w0, x0⟩ := q_shown N (by omega) (co := pc) (st := st) (dm := od) (ss := os) (hs := hs) hk hst' hc hr3 hcy 0
  obtain ⟨v1, w1, x1⟩ := q_shown N (by omega) (co := pc) (st := st) (dm := od) (ss := os) (hs := hs) hk hst' hc hr3 hcy 1
  have hcls : f_X4_choiceOf N pc st od os (nI c) (nI r) = if od cy ≤ 0 then some v0 else wk_b1 (f_X3_dimplesOf N st (nI c)) (fun d => if d < od cy then some v0 else some v1) := by
    unfold f_X4_choiceOf f_X3_countyOf
    rw [p_get (by omega) (by omega), p_b1, p_b1, ecy, p_get hcy (by omega), p_b1, w0, w1]
  unfold f_X11_voteOf
  by_cases hm : mach = 0
  · rw [if_pos hm, p_nm]
    obtain ⟨f0, f1⟩ := d0 hm
    obtain ⟨u0, g0, g0'⟩ := q_value N hN hR (w := 0) (by omega) (nI cy) t
    obtain ⟨u1, g1, g1'⟩ := q_value N hN hR (w := 1) (by omega) (nI cy) t
    have h0 : u0 = os cy := by rw [f0] at g0; exact (Option.some.inj g0).symm
    have h1 : u1 = od cy := by rw [f1] at g1; exact (Option.some.inj g1).symm
    subst h0; subst h1
    have hd : ∃ d, f_X3_dimplesOf N st (nI c) = some d ∧ wk_loop (fun k29 : Int32 → Int32 → Int32 → Int32 → Int32 → Option Int32 => B_X11_voteOf_29 N it ct hs uh ul ur uv uw k29) (fun _ _ _ _ _ => none) N (nI c) (nI r) t (0 : Int32) ((12 : Int32) * nI c) = if od cy ≤ 0 then some v0 else if d < od cy then some v0 else some v1 := by
      unfold f_X3_dimplesOf
      rw [p_nm, show (12 : Int32) = nI 12 from rfl, pk_mul, pk_mul, Nat.mul_comm c 12]
      refine p_sim (σ := Int32) (τ := Int32)
        (W := fun m i s => wk_loop (fun k7 : Int32 → Int32 → Int32 → Option Int32 => B_X3_dimplesOf_7 N st k7) (fun _ _ _ => none) m (nI c) s (nI i))
        (V := fun m i s => wk_loop (fun k29 : Int32 → Int32 → Int32 → Int32 → Int32 → Option Int32 => B_X11_voteOf_29 N it ct hs uh ul ur uv uw k29) (fun _ _ _ _ _ => none) m (nI c) (nI r) t s (nI i))
        (fun _ s s' => s = s')
        (fun A B => ∃ d, A = some d ∧ B = if od cy ≤ 0 then some v0 else if d < od cy then some v0 else some v1) (12 * c + 12) ?_ ?_ 12 N N (12 * c) 0 0 rfl (by omega) (by omega) rfl
      · intro m m' i s s' hi hI
        subst hI
        have ga : ¬ ((nI c + (1 : Int32)) * (12 : Int32)) ≤ nI i := by
          rw [nI_1, show (12 : Int32) = nI 12 from rfl, pk_mul]
          exact nI_ge (by omega) (by omega)
        have gb : ¬ (((12 : Int32) * nI c) + (12 : Int32)) ≤ nI i := by
          rw [show (12 : Int32) = nI 12 from rfl, pk_mul, nI_add]
          exact nI_ge (by omega) (by omega)
        have es := hst' i (by omega)
        by_cases q : hs i = 1
        · refine ⟨s + 1, s + 1, ?_, ?_, rfl⟩
          · show B_X3_dimplesOf_7 N st _ (nI c) s (nI i) = _
            rw [B_X3_dimplesOf_7, if_neg ga, p_get (by omega) (by omega), p_b1, es, if_pos q, p_nm, p_nm, nI_1 i]
          · show B_X11_voteOf_29 N it ct hs uh ul ur uv uw _ (nI c) (nI r) t s (nI i) = _
            rw [B_X11_voteOf_29, if_neg gb, p_ck (by omega) (by omega), nI_clamp (by omega), if_pos q, p_nm, p_nm, nI_1 i]
        · refine ⟨s, s, ?_, ?_, rfl⟩
          · show B_X3_dimplesOf_7 N st _ (nI c) s (nI i) = _
            rw [B_X3_dimplesOf_7, if_neg ga, p_get (by omega) (by omega), p_b1, es, if_neg q, p_nm, nI_1 i]
          · show B_X11_voteOf_29 N it ct hs uh ul ur uv uw _ (nI c) (nI r) t s (nI i) = _
            rw [B_X11_voteOf_29, if_neg gb, p_ck (by omega) (by omega), nI_clamp (by omega), if_neg q, p_nm, p_nm, nI_1 i, Int32.add_zero]
      · intro m m' s s' hI
        subst hI
        refine ⟨s, ?_, ?_⟩
        · show B_X3_dimplesOf_7 N st _ (nI c) s (nI (12 * c + 12)) = _
          rw [B_X3_dimplesOf_7, if_pos]
          rw [nI_1, show (12 : Int32) = nI 12 from rfl, pk_mul]
          exact nI_le (by omega) (by omega)
        · show B_X11_voteOf_29 N it ct hs uh ul ur uv uw _ (nI c) (nI r) t s (nI (12 * c + 12)) = _
          have gb : (((12 : Int32) * nI c) + (12 : Int32)) ≤ nI (12 * c + 12) := by
            rw [show (12 : Int32) = nI 12 from rfl, pk_mul, nI_add]
            exact nI_le (by omega) (by omega)
          have e114 : ∀ fl v : Int32, f_X11_votes N hs (nI c) (nI r) (os cy) fl = some v → B_X11_voteOf_114 N it ct hs uh ul ur uv uw (nI c) (nI r) (os cy) fl = some v := fun fl v h => by
            rw [B_X11_voteOf_114, h, p_b1]
          rw [B_X11_voteOf_29, if_pos gb, p_ck (by omega) (by omega), nI_clamp (by omega), ← hcc, ecy, show (1 : Int32) = nI 1 from rfl, g1', p_b1, p_ck (by omega) (by omega), show (0 : Int32) = nI 0 from rfl, g0', p_b1, e114 (nI 0) v0 x0.1, e114 (nI 1) v1 x1.1]
    obtain ⟨d, hd1, hd2⟩ := hd
    rw [hcls, hd1, hd2, p_b1]
    by_cases q1 : od cy ≤ 0
    · rw [if_pos q1]; exact ⟨v0, rfl, rfl, x0.2⟩
    · rw [if_neg q1]
      by_cases q2 : d < od cy
      · rw [if_pos q2]; exact ⟨v0, rfl, rfl, x0.2⟩
      · rw [if_neg q2]; exact ⟨v1, rfl, rfl, x1.2⟩
  · rw [if_neg hm]
    obtain ⟨f2, z2⟩ := d1 hm
    obtain ⟨u2, g2, g2'⟩ := q_value N hN hR (w := 2) (by omega) (nI cy) t
    have h2 : u2 = os cy := by rw [f2] at g2; exact (Option.some.inj g2).symm
    subst h2
    have g2'' := (q_mach N hN (uh := uh) (ul := ul) (ur := ur) (uv := uv) (uw := uw) hR.1 hR.2.2.1 (nI cy) t).symm.trans g2'
    rw [hcls, z2, if_pos (by decide), show (2 : Int32) = nI 2 from rfl, g2'', p_b1, x0.1, p_b1]
    exact ⟨v0, rfl, rfl, x0.2⟩
