/-! PURE: closed and free counties; force -/
theorem p_hold3 (N n : Nat) (hn : n ≤ 40) (co hr kd rk : Nat → Int32) (c t r : Int32) : ∀ (m : Nat) (s : Int32) (i : Nat), i ≤ n → (s = -4 ∨ ∃ k, k < n ∧ s = nI k ∧ kd k = 3) →
    wk_loop (fun k7 : Int32 → Int32 → Int32 → Int32 → Int32 → Option Int32 => B_X1_holding_7 N (nI n) co hr kd rk k7) (fun _ _ _ _ _ => none) m (3 : Int32) c t s (nI i) = some r → (r = -4 ∨ ∃ k, k < n ∧ r = nI k ∧ kd k = 3) := by
  intro m
  induction m with
  | zero => intro s i _ _ h; exact absurd h (by intro h; cases h)
  | succ m ih =>
    intro s i hi hs h
    change B_X1_holding_7 N (nI n) co hr kd rk _ 3 c t s (nI i) = some r at h
    rw [B_X1_holding_7] at h
    by_cases a : i < n
    · rw [if_neg (nI_ge a (by omega)), p_get (by omega) (by omega), p_b1] at h
      have e0 : ∀ k7 : Int32 → Int32 → Int32 → Int32 → Int32 → Option Int32, B_X1_holding_57 N (nI n) co hr kd rk k7 3 c t s (nI i) (0 : Int32) = k7 3 c t s (nI (i + 1)) := fun k7 => by
        rw [B_X1_holding_57, if_pos rfl, p_nm, nI_1]
      by_cases b : kd i = 3
      · rw [if_pos b, p_isFor N co (by omega), p_b1, p_get (by omega) (by omega), p_b1] at h
        by_cases d : wk_bI (decide (co i = 5 ∨ co i = c)) = 0
        · rw [if_pos d, e0] at h
          exact ih s (i + 1) (by omega) hs h
        · rw [if_neg d] at h
          by_cases e : t < hr i
          · rw [if_pos e, e0] at h
            exact ih s (i + 1) (by omega) hs h
          · rw [if_neg e, B_X1_holding_57, if_neg (by decide)] at h
            have hi3 : nI i = -4 ∨ ∃ k, k < n ∧ nI i = nI k ∧ kd k = 3 := Or.inr ⟨i, a, rfl, b⟩
            by_cases f : s = -4
            · rw [if_pos f, p_nm, nI_1] at h
              exact ih _ (i + 1) (by omega) hi3 h
            · rw [if_neg f] at h
              cases y : f_X1_yields N hr kd rk (nI i) s with
              | none => rw [y] at h; exact absurd h (by intro h; cases h)
              | some bb =>
                rw [y, p_b1] at h
                by_cases g : wk_bI bb = 0
                · rw [if_pos g, p_nm, nI_1] at h
                  exact ih _ (i + 1) (by omega) hi3 h
                · rw [if_neg g, p_nm, nI_1] at h
                  exact ih s (i + 1) (by omega) hs h
      · rw [if_neg b, e0] at h
        exact ih s (i + 1) (by omega) hs h
    · rw [if_pos (nI_le (by omega) (by omega))] at h
      have := Option.some.inj h
      subst this
      exact hs
/-- an order's value is 0 or 1 -/
theorem p_val3 (N : Nat) (hN : 41 ≤ N) {sz it : Int32} {co hr kd rk vl uh ul ur uv uw : Nat → Int32} {n : Nat} (hR : ROrd sz co hr kd rk vl it uh ul ur uv uw n) (c t : Int32) : ∃ b : Nat, b ≤ 1 ∧ f_X1_valueIn N sz co hr kd rk vl 3 c t = some (nI b) ∧ f_X11_ruleOf N it uh ul ur uv uw 3 c t = some (nI b) ∧ (n = 0 → b = 1) := by
  obtain ⟨r, e1, e2, h⟩ := q_hold N hN hR (w := 3) (by omega) c t
  rw [show nI 3 = (3 : Int32) from rfl] at e1 e2
  obtain ⟨hn, rfl, rfl, hi⟩ := hR
  have h3 := p_hold3 N n hn co hr kd rk c t r N (-4) 0 (by omega) (Or.inl rfl) e1
  unfold f_X1_valueIn f_X11_ruleOf f_X1_without
  rw [e1, e2, p_b1, p_b1]
  rcases h3 with rfl | ⟨k, hk, rfl, hk3⟩
  · rw [if_pos rfl, if_pos (show (-4 : Int32) < 0 by decide)]
    exact ⟨1, by omega, rfl, rfl, fun _ => rfl⟩
  · have nk : ¬ nI k = (-4 : Int32) := fun h => by
      have := congrArg Int32.toInt h
      rw [nI_toInt (by omega), show (-4 : Int32).toInt = -4 from rfl] at this
      omega
    obtain ⟨b, hb, hv⟩ := (hi k hk).2.2.2.2.2.2.2.2.2 hk3
    refine ⟨b, hb, ?_, ?_, fun h => absurd hk (by omega)⟩
    · rw [if_neg nk, p_get (by omega) (by omega), p_b1, hv]
    · rw [if_neg (nI_pos (by omega)), p_ck (by omega) (by omega), nI_clamp (by omega), (hi k hk).1.2.2.2.1, hv]
theorem p_cbit : ∀ i, i < 5 → ∀ b, b < 2 ^ i → nI b ||| ((1 : Int32) <<< (nI i &&& 31)) = nI (b + 2 ^ i) := by decide
theorem p_cor0 : ∀ b, b < 32 → nI b ||| (0 : Int32) = nI b := by decide
/-- what the class closes in an hour, and what the check opens -/
theorem q_open5 (N : Nat) (hN : 41 ≤ N) {sz it : Int32} {co hr kd rk vl uh ul ur uv uw : Nat → Int32} {n : Nat} (hR : ROrd sz co hr kd rk vl it uh ul ur uv uw n) (t : Int32) : ∃ c, c < 32 ∧ f_X1_closedIn N sz co hr kd rk vl t = some (nI c) ∧ f_X11_open N it uh ul ur uv uw t = some (nI (31 - c)) ∧ (n = 0 → c = 0) := by
  unfold f_X1_closedIn f_X11_open
  obtain ⟨z, hz⟩ : ∃ z : Nat, z = 0 := ⟨_, rfl⟩
  obtain ⟨e, he⟩ : ∃ e : Nat, e = 5 := ⟨_, rfl⟩
  rw [show (0 : Int32) = nI z by rw [hz]; rfl]
  refine p_sim (σ := Nat) (τ := Nat)
    (W := fun m i s => wk_loop (fun k4 : Int32 → Int32 → Int32 → Option Int32 => B_X1_closedIn_4 N sz co hr kd rk vl k4) (fun _ _ _ => none) m t (nI s) (nI i))
    (V := fun m i s => wk_loop (fun k4 : Int32 → Int32 → Int32 → Option Int32 => B_X11_open_4 N it uh ul ur uv uw k4) (fun _ _ _ => none) m t (nI s) (nI i))
    (fun i s s' => s < 2 ^ i ∧ s + s' = 2 ^ i - 1 ∧ (n = 0 → s = 0))
    (fun A B => ∃ c, c < 32 ∧ A = some (nI c) ∧ B = some (nI (31 - c)) ∧ (n = 0 → c = 0)) e ?_ ?_ e N N z z z (by omega) (by omega) (by omega) ⟨by subst hz; decide, by subst hz; rfl, fun _ => hz⟩
  · intro m m' i s s' hi hI
    obtain ⟨h1, h2, h3⟩ := hI
    have hp : 2 ^ i ≤ 16 := by
      have : 2 ^ i ≤ 2 ^ 4 := Nat.pow_le_pow_right (by omega) (by omega)
      exact this
    have hp1 : 1 ≤ 2 ^ i := Nat.one_le_two_pow
    have h2p : 2 ^ (i + 1) = 2 * 2 ^ i := by rw [Nat.pow_succ]; omega
    obtain ⟨b, hb, v1, v2, v3⟩ := p_val3 N hN hR (nI i) t
    have g : ¬ (5 : Int32) ≤ nI i := nI_ge (b := 5) (by omega) (by omega)
    rcases (show b = 0 ∨ b = 1 by omega) with rfl | rfl
    · refine ⟨s + 2 ^ i, s', ?_, ?_, by omega, by omega, fun h => absurd (v3 h) (by decide)⟩
      · show B_X1_closedIn_4 N sz co hr kd rk vl _ t (nI s) (nI i) = _
        rw [B_X1_closedIn_4, if_neg g, v1, p_b1, if_pos (show nI 0 = 0 from rfl), p_nm, p_nm, nI_1, p_cbit i (by omega) s (by omega)]
      · show B_X11_open_4 N it uh ul ur uv uw _ t (nI s') (nI i) = _
        rw [B_X11_open_4, if_neg g, v2, p_b1, if_neg (by decide), p_nm, p_nm, nI_1, p_cor0 s' (by omega)]
    · refine ⟨s, s' + 2 ^ i, ?_, ?_, by omega, by omega, h3⟩
      · show B_X1_closedIn_4 N sz co hr kd rk vl _ t (nI s) (nI i) = _
        rw [B_X1_closedIn_4, if_neg g, v1, p_b1, if_neg (by decide), p_nm, nI_1]
      · show B_X11_open_4 N it uh ul ur uv uw _ t (nI s') (nI i) = _
        rw [B_X11_open_4, if_neg g, v2, p_b1, if_pos (by decide), p_nm, p_nm, nI_1, p_cbit i (by omega) s' (by omega)]
  · intro m m' s s' hI
    subst he
    obtain ⟨h1, h2, h3⟩ := hI
    refine ⟨s, by omega, ?_, ?_, h3⟩
    · show B_X1_closedIn_4 N sz co hr kd rk vl _ t (nI s) (nI 5) = _
      rw [B_X1_closedIn_4, if_pos (by decide)]
    · show B_X11_open_4 N it uh ul ur uv uw _ t (nI s') (nI 5) = _
      rw [B_X11_open_4, if_pos (by decide), show s' = 31 - s by omega]
/-- the hours' closed counties, as the class keeps them -/
def RShut (N : Nat) (cl : Nat → Int32) (it : Int32) (uh ul ur uv uw : Nat → Int32) : Prop := ∀ h, h < 1000 → ∃ c, c < 32 ∧ cl h = nI c ∧ f_X11_open N it uh ul ur uv uw (nI h) = some (nI (31 - c))
theorem p_ordOf {T : Nat → Nat} {L n : Nat} (hL : L ≤ 200) (hn : n ≤ 40) (hg : ∀ j, j < n → p_good T L j) {hr kd rk vl co uh ul ur uv uw : Nat → Int32} (h1 : p_rows T L n hr kd rk vl co) (h2 : p_rows T L n uh ul ur uv uw) : ROrd (nI n) co hr kd rk vl (nI n) uh ul ur uv uw n := by
  refine ⟨hn, rfl, rfl, fun k hk => ?_⟩
  obtain ⟨a1, a2, a3, a4, a5⟩ := h1 k hk
  obtain ⟨b1, b2, b3, b4, b5⟩ := h2 k hk
  obtain ⟨-, g1, -, t1, t2, t3, t4⟩ := hg k hk
  have hlh := p_lohi (k := p_kd (T (p_ps T L k)))
  have hh : p_hn T L (p_ps T L k) (p_kd (T (p_ps T L k))) < 1000 := p_nth_lt _ _ _ _
  have k2 : ∀ j, j < 4 → kd k = nI j → p_kd (T (p_ps T L k)) = j := fun j hj h => (nI_eq (by omega) (by omega)).mp (a2.symm.trans h)
  refine ⟨⟨by rw [b2, a2], by rw [b5, a5], by rw [b3, a3], by rw [b4, a4], by rw [b1, a1]⟩, ⟨_, g1, a2⟩, ⟨_, by omega, a5⟩, ⟨_, t2, a3⟩, ⟨_, by omega, a4⟩, ⟨_, hh, a1⟩, ?_, ?_, ?_, ?_⟩
  · intro h
    have := k2 2 (by omega) h
    rw [a5, this]; rfl
  · intro h
    have e := k2 0 (by omega) h
    rw [e] at t3 t4
    exact ⟨_, t3, t4, by rw [a4, e]⟩
  · intro h
    have e := k2 2 (by omega) h
    rw [e] at t3 t4
    exact ⟨_, t3, t4, by rw [a4, e]⟩
  · intro h
    have e := k2 3 (by omega) h
    rw [e] at t4
    exact ⟨_, t4, by rw [a4, e]⟩
/-- the check takes the items read -/
theorem p_force1 (N : Nat) (hN : 401 ≤ N) (L : Nat) (ut : Nat → Int32) {T : Nat → Nat} {n : Nat} (hn : n ≤ 40) (a' : Int32) (uh ul ur uv uw hr lt rk vl wh : Nat → Int32) (hr0 : p_rows T L n hr lt rk vl wh) :
    ∃ uh' ul' ur' uv' uw', wk_loop (fun k22 : Int32 → Int32 → Int32 → (Nat → Int32) → (Nat → Int32) → (Nat → Int32) → (Nat → Int32) → (Nat → Int32) → (Nat → Int32) → (Nat → Int32) → (Nat → Int32) → (Nat → Int32) → (Nat → Int32) → Int32 → Option (Int32 × Int32 × Int32 × Int32 × (Nat → Int32) × (Nat → Int32) × (Nat → Int32) × (Nat → Int32) × (Nat → Int32) × (Nat → Int32) × (Nat → Int32) × (Nat → Int32) × (Nat → Int32) × (Nat → Int32)) => B_X11_force_22 N (nI L) ut k22) (fun _ _ _ _ _ _ _ _ _ _ _ _ _ _ => none) N (nI n) (nI n) a' uh ul ur hr lt rk vl wh uv uw (0 : Int32) = some (nI n, nI n, nI n, a', uh', ul', ur', hr, lt, rk, vl, wh, uv', uw') ∧ p_rows T L n uh' ul' ur' uv' uw' := by
  rw [show (0 : Int32) = nI 0 from rfl]
  refine p_run (σ := (Nat → Int32) × (Nat → Int32) × (Nat → Int32) × (Nat → Int32) × (Nat → Int32))
    (W := fun m i s' => wk_loop (fun k22 : Int32 → Int32 → Int32 → (Nat → Int32) → (Nat → Int32) → (Nat → Int32) → (Nat → Int32) → (Nat → Int32) → (Nat → Int32) → (Nat → Int32) → (Nat → Int32) → (Nat → Int32) → (Nat → Int32) → Int32 → Option (Int32 × Int32 × Int32 × Int32 × (Nat → Int32) × (Nat → Int32) × (Nat → Int32) × (Nat → Int32) × (Nat → Int32) × (Nat → Int32) × (Nat → Int32) × (Nat → Int32) × (Nat → Int32) × (Nat → Int32)) => B_X11_force_22 N (nI L) ut k22) (fun _ _ _ _ _ _ _ _ _ _ _ _ _ _ => none) m (nI n) (nI n) a' s'.1 s'.2.1 s'.2.2.1 hr lt rk vl wh s'.2.2.2.1 s'.2.2.2.2 (nI i))
    (fun i s' => ∀ k, k < i → s'.1 k = hr k ∧ s'.2.1 k = lt k ∧ s'.2.2.1 k = rk k ∧ s'.2.2.2.1 k = vl k ∧ s'.2.2.2.2 k = wh k)
    (fun A => ∃ uh' ul' ur' uv' uw', A = some (nI n, nI n, nI n, a', uh', ul', ur', hr, lt, rk, vl, wh, uv', uw') ∧ p_rows T L n uh' ul' ur' uv' uw') n ?_ ?_ n N 0 (uh, ul, ur, uv, uw) (by omega) (by omega) (fun k hk => absurd hk (by omega))
  · intro m i s' hi hI
    obtain ⟨a1, a2, a3, a4, a5⟩ := s'
    refine ⟨(upd a1 i (hr i), upd a2 i (lt i), upd a3 i (rk i), upd a4 i (vl i), upd a5 i (wh i)), ?_, fun k hk => ?_⟩
    · show B_X11_force_22 N (nI L) ut _ (nI n) (nI n) a' a1 a2 a3 hr lt rk vl wh a4 a5 (nI i) = _
      rw [B_X11_force_22, if_neg (nI_ge hi (by omega))]
      simp only [p_ck (show i < 40 by omega) (show 40 < 2 ^ 31 by decide), nI_clamp (show i < 2 ^ 31 by omega), p_nm, nI_1]
    · dsimp only
      by_cases a : k = i
      · subst a
        simp only [pk_us]
        exact ⟨trivial, trivial, trivial, trivial, trivial⟩
      · simp only [pk_un a]
        exact hI k (by omega)
  · intro m s' hI
    obtain ⟨a1, a2, a3, a4, a5⟩ := s'
    refine ⟨a1, a2, a3, a4, a5, ?_, fun k hk => ?_⟩
    · show B_X11_force_22 N (nI L) ut _ (nI n) (nI n) a' a1 a2 a3 hr lt rk vl wh a4 a5 (nI n) = _
      rw [B_X11_force_22, if_pos (nI_le (Nat.le_refl n) (by omega))]
    · obtain ⟨c1, c2, c3, c4, c5⟩ := hI k hk
      obtain ⟨d1, d2, d3, d4, d5⟩ := hr0 k hk
      dsimp only at c1 c2 c3 c4 c5
      exact ⟨c1.trans d1, c2.trans d2, c3.trans d3, c4.trans d4, c5.trans d5⟩
theorem q_force (N : Nat) (hN : 1001 ≤ N) {len ul0 : Int32} {tb ut : Nat → Int32} (hX : RText len tb ul0 ut) {sz it : Int32} {co hr kd rk vl cl uh ul ur uv uw : Nat → Int32} {n0 : Nat} (hR : ROrd sz co hr kd rk vl it uh ul ur uv uw n0) (hS : RShut N cl it uh ul ur uv uw) (bh tk cy tr tv th : Int32) (nm : Nat → Int32) (ri at' : Int32) (rh rl rr rv rw' : Nat → Int32) :
    ∃ r sz' co' hr' kd' rk' vl' cl' b' k' c' r' v' h' nm' it' ri' a' uh' ul' ur' rh' rl' rr' rv' rw'' uv' uw' n,
      f_X10_force N len tb sz co hr kd rk vl cl bh tk cy tr tv th nm = some (r, sz', co', hr', kd', rk', vl', cl', b', k', c', r', v', h', nm') ∧
      f_X11_force N ul0 ut it ri at' uh ul ur rh rl rr rv rw' uv uw = some (r, it', ri', a', uh', ul', ur', rh', rl', rr', rv', rw'', uv', uw') ∧
      ROrd sz' co' hr' kd' rk' vl' it' uh' ul' ur' uv' uw' n ∧ RShut N cl' it' uh' ul' ur' uv' uw' := by
  obtain ⟨L, hL, rfl, rfl, hX2⟩ := hX
  obtain ⟨T, h1, h2⟩ := p_textT hX2
  obtain ⟨n, hn, hg, hb, hps⟩ := p_items T hL
  obtain ⟨b', k', c', r', v', h', nm', e1⟩ := p_fault0 N (by omega) hL h1 hn hg hb hps bh tk cy tr tv th nm
  obtain ⟨a', rh', rl', rr', rv', rw'', e2, hrow⟩ := p_fault1 N (by omega) hL h2 hn hg hb hps ri at' rh rl rr rv rw'
  unfold f_X10_force f_X11_force
  rw [e1, e2, p_b8, p_b8]
  by_cases a : p_ps T L n < L
  · have nk : ¬ nI (p_ps T L n) = (-4 : Int32) := fun h => by
      have := congrArg Int32.toInt h
      rw [nI_toInt (by omega), show (-4 : Int32).toInt = -4 from rfl] at this
      omega
    rw [if_pos a, if_neg nk, if_neg nk]
    exact ⟨_, _, _, _, _, _, _, _, _, _, _, _, _, _, _, _, _, _, _, _, _, _, _, _, _, _, _, _, n0, rfl, rfl, hR, hS⟩
  · rw [if_neg a, if_pos rfl, if_pos rfl]
    obtain ⟨b2, k2, c2, r2, v2, h2', nm2, co', hr', kd', rk', vl', e3, hrow2⟩ := p_take N (by omega) hL h1 hn hg (by omega) hps b' k' c' r' v' h' nm' sz co hr kd rk vl
    obtain ⟨uh', ul', ur', uv', uw', e4, hrow3⟩ := p_force1 N (by omega) L ut (T := T) hn a' uh ul ur uv uw rh' rl' rr' rv' rw'' hrow
    have hO := p_ordOf hL hn hg hrow2 hrow3
    have hH : ∀ k, k < n → hr' k = nI (p_hn T L (p_ps T L k) (p_kd (T (p_ps T L k)))) ∧ p_hn T L (p_ps T L k) (p_kd (T (p_ps T L k))) < 1000 := fun k hk => ⟨(hrow2 k hk).1, p_nth_lt _ _ _ _⟩
    obtain ⟨cl', e5, hcl⟩ := p_learn N hN hn (co := co') (hr := hr') (kd := kd') (rk := rk') (vl := vl') (H := fun k => p_hn T L (p_ps T L k) (p_kd (T (p_ps T L k)))) hH (fun t => by obtain ⟨c, -, e, -⟩ := q_open5 N (by omega) hO t; exact ⟨_, e⟩) cl
    rw [e3, p_b13, e5, p_b1, f_X1_size, p_b1, e4]
    refine ⟨_, _, _, _, _, _, _, _, _, _, _, _, _, _, _, _, _, _, _, _, _, _, _, _, _, _, _, _, n, rfl, rfl, hO, fun h hh => ?_⟩
    obtain ⟨c, hc, g1, g2, -⟩ := q_open5 N (by omega) hO (nI h)
    have := hcl h hh
    rw [g1] at this
    exact ⟨c, hc, (Option.some.inj this).symm, g2⟩
