/-! PURE: the one who is struck, by whom -/
theorem q_struckAs (N : Nat) (hN : 41 ≤ N) {th : Int32} {al : Nat → Int32} {lim ls : Int32} {ld ll sg : Nat → Int32} {vlim vs : Int32} {vc vd vl : Nat → Int32} {ul uv un : Int32} {uld : Nat → Int32} {uln : Nat → Int64} {uvc uvd : Nat → Int32} {uvn : Nat → Int64} {na nb : Nat} (hR : RRoll th al lim ls ld ll sg vlim vs vc vd vl ul uv un uld uln uvc uvd uvn na nb) {a : Nat} (ha : a < na) :
    ∃ r, f_X5_struckAs N th ls sg (nI a) = some r ∧ f_X11_struckAs N ul un uld uln uvd uvn (nI a) = some r ∧ (r = -4 ∨ ∃ b, b < nb ∧ r = nI b ∧ ∃ t, 1 ≤ t ∧ t ≤ 800 ∧ f_X11_likeOf N uln uvn (nI a) (nI b) = some (nI t)) := by
  obtain ⟨t, ht⟩ := p_pairs N hN hR ha
  obtain ⟨hb, ha2, rfl, rfl, -, -, -, -, rfl, hth, -, -, -⟩ := hR
  obtain ⟨k, hk, rfl⟩ := p_of (x := th) (n := 100) (by omega) hth.2
  have hk1 : 1 ≤ k := by have := hth.1; rw [nI_toInt (by omega)] at this; omega
  unfold f_X5_struckAs f_X11_struckAs
  rw [p_nm, show (0 : Int32) = nI 0 from rfl, show (1 : Int32) = nI 1 from rfl, pk_sub hk1]
  refine p_sim (σ := Int32 × Nat) (τ := Int32)
    (W := fun m i s => wk_loop (fun k13 : Int32 → Int32 → Int32 → Int32 → Option Int32 => B_X5_struckAs_13 N (nI k) (nI nb) sg k13) (fun _ _ _ _ => none) m (nI a) s.1 (nI s.2) (nI i))
    (V := fun m i s => wk_loop (fun k5 : Int32 → Int32 → Int32 → Option Int32 => B_X11_struckAs_5 N (nI nb) (nI k) uld uln uvd uvn k5) (fun _ _ _ => none) m (nI a) s (nI i))
    (fun i s s' => s.1 = s' ∧ ((s.1 = -4 ∧ s.2 = k - 1) ∨ ∃ b, b < i ∧ s.1 = nI b ∧ s.2 = t b ∧ k ≤ t b ∧ t b ≤ 800))
    (fun A B => ∃ r, A = some r ∧ B = some r ∧ (r = -4 ∨ ∃ b, b < nb ∧ r = nI b ∧ ∃ t, 1 ≤ t ∧ t ≤ 800 ∧ f_X11_likeOf N uln uvn (nI a) (nI b) = some (nI t))) nb ?_ ?_ nb N N 0 (-4, k - 1) (-4) (by omega) (by omega) (by omega) ⟨rfl, Or.inl ⟨rfl, rfl⟩⟩
  · rintro m m' i ⟨x, st⟩ s' hi ⟨rfl, hI⟩
    dsimp only at hI ⊢
    have g : ¬ nI nb ≤ nI i := nI_ge hi (by omega)
    obtain ⟨t1, t2, -, t4, t5⟩ := ht i hi
    obtain ⟨c1, c2⟩ := p_strikes1 N (un := nI k) (uld := uld) (uvd := uvd) (show a < 12 by omega) (show i < 8 by omega) t2
    have hst : st ≤ 800 := by rcases hI with ⟨-, w⟩ | ⟨b, -, -, w, -, w2⟩ <;> omega
    have hst1 : k - 1 ≤ st := by rcases hI with ⟨-, w⟩ | ⟨b, -, -, w, w3, w2⟩ <;> omega
    have cls : ∀ (k13 : Int32 → Int32 → Int32 → Int32 → Option Int32) (v : Nat), v ≤ 800 → sg (8 * a + i) = nI v → B_X5_struckAs_13 N (nI k) (nI nb) sg k13 (nI a) x (nI st) (nI i) = if v ≤ st then k13 (nI a) x (nI st) (nI (i + 1)) else k13 (nI a) (nI i) (nI v) (nI (i + 1)) := fun k13 v hv e => by
      rw [B_X5_struckAs_13, show f_X2_size N (nI nb) = some (nI nb) from rfl, p_b1, if_neg g]
      unfold f_X5_pair
      rw [p_b1, show (nI a * (8 : Int32)) + nI i = nI (8 * a + i) from by rw [show (8 : Int32) = nI 8 from rfl, pk_mul, nI_add, Nat.mul_comm], p_get (by omega) (by omega), p_b1, p_b1, p_get (by omega) (by omega), p_b1, e, p_nm, p_nm, nI_1]
      by_cases w : v ≤ st
      · rw [if_pos w, if_pos (nI_le w (by omega))]
      · rw [if_neg w, if_neg (nI_ge (by omega) (by omega))]
    have modn : ∀ k5 : Int32 → Int32 → Int32 → Option Int32, f_X11_strikes1 N (nI k) uld uln uvd uvn (nI a) (nI i) = some false → B_X11_struckAs_5 N (nI nb) (nI k) uld uln uvd uvn k5 (nI a) x (nI i) = k5 (nI a) x (nI (i + 1)) := fun k5 e => by
      rw [B_X11_struckAs_5, if_neg g, e, p_b1, if_pos (show wk_bI false = 0 from rfl), p_nm, nI_1]
    have keep : (x = -4 ∧ st = k - 1) ∨ (∃ b, b < i + 1 ∧ x = nI b ∧ st = t b ∧ k ≤ t b ∧ t b ≤ 800) := by
      rcases hI with w | ⟨b, w1, w2⟩
      · exact Or.inl w
      · exact Or.inr ⟨b, by omega, w2⟩
    by_cases ok : p_ok (uvd a) (uld i)
    · by_cases u : k ≤ t i
      · have es := c1 ⟨ok, nI_nlt (by omega) (by omega)⟩
        by_cases v : t i ≤ st
        · refine ⟨(x, st), x, ?_, ?_, rfl, keep⟩
          · exact (cls _ (t i) t1 (t4 ok)).trans (if_pos v)
          · rcases hI with ⟨w1, w2⟩ | ⟨b, w1, w2, w3, w4, w5⟩
            · omega
            · obtain ⟨-, tb, -⟩ := ht b (by omega)
              show B_X11_struckAs_5 N (nI nb) (nI k) uld uln uvd uvn _ (nI a) x (nI i) = _
              rw [B_X11_struckAs_5, if_neg g, es, p_b1, if_neg (by decide), w2, if_neg (nI_pos (by omega)), t2, p_b1, tb, p_b1, if_pos (nI_le (by omega) (by omega)), p_nm, nI_1]
        · refine ⟨(nI i, t i), nI i, ?_, ?_, rfl, Or.inr ⟨i, by omega, rfl, rfl, u, t1⟩⟩
          · exact (cls _ (t i) t1 (t4 ok)).trans (if_neg v)
          · show B_X11_struckAs_5 N (nI nb) (nI k) uld uln uvd uvn _ (nI a) x (nI i) = _
            rw [B_X11_struckAs_5, if_neg g, es, p_b1, if_neg (by decide)]
            rcases hI with ⟨w1, w2⟩ | ⟨b, w1, w2, w3, w4, w5⟩
            · rw [w1, if_pos (by decide), p_nm, nI_1]
            · obtain ⟨-, tb, -⟩ := ht b (by omega)
              rw [w2, if_neg (nI_pos (by omega)), t2, p_b1, tb, p_b1, if_neg (nI_ge (by omega) (by omega)), p_nm, nI_1]
      · refine ⟨(x, st), x, ?_, modn _ (c2 (fun w => w.2 (nI_lt (by omega) (by omega)))), rfl, keep⟩
        exact (cls _ (t i) t1 (t4 ok)).trans (if_pos (by omega))
    · refine ⟨(x, st), x, ?_, modn _ (c2 (fun w => ok w.1)), rfl, keep⟩
      exact (cls _ 0 (by omega) (t5 ok)).trans (if_pos (by omega))
  · rintro m m' ⟨x, st⟩ s' ⟨rfl, hI⟩
    dsimp only at hI ⊢
    have g : nI nb ≤ nI nb := nI_le (Nat.le_refl nb) (by omega)
    refine ⟨x, ?_, ?_, ?_⟩
    · show B_X5_struckAs_13 N (nI k) (nI nb) sg _ (nI a) x (nI st) (nI nb) = _
      rw [B_X5_struckAs_13, show f_X2_size N (nI nb) = some (nI nb) from rfl, p_b1, if_pos g]
    · show B_X11_struckAs_5 N (nI nb) (nI k) uld uln uvd uvn _ (nI a) x (nI nb) = _
      rw [B_X11_struckAs_5, if_pos g]
    · rcases hI with ⟨w, -⟩ | ⟨b, w1, w2, w3, w4, w5⟩
      · exact Or.inl w
      · exact Or.inr ⟨b, w1, w2, t b, by omega, w5, (ht b w1).2.1⟩
