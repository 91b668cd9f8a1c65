/-! PURE: clash -/
theorem p_simx {σ τ R S : Type} {W : Nat → Nat → σ → Option R} {V : Nat → Nat → τ → Option S} (I : Nat → σ → τ → Prop) (P : Option R → Option S → Prop) (e : Nat)
    (hs : ∀ m m' i s t, i < e → I i s t → P (W (m + 1) i s) (V (m' + 1) i t) ∨ ∃ s' t', W (m + 1) i s = W m (i + 1) s' ∧ V (m' + 1) i t = V m' (i + 1) t' ∧ I (i + 1) s' t')
    (hx : ∀ m m' s t, I e s t → P (W (m + 1) e s) (V (m' + 1) e t)) : ∀ (d m m' i : Nat) (s : σ) (t : τ), i + d = e → d < m → d < m' → I i s t → P (W m i s) (V m' i t) := by
  intro d
  induction d with
  | zero =>
    intro m m' i s t h1 h2 h3 hI
    obtain ⟨n, rfl⟩ : ∃ n, m = n + 1 := ⟨m - 1, by omega⟩
    obtain ⟨n', rfl⟩ : ∃ n, m' = n + 1 := ⟨m' - 1, by omega⟩
    have e1 : i = e := by omega
    subst e1
    exact hx n n' s t hI
  | succ d ih =>
    intro m m' i s t h1 h2 h3 hI
    obtain ⟨n, rfl⟩ : ∃ n, m = n + 1 := ⟨m - 1, by omega⟩
    obtain ⟨n', rfl⟩ : ∃ n, m' = n + 1 := ⟨m' - 1, by omega⟩
    rcases hs n n' i s t (by omega) hI with h | ⟨s', t', e1, e2, hI'⟩
    · exact h
    · rw [e1, e2]
      exact ih n n' (i + 1) s' t' (by omega) (by omega) (by omega) hI'
def p_un (co hr kd rk vl : Nat → Int32) (i j : Nat) : Prop := kd i = 3 ∧ kd j = 3 ∧ rk i = rk j ∧ hr i = hr j ∧ vl i ≠ vl j ∧ (co i = co j ∨ co i = 5 ∨ co j = 5)
theorem p_unlike (N : Nat) (co hr kd rk vl : Nat → Int32) {i j : Nat} (hi : i < 40) (hj : j < 40) : (p_un co hr kd rk vl i j → f_X1_areUnlike N co hr kd rk vl (nI i) (nI j) = some true) ∧ (¬ p_un co hr kd rk vl i j → f_X1_areUnlike N co hr kd rk vl (nI i) (nI j) = some false) := by
  unfold f_X1_areUnlike p_un
  simp only [p_get hi (show 40 ≤ 2000 by decide), p_get hj (show 40 ≤ 2000 by decide), p_b1, p_isFor N co hi]
  by_cases a : kd i = 3
  · by_cases b : kd j = 3
    · by_cases c : rk i = rk j
      · by_cases d : hr i = hr j
        · by_cases e : vl i = vl j
          · simp only [if_pos a, if_pos b, if_pos c, if_pos d, if_pos e]
            exact ⟨fun h => (h.2.2.2.2.1 e).elim, fun _ => trivial⟩
          · simp only [if_pos a, if_pos b, if_pos c, if_pos d, if_neg e]
            by_cases f : co i = 5 ∨ co i = co j
            · rw [if_neg (by rw [p_bI, decide_eq_true f]; decide)]
              exact ⟨fun _ => rfl, fun h => (h ⟨a, b, c, d, e, f.elim (fun q => Or.inr (Or.inl q)) Or.inl⟩).elim⟩
            · rw [if_pos (by rw [p_bI, decide_eq_false f])]
              by_cases g : co j = 5
              · rw [if_pos g]
                exact ⟨fun _ => rfl, fun h => (h ⟨a, b, c, d, e, Or.inr (Or.inr g)⟩).elim⟩
              · rw [if_neg g]
                exact ⟨fun h => (h.2.2.2.2.2.elim (fun q => f (Or.inr q)) (fun q => q.elim (fun q => f (Or.inl q)) g)).elim, fun _ => rfl⟩
        · simp only [if_pos a, if_pos b, if_pos c, if_neg d]
          exact ⟨fun h => (d h.2.2.2.1).elim, fun _ => trivial⟩
      · simp only [if_pos a, if_pos b, if_neg c]
        exact ⟨fun h => (c h.2.2.1).elim, fun _ => trivial⟩
    · simp only [if_pos a, if_neg b]
      exact ⟨fun h => (b h.2.1).elim, fun _ => trivial⟩
  · simp only [if_neg a]
    exact ⟨fun h => (a h.1).elim, fun _ => trivial⟩
theorem q_clash (N : Nat) (hN : 42 ≤ N) {sz it : Int32} {co hr kd rk vl uh ul ur uv uw : Nat → Int32} {n : Nat} (hR : ROrd sz co hr kd rk vl it uh ul ur uv uw n) : ∃ r, f_X10_clash N sz co hr kd rk vl = some r ∧ f_X11_clash N it uh ul ur uv uw = some r := by
  obtain ⟨hn, rfl, rfl, hi⟩ := hR
  unfold f_X10_clash f_X1_firstClash f_X11_clash
  have main : ∃ r, wk_loop (fun k2 : Int32 → Option Int32 => B_X1_firstClash_2 N (nI n) co hr kd rk vl k2) (fun _ => none) N (nI 0) = some r ∧ wk_loop (fun k2 : Int32 → Option Int32 => B_X11_clash_2 N (nI n) uh ul ur uv uw k2) (fun _ => none) N (nI 0) = some r := by
    refine p_simx (σ := Unit) (τ := Unit)
      (W := fun m i _ => wk_loop (fun k2 : Int32 → Option Int32 => B_X1_firstClash_2 N (nI n) co hr kd rk vl k2) (fun _ => none) m (nI i))
      (V := fun m i _ => wk_loop (fun k2 : Int32 → Option Int32 => B_X11_clash_2 N (nI n) uh ul ur uv uw k2) (fun _ => none) m (nI i))
      (fun _ _ _ => True) (fun A B => ∃ r, A = some r ∧ B = some r) n ?_ ?_ n N N 0 () () (by omega) (by omega) (by omega) trivial
    · intro m m' i _ _ hin _
      obtain ⟨⟨e1, e2, e3, e4, e5⟩, -⟩ := hi i hin
      have g : ¬ nI n ≤ nI i := nI_ge hin (by omega)
      show (∃ r, B_X1_firstClash_2 N (nI n) co hr kd rk vl _ (nI i) = some r ∧ B_X11_clash_2 N (nI n) uh ul ur uv uw _ (nI i) = some r) ∨ ∃ _ _ : Unit, B_X1_firstClash_2 N (nI n) co hr kd rk vl _ (nI i) = _ ∧ B_X11_clash_2 N (nI n) uh ul ur uv uw _ (nI i) = _ ∧ True
      rw [B_X1_firstClash_2, B_X11_clash_2, if_neg g, if_neg g, p_nm, p_nm, nI_1]
      generalize wk_loop (fun k2 : Int32 → Option Int32 => B_X1_firstClash_2 N (nI n) co hr kd rk vl k2) (fun _ => none) m = kA
      generalize wk_loop (fun k2 : Int32 → Option Int32 => B_X11_clash_2 N (nI n) uh ul ur uv uw k2) (fun _ => none) m' = kB
      refine p_simx (σ := Unit) (τ := Unit)
        (W := fun m j _ => wk_loop (fun k14 : Int32 → Int32 → Option Int32 => B_X1_firstClash_14 N (nI n) co hr kd rk vl kA k14) (fun _ _ => none) m (nI i) (nI j))
        (V := fun m j _ => wk_loop (fun k14 : Int32 → Int32 → Option Int32 => B_X11_clash_14 N (nI n) uh ul ur uv uw kB k14) (fun _ _ => none) m (nI i) (nI j))
        (fun _ _ _ => True) (fun A B => (∃ r, A = some r ∧ B = some r) ∨ ∃ _ _ : Unit, A = kA (nI (i + 1)) ∧ B = kB (nI (i + 1)) ∧ True) n ?_ ?_ (n - (i + 1)) N N (i + 1) () () (by omega) (by omega) (by omega) trivial
      · intro m m' j _ _ hjn _
        obtain ⟨⟨d1, d2, d3, d4, d5⟩, -⟩ := hi j hjn
        have g2 : ¬ nI n ≤ nI j := nI_ge hjn (by omega)
        obtain ⟨u1, u2⟩ := p_unlike N co hr kd rk vl (i := i) (j := j) (by omega) (by omega)
        show ((∃ r, B_X1_firstClash_14 N (nI n) co hr kd rk vl kA _ (nI i) (nI j) = some r ∧ B_X11_clash_14 N (nI n) uh ul ur uv uw kB _ (nI i) (nI j) = some r) ∨ ∃ _ _ : Unit, B_X1_firstClash_14 N (nI n) co hr kd rk vl kA _ (nI i) (nI j) = kA (nI (i + 1)) ∧ B_X11_clash_14 N (nI n) uh ul ur uv uw kB _ (nI i) (nI j) = kB (nI (i + 1)) ∧ True) ∨ ∃ _ _ : Unit, B_X1_firstClash_14 N (nI n) co hr kd rk vl kA _ (nI i) (nI j) = _ ∧ B_X11_clash_14 N (nI n) uh ul ur uv uw kB _ (nI i) (nI j) = _ ∧ True
        have ci : ∀ {α : Type} (k : Option α), wk_ck (nI i) 40 k = k := fun k => p_ck (by omega) (by decide) k
        have cj : ∀ {α : Type} (k : Option α), wk_ck (nI j) 40 k = k := fun k => p_ck (by omega) (by decide) k
        rw [B_X1_firstClash_14, B_X11_clash_14, if_neg g2, if_neg g2]
        have b0 : ∀ k14 : Int32 → Int32 → Option Int32, B_X11_clash_92 N (nI n) uh ul ur uv uw kB k14 (nI i) (nI j) (0 : Int32) = k14 (nI i) (nI (j + 1)) := fun k14 => by
          rw [B_X11_clash_92, if_pos rfl, p_nm, nI_1]
        have b1 : ∀ k14 : Int32 → Int32 → Option Int32, B_X11_clash_92 N (nI n) uh ul ur uv uw kB k14 (nI i) (nI j) (1 : Int32) = if co i = co j ∨ co i = 5 ∨ co j = 5 then some (((100 : Int32) * nI i) + nI j) else k14 (nI i) (nI (j + 1)) := fun k14 => by
          rw [B_X11_clash_92, if_neg (by decide), ci, cj, nI_clamp (by omega), nI_clamp (by omega), e2, d2]
          by_cases q1 : co i = co j
          · rw [if_pos q1, if_pos (Or.inl q1)]
          · rw [if_neg q1, ci]
            by_cases q2 : co i = 5
            · rw [if_pos q2, if_pos (Or.inr (Or.inl q2))]
            · rw [if_neg q2, cj]
              by_cases q3 : co j = 5
              · rw [if_pos q3, if_pos (Or.inr (Or.inr q3))]
              · rw [if_neg q3, if_neg (fun h => h.elim q1 (fun h => h.elim q2 q3)), p_nm, nI_1]
        simp only [ci, cj, nI_clamp (show i < 2 ^ 31 by omega), nI_clamp (show j < 2 ^ 31 by omega), e1, d1, e3, d3, e4, d4, e5, d5]
        by_cases u : p_un co hr kd rk vl i j
        · left; left
          rw [u1 u, p_b1, if_neg (by decide)]
          obtain ⟨v1, v2, v3, v4, v5, v6⟩ := u
          rw [if_pos v1, if_pos v2, if_pos v3, if_pos v4, if_neg v5, b1, if_pos v6]
          exact ⟨_, rfl, rfl⟩
        · right
          rw [u2 u, p_b1, if_pos (show wk_bI false = 0 from rfl), p_nm, nI_1]
          refine ⟨(), (), rfl, ?_, trivial⟩
          by_cases v1 : kd i = 3
          · rw [if_pos v1]
            by_cases v2 : kd j = 3
            · rw [if_pos v2]
              by_cases v3 : rk i = rk j
              · rw [if_pos v3]
                by_cases v4 : hr i = hr j
                · rw [if_pos v4]
                  by_cases v5 : vl i = vl j
                  · rw [if_pos v5, b0]
                  · rw [if_neg v5, b1, if_neg (fun v6 => u ⟨v1, v2, v3, v4, v5, v6⟩)]
                · rw [if_neg v4, b0]
              · rw [if_neg v3, b0]
            · rw [if_neg v2, b0]
          · rw [if_neg v1, b0]
      · intro m m' _ _ _
        right
        show ∃ _ _ : Unit, B_X1_firstClash_14 N (nI n) co hr kd rk vl kA _ (nI i) (nI n) = kA (nI (i + 1)) ∧ B_X11_clash_14 N (nI n) uh ul ur uv uw kB _ (nI i) (nI n) = kB (nI (i + 1)) ∧ True
        have g3 : nI n ≤ nI n := nI_le (Nat.le_refl n) (by omega)
        rw [B_X1_firstClash_14, B_X11_clash_14, if_pos g3, if_pos g3, p_nm, p_nm, nI_1]
        exact ⟨(), (), rfl, rfl, trivial⟩
    · intro m m' _ _ _
      show ∃ r, B_X1_firstClash_2 N (nI n) co hr kd rk vl _ (nI n) = some r ∧ B_X11_clash_2 N (nI n) uh ul ur uv uw _ (nI n) = some r
      have g3 : nI n ≤ nI n := nI_le (Nat.le_refl n) (by omega)
      rw [B_X1_firstClash_2, B_X11_clash_2, if_pos g3, if_pos g3]
      exact ⟨_, rfl, rfl⟩
  obtain ⟨r, h1, h2⟩ := main
  rw [show (0 : Int32) = nI 0 from rfl, h1, h2, p_b1]
  exact ⟨_, rfl, rfl⟩
