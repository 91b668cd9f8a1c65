/-! PURE: cards kept -/
theorem RPile.congr {sz : Int32} {co st cd ct hs cd' ct' hs' : Nat → Int32} {sl n : Nat} (h : RPile sz co st cd ct hs sl n) (h1 : cd' sl = cd sl) (h2 : ∀ k, k < 40 → ct' (40 * sl + k) = ct (40 * sl + k)) (h3 : ∀ k, k < 480 → hs' (480 * sl + k) = hs (480 * sl + k)) : RPile sz co st cd' ct' hs' sl n := by
  obtain ⟨a, b, c, d, e⟩ := h
  exact ⟨a, b, by rw [h1, c], fun k hk => by rw [h2 k (by omega)]; exact d k hk, fun j hj => by rw [h3 j (by omega)]; exact e j hj⟩
theorem p_copy (N n : Nat) (hn : n ≤ 1000) (hN : n < N) (p v : Nat → Int32) : ∃ o, f_X6_copy N n n p v = some o ∧ ∀ k, k < n → o k = p k := by
  unfold f_X6_copy
  refine p_run (σ := Nat → Int32) (W := fun m i s => wk_loop (fun k7 : (Nat → Int32) → Int32 → Option (Nat → Int32) => B_X6_copy_7 N n n p k7) (fun _ _ => none) m s (nI i)) (fun i s => ∀ k, k < i → s k = p k) (fun A => ∃ o, A = some o ∧ ∀ k, k < n → o k = p k) n ?_ ?_ n N 0 v (by omega) hN (fun k hk => by omega)
  · intro m i s hi hI
    refine ⟨upd s i (p i), ?_, ?_⟩
    · show B_X6_copy_7 N n n p _ s (nI i) = _
      rw [B_X6_copy_7]
      rw [if_neg (nI_ge hi (by omega)), p_get hi (by omega), p_b1, p_ck hi (by omega), p_nm, nI_clamp (by omega), nI_1]
    · intro k hk
      by_cases e : k = i
      · subst e; rw [pk_us]
      · rw [pk_un e]; exact hI k (by omega)
  · intro m s hI
    refine ⟨s, ?_, hI⟩
    show B_X6_copy_7 N n n p _ s (nI n) = _
    rw [B_X6_copy_7]
    rw [if_pos (nI_le (Nat.le_refl n) (by omega))]
theorem p_pcopy (N : Nat) (hN : 480 < N) (ps : Int32) (pc pt : Nat → Int32) (s : Int32) (c t : Nat → Int32) : ∃ o1 o2, f_X3_copy N ps pc pt s c t = some (ps, o1, o2) ∧ (∀ k, k < 40 → o1 k = pc k) ∧ ∀ k, k < 480 → o2 k = pt k := by
  obtain ⟨o1, e1, h1⟩ := p_copy N 40 (by omega) (by omega) pc c
  obtain ⟨o2, e2, h2⟩ := p_copy N 480 (by omega) (by omega) pt t
  refine ⟨o1, o2, ?_, h1, h2⟩
  unfold f_X3_copy
  rw [e1, e2, p_b1, p_b1]
theorem q_copies (N : Nat) (hN : 480 < N) (cd ct hs : Nat → Int32) {a b : Nat} (ha : a < 3) (hb : b < 3) (hab : a ≠ b) : ∃ p2 p3, f_X11_copies N cd ct hs (nI a) (nI b) = some (upd cd b (cd a), p2, p3) ∧ (∀ k, k < 40 → p2 (40 * b + k) = ct (40 * a + k)) ∧ (∀ j, (j < 40 * b ∨ 40 * b + 40 ≤ j) → p2 j = ct j) ∧ (∀ k, k < 480 → p3 (480 * b + k) = hs (480 * a + k)) ∧ (∀ j, (j < 480 * b ∨ 480 * b + 480 ≤ j) → p3 j = hs j) := by
  unfold f_X11_copies
  rw [p_ck ha (by decide), p_ck hb (by decide), nI_clamp (by omega), nI_clamp (by omega)]
  obtain ⟨e4, he4⟩ : ∃ e : Nat, e = 40 := ⟨_, rfl⟩
  obtain ⟨e5, he5⟩ : ∃ e : Nat, e = 480 := ⟨_, rfl⟩
  rw [show (0 : Int32) = nI 0 from rfl]
  refine p_run (σ := Nat → Int32) (W := fun m i s => wk_loop (fun k14 : (Nat → Int32) → (Nat → Int32) → (Nat → Int32) → Int32 → Int32 → Int32 → Option ((Nat → Int32) × (Nat → Int32) × (Nat → Int32)) => B_X11_copies_14 N k14) (fun _ _ _ _ _ _ => none) m (upd cd b (cd a)) s hs (nI a) (nI b) (nI i))
    (fun i s => (∀ k, k < i → s (40 * b + k) = ct (40 * a + k)) ∧ (∀ j, (j < 40 * b ∨ 40 * b + 40 ≤ j) → s j = ct j))
    (fun A => ∃ p2 p3, A = some (upd cd b (cd a), p2, p3) ∧ (∀ k, k < 40 → p2 (40 * b + k) = ct (40 * a + k)) ∧ (∀ j, (j < 40 * b ∨ 40 * b + 40 ≤ j) → p2 j = ct j) ∧ (∀ k, k < 480 → p3 (480 * b + k) = hs (480 * a + k)) ∧ (∀ j, (j < 480 * b ∨ 480 * b + 480 ≤ j) → p3 j = hs j)) e4 ?_ ?_ 40 N 0 ct (by omega) (by omega) ⟨fun k hk => by omega, fun _ _ => rfl⟩
  · intro m i s hi hI
    refine ⟨upd s (40 * b + i) (s (40 * a + i)), ?_, ?_, ?_⟩
    · show B_X11_copies_14 N _ _ s hs (nI a) (nI b) (nI i) = _
      rw [B_X11_copies_14]
      rw [if_neg (show ¬ (40 : Int32) ≤ nI i from nI_ge (b := 40) (by omega) (by omega)), show (40 : Int32) = nI 40 from rfl, pk_mul, pk_mul, nI_add, nI_add, p_ck (by omega) (by omega), p_ck (by omega) (by omega), p_nm, nI_clamp (by omega), nI_clamp (by omega), nI_1]
    · intro k hk
      by_cases e : k = i
      · subst e; rw [pk_us]; exact hI.2 _ (by omega)
      · rw [pk_un (by omega)]; exact hI.1 k (by omega)
    · intro j hj
      rw [pk_un (by omega)]
      exact hI.2 j hj
  · intro m s hI
    show ∃ p2 p3, B_X11_copies_14 N _ _ s hs (nI a) (nI b) (nI e4) = _ ∧ _
    rw [B_X11_copies_14]
    rw [if_pos (show (40 : Int32) ≤ nI e4 from nI_le (a := 40) (by omega) (by omega))]
    refine p_run (σ := Nat → Int32) (W := fun m i t => wk_loop (fun k50 : (Nat → Int32) → (Nat → Int32) → (Nat → Int32) → Int32 → Int32 → Int32 → Option ((Nat → Int32) × (Nat → Int32) × (Nat → Int32)) => B_X11_copies_50 N k50) (fun _ _ _ _ _ _ => none) m (upd cd b (cd a)) s t (nI a) (nI b) (nI i))
      (fun i t => (∀ k, k < i → t (480 * b + k) = hs (480 * a + k)) ∧ (∀ j, (j < 480 * b ∨ 480 * b + 480 ≤ j) → t j = hs j))
      (fun A => ∃ p2 p3, A = some (upd cd b (cd a), p2, p3) ∧ (∀ k, k < 40 → p2 (40 * b + k) = ct (40 * a + k)) ∧ (∀ j, (j < 40 * b ∨ 40 * b + 40 ≤ j) → p2 j = ct j) ∧ (∀ k, k < 480 → p3 (480 * b + k) = hs (480 * a + k)) ∧ (∀ j, (j < 480 * b ∨ 480 * b + 480 ≤ j) → p3 j = hs j)) e5 ?_ ?_ 480 N 0 hs (by omega) (by omega) ⟨fun k hk => by omega, fun _ _ => rfl⟩
    · intro m i t hi hJ
      refine ⟨upd t (480 * b + i) (t (480 * a + i)), ?_, ?_, ?_⟩
      · show B_X11_copies_50 N _ _ s t (nI a) (nI b) (nI i) = _
        rw [B_X11_copies_50]
        rw [if_neg (show ¬ (480 : Int32) ≤ nI i from nI_ge (b := 480) (by omega) (by omega)), show (480 : Int32) = nI 480 from rfl, pk_mul, pk_mul, nI_add, nI_add, p_ck (by omega) (by omega), p_ck (by omega) (by omega), p_nm, nI_clamp (by omega), nI_clamp (by omega), nI_1]
      · intro k hk
        by_cases e : k = i
        · subst e; rw [pk_us]; exact hJ.2 _ (by omega)
        · rw [pk_un (by omega)]; exact hJ.1 k (by omega)
      · intro j hj
        rw [pk_un (by omega)]
        exact hJ.2 j hj
    · intro m t hJ
      refine ⟨s, t, ?_, fun k hk => hI.1 k (by omega), hI.2, fun k hk => hJ.1 k (by omega), hJ.2⟩
      show B_X11_copies_50 N _ _ s t (nI a) (nI b) (nI e5) = _
      rw [B_X11_copies_50]
      rw [if_pos (show (480 : Int32) ≤ nI e5 from nI_le (a := 480) (by omega) (by omega))]
def RKept (kept : Int32) (s1 : Int32) (c1 t1 : Nat → Int32) (s2 : Int32) (c2 t2 cd ct hs : Nat → Int32) (ukept : Int32) : Prop := ∃ k : Nat, k ≤ 2 ∧ kept = nI k ∧ ukept = nI k ∧ (1 ≤ k → ∃ n, RPile s1 c1 t1 cd ct hs 1 n) ∧ (2 ≤ k → ∃ n, RPile s2 c2 t2 cd ct hs 2 n)
/-- a pile copied is the pile -/
theorem RPile.copied {sz : Int32} {co st cd ct hs o1 o2 cd' ct' hs' : Nat → Int32} {sl sl' n : Nat} (h : RPile sz co st cd ct hs sl n) (h1 : ∀ k, k < 40 → o1 k = co k) (h2 : ∀ k, k < 480 → o2 k = st k) (h3 : cd' sl' = cd sl) (h4 : ∀ k, k < 40 → ct' (40 * sl' + k) = ct (40 * sl + k)) (h5 : ∀ k, k < 480 → hs' (480 * sl' + k) = hs (480 * sl + k)) : RPile sz o1 o2 cd' ct' hs' sl' n := by
  obtain ⟨a, b, c, d, e⟩ := h
  exact ⟨a, b, by rw [h3, c], fun k hk => by rw [h1 k (by omega), h4 k (by omega)]; exact d k hk, fun j hj => by rw [h2 j (by omega), h5 j (by omega)]; exact e j hj⟩
theorem q_keep (N : Nat) (hN : 480 < N) {sz : Int32} {co st cd ct hs : Nat → Int32} {n : Nat} (hR : RPile sz co st cd ct hs 0 n) {kept s1 s2 uk : Int32} {c1 t1 c2 t2 : Nat → Int32} (hK : RKept kept s1 c1 t1 s2 c2 t2 cd ct hs uk) :
    ∃ r ok os1 oc1 ot1 os2 oc2 ot2 pk p1 p2 p3, f_X10_keep N sz co st kept s1 c1 t1 s2 c2 t2 = some (r, ok, os1, oc1, ot1, os2, oc2, ot2) ∧ f_X11_keep N uk cd ct hs = some (r, pk, p1, p2, p3) ∧ RPile sz co st p1 p2 p3 0 n ∧ RKept ok os1 oc1 ot1 os2 oc2 ot2 p1 p2 p3 pk := by
  have hK0 := hK
  obtain ⟨k, hk, rfl, rfl, h1, h2⟩ := hK
  unfold f_X10_keep f_X11_keep
  rcases (show k = 0 ∨ k = 1 ∨ k = 2 by omega) with rfl | rfl | rfl
  · obtain ⟨o1, o2, e, hc, ht⟩ := p_pcopy N hN sz co st s1 c1 t1
    obtain ⟨p2, p3, e', g1, g2, g3, g4⟩ := q_copies N hN cd ct hs (a := 0) (b := 1) (by decide) (by decide) (by decide)
    rw [if_pos (by decide), if_pos (by decide), e, p_b3, if_neg (by decide), show (0 : Int32) = nI 0 from rfl, show (1 : Int32) + nI 0 = nI 1 from rfl, e', p_b3]
    refine ⟨_, _, _, _, _, _, _, _, _, _, _, _, rfl, rfl, hR.congr (pk_un (by decide)) (fun k hk => g2 _ (by omega)) (fun k hk => g4 _ (by omega)), 1, by decide, rfl, rfl, fun _ => ⟨n, hR.copied hc ht (pk_us) (fun k hk => by rw [g1 k hk]) (fun k hk => by rw [g3 k hk])⟩, fun h => by omega⟩
  · obtain ⟨n1, hP1⟩ := h1 (by decide)
    obtain ⟨o1, o2, e, hc, ht⟩ := p_pcopy N hN sz co st s2 c2 t2
    obtain ⟨p2, p3, e', g1, g2, g3, g4⟩ := q_copies N hN cd ct hs (a := 0) (b := 2) (by decide) (by decide) (by decide)
    rw [if_pos (by decide), if_neg (by decide), e, p_b3, if_neg (by decide), show (0 : Int32) = nI 0 from rfl, show (1 : Int32) + nI 1 = nI 2 from rfl, e', p_b3]
    refine ⟨_, _, _, _, _, _, _, _, _, _, _, _, rfl, rfl, hR.congr (pk_un (by decide)) (fun k hk => g2 _ (by omega)) (fun k hk => g4 _ (by omega)), 2, by decide, rfl, rfl, fun _ => ⟨n1, hP1.congr (pk_un (by decide)) (fun k hk => g2 _ (by omega)) (fun k hk => g4 _ (by omega))⟩, fun _ => ⟨n, hR.copied hc ht (pk_us) (fun k hk => by rw [g1 k hk]) (fun k hk => by rw [g3 k hk])⟩⟩
  · rw [if_neg (by decide), if_pos (by decide)]
    exact ⟨_, _, _, _, _, _, _, _, _, _, _, _, rfl, rfl, hR, hK0⟩
theorem q_back (N : Nat) (hN : 480 < N) {sz : Int32} {co st cd ct hs : Nat → Int32} {n : Nat} (hR : RPile sz co st cd ct hs 0 n) {kept s1 s2 uk : Int32} {c1 t1 c2 t2 : Nat → Int32} (hK : RKept kept s1 c1 t1 s2 c2 t2 cd ct hs uk) :
    ∃ r ok os oc ot pk p1 p2 p3 n', f_X10_back N s1 c1 t1 s2 c2 t2 kept sz co st = some (r, ok, os, oc, ot) ∧ f_X11_back N uk cd ct hs = some (r, pk, p1, p2, p3) ∧ RPile os oc ot p1 p2 p3 0 n' ∧ RKept ok s1 c1 t1 s2 c2 t2 p1 p2 p3 pk := by
  have hK0 := hK
  obtain ⟨k, hk, rfl, rfl, h1, h2⟩ := hK
  unfold f_X10_back f_X11_back
  rcases (show k = 0 ∨ k = 1 ∨ k = 2 by omega) with rfl | rfl | rfl
  · rw [if_neg (by decide), if_pos (by decide)]
    exact ⟨_, _, _, _, _, _, _, _, _, n, rfl, rfl, hR, hK0⟩
  · obtain ⟨n1, hP1⟩ := h1 (by decide)
    obtain ⟨o1, o2, e, hc, ht⟩ := p_pcopy N hN s1 c1 t1 sz co st
    obtain ⟨p2, p3, e', g1, g2, g3, g4⟩ := q_copies N hN cd ct hs (a := 1) (b := 0) (by decide) (by decide) (by decide)
    rw [if_pos (by decide), if_pos (by decide), e, p_b3, if_neg (by decide), show (1 : Int32) + (nI 1 - (1 : Int32)) = nI 1 from rfl, show (0 : Int32) = nI 0 from rfl, e', p_b3]
    refine ⟨_, _, _, _, _, _, _, _, _, n1, rfl, rfl, hP1.copied hc ht (pk_us) (fun k hk => by rw [g1 k hk]) (fun k hk => by rw [g3 k hk]), 0, by decide, rfl, rfl, fun h => by omega, fun h => by omega⟩
  · obtain ⟨n1, hP1⟩ := h1 (by decide)
    obtain ⟨n2, hP2⟩ := h2 (by decide)
    obtain ⟨o1, o2, e, hc, ht⟩ := p_pcopy N hN s2 c2 t2 sz co st
    obtain ⟨p2, p3, e', g1, g2, g3, g4⟩ := q_copies N hN cd ct hs (a := 2) (b := 0) (by decide) (by decide) (by decide)
    rw [if_pos (by decide), if_neg (by decide), e, p_b3, if_neg (by decide), show (1 : Int32) + (nI 2 - (1 : Int32)) = nI 2 from rfl, show (0 : Int32) = nI 0 from rfl, e', p_b3]
    refine ⟨_, _, _, _, _, _, _, _, _, n2, rfl, rfl, hP2.copied hc ht (pk_us) (fun k hk => by rw [g1 k hk]) (fun k hk => by rw [g3 k hk]), 1, by decide, rfl, rfl, fun _ => ⟨n1, hP1.congr (pk_un (by decide)) (fun k hk => g2 _ (by omega)) (fun k hk => g4 _ (by omega))⟩, fun h => by omega⟩
