/-! PURE: the votes by rule and county; the choices that are unlike -/
theorem p_pk_add (f g : Nat → Nat) : p_pk f + p_pk g = p_pk (fun h => f h + g h) := by unfold p_pk; dsimp only; omega
theorem p_pk_inj {f g : Nat → Nat} (hf : ∀ h, f h ≤ 40) (hg : ∀ h, g h ≤ 40) (e : p_pk f = p_pk g) : ∀ h, h < 4 → f h = g h := by
  have a0 := hf 0
  have a1 := hf 1
  have a2 := hf 2
  have a3 := hf 3
  have b0 := hg 0
  have b1 := hg 1
  have b2 := hg 2
  have b3 := hg 3
  unfold p_pk at e
  intro h hh
  rcases (show h = 0 ∨ h = 1 ∨ h = 2 ∨ h = 3 by omega) with rfl | rfl | rfl | rfl <;> omega
theorem p_pk_le {f : Nat → Nat} (hf : ∀ h, f h ≤ 40) : p_pk f < 2 ^ 30 := by
  have a0 := hf 0
  have a1 := hf 1
  have a2 := hf 2
  have a3 := hf 3
  unfold p_pk
  omega
/-- a county's votes by a rule -/
def p_cv (ct : Nat → Int32) (vt : Nat → Nat → Int32) (n c l h : Nat) : Nat := p_cnt (p_sel ct (nI c) (vt l) h) n
theorem p_cv_le (ct : Nat → Int32) (vt : Nat → Nat → Int32) {n : Nat} (hn : n ≤ 40) (c l h : Nat) : p_cv ct vt n c l h ≤ 40 := Nat.le_trans (p_cnt_le _ _) hn
theorem p_place5 (N c : Nat) {l : Nat} (h : 1 ≤ l) : f_X0_place N (nI c) (nI l) = some (nI (5 * c + (l - 1))) := by
  unfold f_X0_place
  rw [show (5 : Int32) = nI 5 from rfl, show (1 : Int32) = nI 1 from rfl, pk_mul, nI_add, pk_sub (by omega), show c * 5 + l - 1 = 5 * c + (l - 1) by omega]
/-- the row of votes -/
def RVotes (ct : Nat → Int32) (vt : Nat → Nat → Int32) (n : Nat) (vo : Nat → Int32) : Prop := ∀ c, c < 5 → ∀ l, 1 ≤ l → l ≤ 5 → vo (5 * c + (l - 1)) = nI (p_pk (fun h => p_cv ct vt n c l h))
theorem p_learn0 (N : Nat) (hN : 121 ≤ N) {ct pc st : Nat → Int32} {n r : Nat} (hn : n ≤ 40) (hpc : ∀ j, j < n → pc j = ct j) {vt : Nat → Nat → Int32} (hv : ∀ l c, c < n → (∀ od os : Nat → Int32, (∀ c, c < 5 → od c = 0 ∧ os c = nI l) → f_X4_choiceOf N pc st od os (nI c) (nI r) = some (vt l c)) ∧ (vt l c = -4 ∨ ∃ h, h < 4 ∧ vt l c = nI h)) (dm ss vo : Nat → Int32) :
    ∃ od os vo', f_X0_learn N (nI n) pc st dm ss vo (nI r) = some (od, os, vo') ∧ RVotes ct vt n vo' := by
  unfold f_X0_learn
  obtain ⟨z, hz⟩ : ∃ z : Nat, z = 0 := ⟨_, rfl⟩
  have hz0 : nI z = 0 := by rw [hz]; rfl
  obtain ⟨z1, hz1⟩ : ∃ z : Nat, z = 1 := ⟨_, rfl⟩
  obtain ⟨e, he⟩ : ∃ e : Nat, e = 6 := ⟨_, rfl⟩
  obtain ⟨e5, he5⟩ : ∃ e : Nat, e = 5 := ⟨_, rfl⟩
  rw [show (1 : Int32) = nI z1 by rw [hz1]; rfl]
  refine p_run (σ := (Nat → Int32) × (Nat → Int32) × (Nat → Int32))
    (W := fun m l s => wk_loop (fun k7 : (Nat → Int32) → (Nat → Int32) → (Nat → Int32) → Int32 → Int32 → Option ((Nat → Int32) × (Nat → Int32) × (Nat → Int32)) => B_X0_learn_7 N (nI n) pc st k7) (fun _ _ _ _ _ => none) m s.1 s.2.1 s.2.2 (nI r) (nI l))
    (fun l s => 1 ≤ l ∧ ∀ c, c < 5 → ∀ l', 1 ≤ l' → l' < l → s.2.2 (5 * c + (l' - 1)) = nI (p_pk (fun h => p_cv ct vt n c l' h)))
    (fun A => ∃ od os vo', A = some (od, os, vo') ∧ RVotes ct vt n vo') e ?_ ?_ (e - z1) N z1 (dm, ss, vo) (by omega) (by omega) ⟨by omega, fun c hc l' h1 h2 => absurd h2 (by omega)⟩
  · intro m l s hl hI
    obtain ⟨s1, s2, s3⟩ := s
    obtain ⟨hl1, hI⟩ := hI
    dsimp only at hI
    obtain ⟨od, os, e1, hD⟩ := q_readBy N (by omega) s1 s2 (nI l)
    have hsum : ∀ c, c < 5 → f_X8_sum N (nI n) pc st od os (nI c) (nI r) = some (nI (p_pk (fun h => p_cv ct vt n c l h))) := by
      intro c hc
      rw [q_sum N (by omega) hn (fun q hq => (hv l q hq).1 od os hD) (fun q hq => (hv l q hq).2) (nI c)]
      have : (fun g => p_cnt (p_sel pc (nI c) (vt l) g) n) = fun h => p_cv ct vt n c l h := by
        funext g
        exact p_cnt_c fun j hj => by unfold p_sel; rw [hpc j hj]
      rw [this]
    obtain ⟨k7, hk7⟩ : ∃ q, q = wk_loop (fun k7 : (Nat → Int32) → (Nat → Int32) → (Nat → Int32) → Int32 → Int32 → Option ((Nat → Int32) × (Nat → Int32) × (Nat → Int32)) => B_X0_learn_7 N (nI n) pc st k7) (fun _ _ _ _ _ => none) m := ⟨_, rfl⟩
    have h20 : ∃ vo', (∀ c, c < 5 → ∀ l', 1 ≤ l' → l' < l + 1 → vo' (5 * c + (l' - 1)) = nI (p_pk (fun h => p_cv ct vt n c l' h))) ∧ wk_loop (fun k20 : (Nat → Int32) → (Nat → Int32) → (Nat → Int32) → Int32 → Int32 → Int32 → Option ((Nat → Int32) × (Nat → Int32) × (Nat → Int32)) => B_X0_learn_20 N (nI n) pc st k7 k20) (fun _ _ _ _ _ _ => none) N od os s3 (nI r) (nI l) (0 : Int32) = k7 od os vo' (nI r) (nI (l + 1)) := by
      rw [← hz0]
      refine p_run (σ := Nat → Int32)
        (W := fun m c s => wk_loop (fun k20 : (Nat → Int32) → (Nat → Int32) → (Nat → Int32) → Int32 → Int32 → Int32 → Option ((Nat → Int32) × (Nat → Int32) × (Nat → Int32)) => B_X0_learn_20 N (nI n) pc st k7 k20) (fun _ _ _ _ _ _ => none) m od os s (nI r) (nI l) (nI c))
        (fun i s => (∀ c, c < 5 → ∀ l', 1 ≤ l' → l' < l → s (5 * c + (l' - 1)) = nI (p_pk (fun h => p_cv ct vt n c l' h))) ∧ ∀ c, c < i → s (5 * c + (l - 1)) = nI (p_pk (fun h => p_cv ct vt n c l h)))
        (fun A => ∃ vo' : Nat → Int32, (∀ c, c < 5 → ∀ l', 1 ≤ l' → l' < l + 1 → vo' (5 * c + (l' - 1)) = nI (p_pk (fun h => p_cv ct vt n c l' h))) ∧ A = k7 od os vo' (nI r) (nI (l + 1))) e5 ?_ ?_ e5 N z s3 (by omega) (by omega) ⟨hI, fun c hc => absurd hc (by omega)⟩
      · intro m i s hi hI2
        refine ⟨upd s (5 * i + (l - 1)) (nI (p_pk (fun h => p_cv ct vt n i l h))), ?_, fun c hc l' h1 h2 => ?_, fun c hc => ?_⟩
        · show B_X0_learn_20 N (nI n) pc st k7 _ od os s (nI r) (nI l) (nI i) = _
          rw [B_X0_learn_20, if_neg (show ¬ (5 : Int32) ≤ nI i from nI_ge (b := 5) (by omega) (by omega)), p_place5 N i hl1, p_b1, hsum i (by omega), p_b1, p_set (by omega) (by omega), p_b1, p_nm, nI_1]
        · rw [pk_un (by omega)]; exact hI2.1 c hc l' h1 h2
        · by_cases d : c = i
          · subst d; exact pk_us
          · rw [pk_un (by omega)]; exact hI2.2 c (by omega)
      · intro m s hI2
        refine ⟨s, fun c hc l' h1 h2 => ?_, ?_⟩
        · by_cases d : l' = l
          · subst d; exact hI2.2 c (by omega)
          · exact hI2.1 c hc l' h1 (by omega)
        · show B_X0_learn_20 N (nI n) pc st k7 _ od os s (nI r) (nI l) (nI e5) = _
          rw [B_X0_learn_20, if_pos (show (5 : Int32) ≤ nI e5 by rw [he5]; decide), p_nm, nI_1]
    obtain ⟨vo', hvo, e2⟩ := h20
    refine ⟨(od, os, vo'), ?_, by omega, hvo⟩
    show B_X0_learn_7 N (nI n) pc st (wk_loop (fun k7 : (Nat → Int32) → (Nat → Int32) → (Nat → Int32) → Int32 → Int32 → Option ((Nat → Int32) × (Nat → Int32) × (Nat → Int32)) => B_X0_learn_7 N (nI n) pc st k7) (fun _ _ _ _ _ => none) m) s1 s2 s3 (nI r) (nI l) = _
    rw [← hk7, B_X0_learn_7, if_neg (show ¬ (5 : Int32) < nI l from nI_nlt (a := 5) (by omega) (by omega)), e1, p_b2, e2]
  · intro m s hI
    obtain ⟨s1, s2, s3⟩ := s
    refine ⟨s1, s2, s3, ?_, fun c hc l h1 h2 => hI.2 c hc l h1 (by omega)⟩
    show B_X0_learn_7 N (nI n) pc st _ s1 s2 s3 (nI r) (nI e) = _
    rw [B_X0_learn_7, if_pos (show (5 : Int32) < nI e by rw [he]; decide)]
/-- the class's winner by a rule everywhere -/
theorem p_winBy (N : Nat) (hN : 121 ≤ N) {ct : Nat → Int32} {vt : Nat → Nat → Int32} {n : Nat} {vo : Nat → Int32} (hV : RVotes ct vt n vo) {l : Nat} (h1 : 1 ≤ l) (h5 : l ≤ 5) : f_X0_winnerBy N vo (nI l) = f_X10_winnerOf N (nI (p_pk (fun h => p_tp ct vt (fun _ => l) n h 5))) := by
  unfold f_X0_winnerBy
  obtain ⟨z, hz⟩ : ∃ z : Nat, z = 0 := ⟨_, rfl⟩
  obtain ⟨e, he⟩ : ∃ e : Nat, e = 5 := ⟨_, rfl⟩
  have ez : (0 : Int32) = nI (p_pk (fun h => p_tp ct vt (fun _ => l) n h z)) := by rw [hz]; rfl
  rw [show wk_loop (fun k4 : Int32 → Int32 → Int32 → Option Int32 => B_X0_winnerBy_4 N vo k4) (fun _ _ _ => none) N (nI l) (0 : Int32) (0 : Int32) = wk_loop (fun k4 : Int32 → Int32 → Int32 → Option Int32 => B_X0_winnerBy_4 N vo k4) (fun _ _ _ => none) N (nI l) (nI (p_pk (fun h => p_tp ct vt (fun _ => l) n h z))) (nI z) by rw [← ez, hz]; rfl]
  refine p_run (σ := Unit)
    (W := fun m i _ => wk_loop (fun k4 : Int32 → Int32 → Int32 → Option Int32 => B_X0_winnerBy_4 N vo k4) (fun _ _ _ => none) m (nI l) (nI (p_pk (fun h => p_tp ct vt (fun _ => l) n h i))) (nI i))
    (fun _ _ => True) (fun A => A = f_X10_winnerOf N (nI (p_pk (fun h => p_tp ct vt (fun _ => l) n h 5)))) e ?_ ?_ e N z () (by omega) (by omega) trivial
  · intro m i _ hi _
    refine ⟨(), ?_, trivial⟩
    show B_X0_winnerBy_4 N vo _ (nI l) (nI (p_pk (fun h => p_tp ct vt (fun _ => l) n h i))) (nI i) = _
    rw [B_X0_winnerBy_4, if_neg (show ¬ (5 : Int32) ≤ nI i from nI_ge (b := 5) (by omega) (by omega)), p_place5 N i h1, p_b1, p_get (by omega) (by omega), p_b1, hV i (by omega) l h1 h5, nI_add, p_pk_add, p_nm, p_nm, nI_1]
    rfl
  · intro m _ _
    show B_X0_winnerBy_4 N vo _ (nI l) (nI (p_pk (fun h => p_tp ct vt (fun _ => l) n h e))) (nI e) = _
    rw [B_X0_winnerBy_4, if_pos (show (5 : Int32) ≤ nI e by rw [he]; decide), he]
    cases f_X10_winnerOf N (nI (p_pk (fun h => p_tp ct vt (fun _ => l) n h 5))) <;> rfl
/-- a rule is in a set -/
def p_inR (s l : Nat) : Prop := 1 ≤ l ∧ l ≤ 5 ∧ s.testBit (l - 1) = true
/-- the class: is a rule counted already -/
theorem p_already (N : Nat) (hN : 121 ≤ N) {ct : Nat → Int32} {vt : Nat → Nat → Int32} {n : Nat} (hn : n ≤ 40) {vo : Nat → Int32} (hV : RVotes ct vt n vo) {c l s : Nat} (hc : c < 5) (h1 : 1 ≤ l) (h5 : l ≤ 5) (hs : s < 32) :
    ∃ b : Bool, f_X0_isCountedAlready N vo (nI c) (nI l) (nI s) = some b ∧ (b = true ↔ ∃ o, p_inR s o ∧ ∀ h, h < 4 → p_cv ct vt n c l h = p_cv ct vt n c o h) := by
  unfold f_X0_isCountedAlready
  obtain ⟨z, hz⟩ : ∃ z : Nat, z = 1 := ⟨_, rfl⟩
  obtain ⟨e, he⟩ : ∃ e : Nat, e = 6 := ⟨_, rfl⟩
  rw [show (1 : Int32) = nI z by rw [hz]; rfl]
  refine p_runx (σ := Unit)
    (W := fun m i _ => wk_loop (fun k3 : Int32 → Int32 → Int32 → Int32 → Option Bool => B_X0_isCountedAlready_3 N vo k3) (fun _ _ _ _ => none) m (nI c) (nI l) (nI s) (nI i))
    (fun i _ => 1 ≤ i ∧ ∀ o, p_inR s o → o < i → ¬ ∀ h, h < 4 → p_cv ct vt n c l h = p_cv ct vt n c o h)
    (fun A => ∃ b : Bool, A = some b ∧ (b = true ↔ ∃ o, p_inR s o ∧ ∀ h, h < 4 → p_cv ct vt n c l h = p_cv ct vt n c o h)) e ?_ ?_ (e - z) N z () (by omega) (by omega) ⟨by omega, fun o ho h2 => by have := ho.1; omega⟩
  · intro m i _ hi hI
    obtain ⟨i1, i2⟩ := hI
    have g : ¬ (5 : Int32) < nI i := nI_nlt (a := 5) (by omega) (by omega)
    have el := p_pk_le (f := fun h => p_cv ct vt n c l h) (fun h => p_cv_le ct vt hn c l h)
    have ei := p_pk_le (f := fun h => p_cv ct vt n c i h) (fun h => p_cv_le ct vt hn c i h)
    have e3 : ∀ k3 : Int32 → Int32 → Int32 → Int32 → Option Bool, B_X0_isCountedAlready_3 N vo k3 (nI c) (nI l) (nI s) (nI i) = if p_pk (fun h => p_cv ct vt n c l h) = p_pk (fun h => p_cv ct vt n c i h) then B_X0_isCountedAlready_42 N vo k3 (nI c) (nI l) (nI s) (nI i) 1 else B_X0_isCountedAlready_42 N vo k3 (nI c) (nI l) (nI s) (nI i) 0 := by
      intro k3
      rw [B_X0_isCountedAlready_3, if_neg g, p_place5 N c h1, p_b1, p_get (by omega) (by omega), p_b1, p_place5 N c i1, p_b1, p_get (by omega) (by omega), p_b1, hV c hc l h1 h5, hV c hc i i1 (by omega)]
      by_cases a : p_pk (fun h => p_cv ct vt n c l h) = p_pk (fun h => p_cv ct vt n c i h)
      · rw [if_pos (by rw [a]), if_pos a]
      · rw [if_neg (fun q => a ((nI_eq (by omega) (by omega)).mp q)), if_neg a]
    have esub : nI i - (1 : Int32) = nI (i - 1) := by rw [show (1 : Int32) = nI 1 from rfl, pk_sub i1]
    by_cases a : p_pk (fun h => p_cv ct vt n c l h) = p_pk (fun h => p_cv ct vt n c i h)
    · have a' := p_pk_inj (fun h => p_cv_le ct vt hn c l h) (fun h => p_cv_le ct vt hn c i h) a
      cases hb : s.testBit (i - 1) with
      | true =>
        left
        refine ⟨true, ?_, fun _ => ⟨i, ⟨i1, by omega, hb⟩, a'⟩, fun _ => rfl⟩
        show B_X0_isCountedAlready_3 N vo _ (nI c) (nI l) (nI s) (nI i) = _
        rw [e3, if_pos a, B_X0_isCountedAlready_42, if_neg (by decide), esub, p_has10 N (by omega) (by omega), p_b1, hb, if_neg (show ¬ wk_bI true = 0 by decide)]
      | false =>
        right
        refine ⟨(), ?_, by omega, fun o ho h2 => ?_⟩
        · show B_X0_isCountedAlready_3 N vo _ (nI c) (nI l) (nI s) (nI i) = _
          rw [e3, if_pos a, B_X0_isCountedAlready_42, if_neg (by decide), esub, p_has10 N (by omega) (by omega), p_b1, hb, if_pos (show wk_bI false = 0 from rfl), p_nm, nI_1]
        · by_cases d : o = i
          · subst d; have := ho.2.2; rw [hb] at this; cases this
          · exact i2 o ho (by omega)
    · right
      refine ⟨(), ?_, by omega, fun o ho h2 => ?_⟩
      · show B_X0_isCountedAlready_3 N vo _ (nI c) (nI l) (nI s) (nI i) = _
        rw [e3, if_neg a, B_X0_isCountedAlready_42, if_pos rfl, p_nm, nI_1]
      · by_cases d : o = i
        · subst d
          intro hq
          apply a
          unfold p_pk
          dsimp only
          rw [hq 0 (by omega), hq 1 (by omega), hq 2 (by omega), hq 3 (by omega)]
        · exact i2 o ho (by omega)
  · intro m _ hI
    refine ⟨false, ?_, fun h => (by cases h), fun ⟨o, ho, hq⟩ => absurd hq (hI.2 o ho (by have := ho.2.1; omega))⟩
    show B_X0_isCountedAlready_3 N vo _ (nI c) (nI l) (nI s) (nI e) = _
    rw [B_X0_isCountedAlready_3, if_pos (show (5 : Int32) < nI e by rw [he]; decide)]
theorem p_or5 : ∀ i, i < 5 → ∀ s, s < 32 → s.testBit i = false → nI s ||| ((1 : Int32) <<< (nI i &&& 31)) = nI (s + 2 ^ i) ∧ s + 2 ^ i < 32 ∧ ∀ j, j < 5 → (s + 2 ^ i).testBit j = (s.testBit j || decide (j = i)) := by decide +kernel
theorem p_or5s : ∀ i, i < 5 → ∀ s, s < 32 → s.testBit i = true → nI s ||| ((1 : Int32) <<< (nI i &&& 31)) = nI s := by decide +kernel
/-- what choices hold: rules of the set or the base, and for each rule of the set one that counts alike -/
def RChoice (ct : Nat → Int32) (vt : Nat → Nat → Int32) (n base rules c s : Nat) : Prop := s < 32 ∧ (∀ o, p_inR s o → o = base ∨ p_inR rules o) ∧ (base ≠ 0 → p_inR s base) ∧ ∀ o, p_inR rules o → ∃ o', p_inR s o' ∧ ∀ h, h < 4 → p_cv ct vt n c o h = p_cv ct vt n c o' h
theorem p_unlike5 (N : Nat) (hN : 121 ≤ N) {ct : Nat → Int32} {vt : Nat → Nat → Int32} {n : Nat} (hn : n ≤ 40) {vo : Nat → Int32} (hV : RVotes ct vt n vo) {base rules c : Nat} (hb : base ≤ 5) (hr : rules < 32) (hc : c < 5) : ∃ s, f_X0_unlikeChoices N (nI base) vo (nI c) (nI rules) = some (nI s) ∧ RChoice ct vt n base rules c s := by
  obtain ⟨z, hz⟩ : ∃ z : Nat, z = 1 := ⟨_, rfl⟩
  obtain ⟨e, he⟩ : ∃ e : Nat, e = 6 := ⟨_, rfl⟩
  have main : ∀ s0, s0 < 32 → (∀ o, p_inR s0 o → o = base) → (base ≠ 0 → p_inR s0 base) → ∃ s, wk_loop (fun k23 : Int32 → Int32 → Int32 → Int32 → Option Int32 => B_X0_unlikeChoices_23 N (nI base) vo k23) (fun _ _ _ _ => none) N (nI c) (nI rules) (nI s0) (1 : Int32) = some (nI s) ∧ RChoice ct vt n base rules c s := by
    intro s0 hs0 hs1 hs2
    rw [show (1 : Int32) = nI z by rw [hz]; rfl]
    refine p_run (σ := Nat)
      (W := fun m i s => wk_loop (fun k23 : Int32 → Int32 → Int32 → Int32 → Option Int32 => B_X0_unlikeChoices_23 N (nI base) vo k23) (fun _ _ _ _ => none) m (nI c) (nI rules) (nI s) (nI i))
      (fun i s => 1 ≤ i ∧ s < 32 ∧ (∀ o, p_inR s o → o = base ∨ p_inR rules o) ∧ (base ≠ 0 → p_inR s base) ∧ ∀ o, p_inR rules o → o < i → ∃ o', p_inR s o' ∧ ∀ h, h < 4 → p_cv ct vt n c o h = p_cv ct vt n c o' h)
      (fun A => ∃ s, A = some (nI s) ∧ RChoice ct vt n base rules c s) e ?_ ?_ (e - z) N z s0 (by omega) (by omega) ⟨by omega, hs0, fun o ho => Or.inl (hs1 o ho), hs2, fun o ho h2 => by have := ho.1; omega⟩
    · intro m i s hi hI
      obtain ⟨i1, i2, i3, i4, i5⟩ := hI
      have g : ¬ (5 : Int32) < nI i := nI_nlt (a := 5) (by omega) (by omega)
      have esub : nI i - (1 : Int32) = nI (i - 1) := by rw [show (1 : Int32) = nI 1 from rfl, pk_sub i1]
      cases hb : rules.testBit (i - 1) with
      | false =>
        refine ⟨s, ?_, by omega, i2, i3, i4, fun o ho h2 => ?_⟩
        · show B_X0_unlikeChoices_23 N (nI base) vo _ (nI c) (nI rules) (nI s) (nI i) = _
          rw [B_X0_unlikeChoices_23, if_neg g, esub, p_has10 N (by omega) (by omega), p_b1, hb, if_pos (show wk_bI false = 0 from rfl), p_nm, nI_1]
        · by_cases d : o = i
          · subst d; have := ho.2.2; rw [hb] at this; cases this
          · exact i5 o ho (by omega)
      | true =>
        obtain ⟨b, e1, hbb⟩ := p_already N hN hn hV hc i1 (show i ≤ 5 by omega) i2
        cases b with
        | true =>
          refine ⟨s, ?_, by omega, i2, i3, i4, fun o ho h2 => ?_⟩
          · show B_X0_unlikeChoices_23 N (nI base) vo _ (nI c) (nI rules) (nI s) (nI i) = _
            rw [B_X0_unlikeChoices_23, if_neg g, esub, p_has10 N (by omega) (by omega), p_b1, hb, if_neg (show ¬ wk_bI true = 0 by decide), e1, p_b1, if_neg (show ¬ wk_bI true = 0 by decide), p_nm, nI_1]
          · by_cases d : o = i
            · subst d; exact hbb.mp rfl
            · exact i5 o ho (by omega)
        | false =>
          have hnb : s.testBit (i - 1) = false := by
            cases hq : s.testBit (i - 1)
            · rfl
            · exact absurd (hbb.mpr ⟨i, ⟨i1, by omega, hq⟩, fun _ _ => rfl⟩) (by decide)
          obtain ⟨o1, o2, o3⟩ := p_or5 (i - 1) (by omega) s i2 hnb
          have hmem : ∀ o, p_inR s o → p_inR (s + 2 ^ (i - 1)) o := fun o ho => ⟨ho.1, ho.2.1, by rw [o3 (o - 1) (by have := ho.1; have := ho.2.1; omega), ho.2.2]; rfl⟩
          refine ⟨s + 2 ^ (i - 1), ?_, by omega, o2, fun o ho => ?_, fun h => hmem _ (i4 h), fun o ho h2 => ?_⟩
          · show B_X0_unlikeChoices_23 N (nI base) vo _ (nI c) (nI rules) (nI s) (nI i) = _
            rw [B_X0_unlikeChoices_23, if_neg g, esub, p_has10 N (by omega) (by omega), p_b1, hb, if_neg (show ¬ wk_bI true = 0 by decide), e1, p_b1, if_pos (show wk_bI false = 0 from rfl), o1, p_nm, p_nm, nI_1]
          · obtain ⟨q1, q2, q3⟩ := ho
            rw [o3 (o - 1) (by omega)] at q3
            by_cases d : o = i
            · subst d; exact Or.inr ⟨q1, q2, hb⟩
            · rw [decide_eq_false (by omega), Bool.or_false] at q3
              exact i3 o ⟨q1, q2, q3⟩
          · by_cases d : o = i
            · subst d
              exact ⟨o, ⟨i1, ho.2.1, by rw [o3 (o - 1) (by have := ho.2.1; omega), decide_eq_true rfl, Bool.or_true]⟩, fun _ _ => rfl⟩
            · obtain ⟨o', q1, q2⟩ := i5 o ho (by omega)
              exact ⟨o', hmem o' q1, q2⟩
    · intro m s hI
      obtain ⟨i1, i2, i3, i4, i5⟩ := hI
      refine ⟨s, ?_, i2, i3, i4, fun o ho => i5 o ho (by have := ho.2.1; omega)⟩
      show B_X0_unlikeChoices_23 N (nI base) vo _ (nI c) (nI rules) (nI s) (nI e) = _
      rw [B_X0_unlikeChoices_23, if_pos (show (5 : Int32) < nI e by rw [he]; decide)]
  unfold f_X0_unlikeChoices
  by_cases a : base = 0
  · rw [if_pos (show nI base = 0 by rw [a]; rfl)]
    exact main 0 (by omega) (fun o ho => by have := ho.2.2; rw [Nat.zero_testBit] at this; cases this) (fun h => absurd a h)
  · have e1 : (1 : Int32) <<< ((nI base - (1 : Int32)) &&& 31) = nI (2 ^ (base - 1)) := by
      rw [show nI base - (1 : Int32) = nI (base - 1) by rw [show (1 : Int32) = nI 1 from rfl, pk_sub (by omega)]]
      exact p_pow1 _ (by omega)
    have h32 : 2 ^ (base - 1) < 32 := by
      have : 2 ^ (base - 1) ≤ 2 ^ 4 := Nat.pow_le_pow_right (by omega) (by omega)
      omega
    rw [if_neg (nI_ne0 (by omega) (by omega)), e1, p_nm]
    refine main (2 ^ (base - 1)) h32 (fun o ho => ?_) (fun _ => ⟨by omega, hb, Nat.testBit_two_pow_self⟩)
    have := ho.2.2
    rw [Nat.testBit_two_pow] at this
    have h2 := of_decide_eq_true this
    have := ho.1
    omega
