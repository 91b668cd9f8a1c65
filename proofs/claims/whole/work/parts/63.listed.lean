/-! PURE: listed -/
theorem p_b5 {a1 a2 a3 a4 a5 δ : Type} (a : a1) (b : a2) (c : a3) (d : a4) (e : a5) (k : a1 → a2 → a3 → a4 → a5 → Option δ) : wk_b5 (some (a, b, c, d, e)) k = k a b c d e := rfl
theorem p_b7 {a1 a2 a3 a4 a5 a6 a7 δ : Type} (a : a1) (b : a2) (c : a3) (d : a4) (e : a5) (f : a6) (g : a7) (k : a1 → a2 → a3 → a4 → a5 → a6 → a7 → Option δ) : wk_b7 (some (a, b, c, d, e, f, g)) k = k a b c d e f g := rfl
theorem q_listed (N : Nat) (hN : 41 ≤ N) {th : Int32} {al : Nat → Int32} {lim ls : Int32} {lc ld ll sg : Nat → Int32} {vlim vs : Int32} {vc vd vl : Nat → Int32} {ul uv un : Int32} {uld : Nat → Int32} {uln : Nat → Int64} {uvc uvd : Nat → Int32} {uvn : Nat → Int64} {na nb : Nat} (hR : RRoll th al lim ls ld ll sg vlim vs vc vd vl ul uv un uld uln uvc uvd uvn na nb) (x : Int64) (y : Int32) :
    ∃ r al' ls' lc' ld' ll' sg' ul' uld' uln' nb', f_X10_listed N 8 8 64 12 96 lim vs vd vl al ls lc ld ll sg x y = some (r, al', ls', lc', ld', ll', sg') ∧ f_X11_listed N ul uld uln x y = some (r, ul', uld', uln') ∧ RRoll th al' lim ls' ld' ll' sg' vlim vs vc vd vl ul' uv un uld' uln' uvc uvd uvn na nb' := by
  have hR0 := hR
  obtain ⟨hb, ha, rfl, rfl, rfl, rfl, rfl, rfl, rfl, hth, hL, hV, hp⟩ := hR
  have same : ∀ r : Int32, ∃ r' al' ls' lc' ld' ll' sg' ul' uld' uln' nb', some (r, al, nI nb, lc, ld, ll, sg) = some (r', al', ls', lc', ld', ll', sg') ∧ some (r, nI nb, uld, uln) = some (r', ul', uld', uln') ∧ RRoll th al' 8 ls' ld' ll' sg' 12 (nI na) vc vd vl ul' (nI na) th uld' uln' uvc uvd uvn na nb' := fun r => ⟨_, _, _, _, _, _, _, _, _, _, nb, rfl, rfl, hR0⟩
  obtain ⟨q, e1, e2, hq⟩ := q_name N hN x
  unfold f_X10_listed f_X11_listed
  rw [e1, e2, p_b1, p_b1]
  simp only [p_isDay, p_in, p_i2l, p_b1, p_bI, decide_eq_false_iff_not, show (-1 : Int64).toInt = -1 from rfl, show (36500 : Int64).toInt = 36500 from rfl]
  by_cases c : q = false
  · rw [if_pos c, if_pos c]; exact same _
  · rw [if_neg c, if_neg c]
    by_cases d : -1 ≤ y.toInt ∧ y.toInt ≤ 36500
    · rw [if_neg (not_not_intro d), if_neg (not_not_intro d)]
      obtain ⟨n, hn⟩ := hq (by cases q <;> simp_all)
      unfold f_X5_addListed
      by_cases full : nb = 8
      · subst full
        rw [if_pos (show nI 8 = (8 : Int32) from rfl)]
        unfold f_X2_add
        rw [if_neg (show ¬ nI 8 < (8 : Int32) from by decide)]
        have key : wk_loop (fun k15 : (Nat → Int32) → Int32 → (Nat → Int32) → (Nat → Int32) → (Nat → Int32) → (Nat → Int32) → Int32 → Int32 → Option (Int32 × (Nat → Int32) × Int32 × (Nat → Int32) × (Nat → Int32) × (Nat → Int32) × (Nat → Int32)) => B_X5_addListed_15 N 8 8 64 12 96 8 (nI na) vd vl k15) (fun _ _ _ _ _ _ _ _ => none) N al (nI 8) lc ld ll sg (-3 : Int32) (0 : Int32) = some ((-3 : Int32), al, nI 8, lc, ld, ll, sg) := by
          rw [show (0 : Int32) = nI 0 from rfl]
          refine p_run (σ := Unit) (W := fun m i _ => wk_loop (fun k15 : (Nat → Int32) → Int32 → (Nat → Int32) → (Nat → Int32) → (Nat → Int32) → (Nat → Int32) → Int32 → Int32 → Option (Int32 × (Nat → Int32) × Int32 × (Nat → Int32) × (Nat → Int32) × (Nat → Int32) × (Nat → Int32)) => B_X5_addListed_15 N 8 8 64 12 96 8 (nI na) vd vl k15) (fun _ _ _ _ _ _ _ _ => none) m al (nI 8) lc ld ll sg (-3 : Int32) (nI i)) (fun _ _ => True) (fun A => A = some ((-3 : Int32), al, nI 8, lc, ld, ll, sg)) na ?_ ?_ na N 0 () (by omega) (by omega) trivial
          · intro m i _ hi _
            refine ⟨(), ?_, trivial⟩
            show B_X5_addListed_15 N 8 8 64 12 96 8 (nI na) vd vl _ al (nI 8) lc ld ll sg (-3 : Int32) (nI i) = _
            have cmp : f_X5_compare N 8 64 12 96 (nI 8) ld ll (nI na) vd vl al sg (nI i) (-3 : Int32) = some (al, sg) := by
              unfold f_X5_compare f_X5_hasVoter f_X5_hasListed
              rw [p_has2 N (by omega), p_b1, p_b1, decide_eq_true (by rw [nI_toInt (by omega)]; omega), if_neg (by decide), p_has2 N (by omega), p_b1, p_b1, decide_eq_false (by rw [show (-3 : Int32).toInt = -3 from rfl]; omega), if_pos (show wk_bI false = 0 from rfl)]
            rw [B_X5_addListed_15, show f_X2_size N (nI na) = some (nI na) from rfl, p_b1, if_neg (nI_ge hi (by omega)), cmp, p_b2, p_nm, nI_1]
          · intro m _ _
            show B_X5_addListed_15 N 8 8 64 12 96 8 (nI na) vd vl _ al (nI 8) lc ld ll sg (-3 : Int32) (nI na) = _
            rw [B_X5_addListed_15, show f_X2_size N (nI na) = some (nI na) from rfl, p_b1, if_pos (nI_le (Nat.le_refl na) (by omega))]
        rw [p_b5, key, p_b7]
        exact same _
      · rw [if_neg (show ¬ nI nb = (8 : Int32) from fun w => full ((p_nIe (by omega) (by decide : 8 < 2 ^ 31)).mp w))]
        obtain ⟨l', e3, hl1, hl2⟩ := q_addName N hN (nc := 8) (nd := 8) (nl := 64) (k := nb) (L := 8) (sz := nI nb) (lim := 8) (c := lc) (d := ld) (l := ll) rfl rfl (by omega) (by decide) (by decide) (by decide) (by decide) (by decide) (by decide) (by decide) x y 5
        rw [e3, p_ck (by omega) (by omega), p_ck (by omega) (by omega), nI_clamp (by omega), nI_1, show nI (nb + 1) - (1 : Int32) = nI nb from by rw [show (1 : Int32) = nI 1 from rfl, pk_sub (by omega), Nat.add_sub_cancel]]
        have key : ∃ al' sg', wk_loop (fun k15 : (Nat → Int32) → Int32 → (Nat → Int32) → (Nat → Int32) → (Nat → Int32) → (Nat → Int32) → Int32 → Int32 → Option (Int32 × (Nat → Int32) × Int32 × (Nat → Int32) × (Nat → Int32) × (Nat → Int32) × (Nat → Int32)) => B_X5_addListed_15 N 8 8 64 12 96 8 (nI na) vd vl k15) (fun _ _ _ _ _ _ _ _ => none) N al (nI (nb + 1)) (upd lc nb 5) (upd ld nb y) l' sg (nI nb) (0 : Int32) = some (nI nb, al', nI (nb + 1), upd lc nb 5, upd ld nb y, l', sg') ∧ (∀ a, a < na → ∃ m, p_name (uvn a) m ∧ al' (8 * a + nb) = nI (p_alk (uvn a) x m n) ∧ sg' (8 * a + nb) = nI (p_str2 (p_alk (uvn a) x m n) (vd a) y)) ∧ ∀ a b, b < nb → al' (8 * a + b) = al (8 * a + b) ∧ sg' (8 * a + b) = sg (8 * a + b) := by
          rw [show (0 : Int32) = nI 0 from rfl]
          refine p_run (σ := (Nat → Int32) × (Nat → Int32)) (W := fun m i s => wk_loop (fun k15 : (Nat → Int32) → Int32 → (Nat → Int32) → (Nat → Int32) → (Nat → Int32) → (Nat → Int32) → Int32 → Int32 → Option (Int32 × (Nat → Int32) × Int32 × (Nat → Int32) × (Nat → Int32) × (Nat → Int32) × (Nat → Int32)) => B_X5_addListed_15 N 8 8 64 12 96 8 (nI na) vd vl k15) (fun _ _ _ _ _ _ _ _ => none) m s.1 (nI (nb + 1)) (upd lc nb 5) (upd ld nb y) l' s.2 (nI nb) (nI i)) (fun i s => (∀ a, a < i → ∃ m, p_name (uvn a) m ∧ s.1 (8 * a + nb) = nI (p_alk (uvn a) x m n) ∧ s.2 (8 * a + nb) = nI (p_str2 (p_alk (uvn a) x m n) (vd a) y)) ∧ ∀ a b, b < nb → s.1 (8 * a + b) = al (8 * a + b) ∧ s.2 (8 * a + b) = sg (8 * a + b)) (fun A => ∃ al' sg', A = some (nI nb, al', nI (nb + 1), upd lc nb 5, upd ld nb y, l', sg') ∧ (∀ a, a < na → ∃ m, p_name (uvn a) m ∧ al' (8 * a + nb) = nI (p_alk (uvn a) x m n) ∧ sg' (8 * a + nb) = nI (p_str2 (p_alk (uvn a) x m n) (vd a) y)) ∧ ∀ a b, b < nb → al' (8 * a + b) = al (8 * a + b) ∧ sg' (8 * a + b) = sg (8 * a + b)) na ?_ ?_ na N 0 (al, sg) (by omega) (by omega) ⟨fun a ha => by omega, fun a b hb => ⟨rfl, rfl⟩⟩
          · rintro m i ⟨s1, s2⟩ hi ⟨h1, h2⟩
            dsimp only at h1 h2
            obtain ⟨-, -, -, v4, mm, v5⟩ := hV i hi
            have cmp := q_compare N hN (Ld := 8) (Ll := 64) (Vd := 12) (Vl := 96) (ls := nI (nb + 1)) (vs := nI na) (ld := upd ld nb y) (ll := l') (vd := vd) (vl := vl) (al := s1) (sg := s2) (a := i) (b := nb) (na := na) (nb := nb + 1) rfl rfl hi (by omega) (by omega) (by omega) (by omega) (by decide) (by omega) (by decide) (by omega) (by decide) (by omega) (by decide) v5 hn v4 hl1
            rw [pk_us] at cmp
            refine ⟨(upd s1 (8 * i + nb) (nI (p_alk (uvn i) x mm n)), upd s2 (8 * i + nb) (nI (p_str2 (p_alk (uvn i) x mm n) (vd i) y))), ?_, ?_, ?_⟩
            · show B_X5_addListed_15 N 8 8 64 12 96 8 (nI na) vd vl _ s1 (nI (nb + 1)) (upd lc nb 5) (upd ld nb y) l' s2 (nI nb) (nI i) = _
              rw [B_X5_addListed_15, show f_X2_size N (nI na) = some (nI na) from rfl, p_b1, if_neg (nI_ge hi (by omega)), cmp, p_b2, p_nm, nI_1]
            · intro a ha2
              dsimp only
              by_cases w : a = i
              · subst w
                exact ⟨mm, v5, by rw [pk_us], by rw [pk_us]⟩
              · rw [pk_un (by omega), pk_un (by omega)]
                exact h1 a (by omega)
            · intro a b hb2
              dsimp only
              rw [pk_un (by omega), pk_un (by omega)]
              exact h2 a b hb2
          · rintro m ⟨s1, s2⟩ ⟨h1, h2⟩
            refine ⟨s1, s2, ?_, h1, h2⟩
            show B_X5_addListed_15 N 8 8 64 12 96 8 (nI na) vd vl _ s1 (nI (nb + 1)) (upd lc nb 5) (upd ld nb y) l' s2 (nI nb) (nI na) = _
            rw [B_X5_addListed_15, show f_X2_size N (nI na) = some (nI na) from rfl, p_b1, if_pos (nI_le (Nat.le_refl na) (by omega))]
        obtain ⟨al', sg', e4, h1, h2⟩ := key
        rw [p_b5, e4, p_b7]
        refine ⟨nI nb, al', nI (nb + 1), upd lc nb 5, upd ld nb y, l', sg', nI (nb + 1), upd uld nb y, vp_updL uln nb x, nb + 1, rfl, rfl, ⟨by omega, ha, rfl, rfl, rfl, rfl, rfl, rfl, rfl, hth, ?_, hV, ?_⟩⟩
        · intro b hb2
          by_cases w : b = nb
          · subst w
            rw [pk_us, pk_us, pk_uLs]
            exact ⟨rfl, hl1, n, hn⟩
          · obtain ⟨g1, g2, g3⟩ := hL b (by omega)
            rw [pk_un w, pk_un w, pk_uLn w]
            exact ⟨g1, fun j hj => by rw [hl2 _ (by omega)]; exact g2 j hj, g3⟩
        · intro a ha2 b hb2
          by_cases w : b = nb
          · subst w
            obtain ⟨m, g1, g2, g3⟩ := h1 a ha2
            rw [pk_uLs, pk_us]
            exact ⟨m, n, g1, hn, g2, g3⟩
          · obtain ⟨m, n', g1, g2, g3, g4⟩ := hp a ha2 b (by omega)
            obtain ⟨k1, k2⟩ := h2 a b (by omega)
            rw [pk_uLn w, pk_un w, k1, k2]
            exact ⟨m, n', g1, g2, g3, g4⟩
    · rw [if_pos d, if_pos d]; exact same _
