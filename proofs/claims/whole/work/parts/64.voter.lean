/-! PURE: voter -/
theorem q_voter (N : Nat) (hN : 41 ≤ N) {th : Int32} {al : Nat → Int32} {lim ls : Int32} {ld ll sg : Nat → Int32} {vlim vs : Int32} {vc vd vl : Nat → Int32} {ul uv un : Int32} {uld : Nat → Int32} {uln : Nat → Int64} {uvc uvd : Nat → Int32} {uvn : Nat → Int64} {na nb : Nat} (hR : RRoll th al lim ls ld ll sg vlim vs vc vd vl ul uv un uld uln uvc uvd uvn na nb) (x : Int64) (y z : Int32) :
    ∃ r al' sg' vs' vc' vd' vl' uv' uvc' uvd' uvn' na', f_X10_voter N 8 64 12 12 96 ls ld ll vlim al sg vs vc vd vl x y z = some (r, al', sg', vs', vc', vd', vl') ∧ f_X11_voter N uv uvc uvd uvn x y z = some (r, uv', uvc', uvd', uvn') ∧ RRoll th al' lim ls ld ll sg' vlim vs' vc' vd' vl' ul uv' un uld uln uvc' uvd' uvn' na' nb := by
  have hR0 := hR
  obtain ⟨hb, ha, rfl, rfl, rfl, rfl, rfl, rfl, rfl, hth, hL, hV, hp⟩ := hR
  have same : ∀ r : Int32, ∃ r' al' sg' vs' vc' vd' vl' uv' uvc' uvd' uvn' na', some (r, al, sg, nI na, vc, vd, vl) = some (r', al', sg', vs', vc', vd', vl') ∧ some (r, nI na, uvc, uvd, uvn) = some (r', uv', uvc', uvd', uvn') ∧ RRoll th al' 8 (nI nb) ld ll sg' 12 vs' vc' vd' vl' (nI nb) uv' th uld uln uvc' uvd' uvn' na' nb := fun r => ⟨_, _, _, _, _, _, _, _, _, _, _, na, rfl, rfl, hR0⟩
  obtain ⟨q, e1, e2, hq⟩ := q_name N hN x
  unfold f_X10_voter f_X11_voter
  rw [e1, e2, p_b1, p_b1]
  simp only [p_isDay, p_isCounty, p_in, p_i2l, p_b1, p_bI, decide_eq_false_iff_not, show (-1 : Int64).toInt = -1 from rfl, show (36500 : Int64).toInt = 36500 from rfl, show (0 : Int64).toInt = 0 from rfl, show (4 : Int64).toInt = 4 from rfl]
  by_cases c : q = false
  · rw [if_pos c, if_pos c]; exact same _
  · rw [if_neg c, if_neg c]
    by_cases d : -1 ≤ y.toInt ∧ y.toInt ≤ 36500
    · rw [if_neg (not_not_intro d), if_neg (not_not_intro d)]
      by_cases dz : 0 ≤ z.toInt ∧ z.toInt ≤ 4
      · rw [if_neg (not_not_intro dz), if_neg (not_not_intro dz)]
        obtain ⟨cz, hcz, rfl⟩ := p_of (n := 4) dz.1 dz.2
        obtain ⟨m, hm⟩ := hq (by cases q <;> simp_all)
        unfold f_X5_addVoter
        by_cases full : na = 12
        · subst full
          rw [if_pos (show nI 12 = (12 : Int32) from rfl)]
          unfold f_X2_add
          rw [if_neg (show ¬ nI 12 < (12 : Int32) from by decide)]
          have key : wk_loop (fun k16 : (Nat → Int32) → (Nat → Int32) → Int32 → (Nat → Int32) → (Nat → Int32) → (Nat → Int32) → Int32 → Int32 → Option (Int32 × (Nat → Int32) × (Nat → Int32) × Int32 × (Nat → Int32) × (Nat → Int32) × (Nat → Int32)) => B_X5_addVoter_16 N 8 64 12 12 96 (nI nb) ld ll 12 k16) (fun _ _ _ _ _ _ _ _ => none) N al sg (nI 12) vc vd vl (-3 : Int32) (0 : Int32) = some ((-3 : Int32), al, sg, nI 12, vc, vd, vl) := by
            rw [show (0 : Int32) = nI 0 from rfl]
            refine p_run (σ := Unit) (W := fun m i _ => wk_loop (fun k16 : (Nat → Int32) → (Nat → Int32) → Int32 → (Nat → Int32) → (Nat → Int32) → (Nat → Int32) → Int32 → Int32 → Option (Int32 × (Nat → Int32) × (Nat → Int32) × Int32 × (Nat → Int32) × (Nat → Int32) × (Nat → Int32)) => B_X5_addVoter_16 N 8 64 12 12 96 (nI nb) ld ll 12 k16) (fun _ _ _ _ _ _ _ _ => none) m al sg (nI 12) vc vd vl (-3 : Int32) (nI i)) (fun _ _ => True) (fun A => A = some ((-3 : Int32), al, sg, nI 12, vc, vd, vl)) nb ?_ ?_ nb N 0 () (by omega) (by omega) trivial
            · intro k i _ hi _
              refine ⟨(), ?_, trivial⟩
              show B_X5_addVoter_16 N 8 64 12 12 96 (nI nb) ld ll 12 _ al sg (nI 12) vc vd vl (-3 : Int32) (nI i) = _
              have cmp : f_X5_compare N 8 64 12 96 (nI nb) ld ll (nI 12) vd vl al sg (-3 : Int32) (nI i) = some (al, sg) := by
                unfold f_X5_compare f_X5_hasVoter f_X5_hasListed
                rw [p_has2 N (by omega), p_b1, p_b1, decide_eq_false (by rw [show (-3 : Int32).toInt = -3 from rfl]; omega), if_pos (show wk_bI false = 0 from rfl)]
              rw [B_X5_addVoter_16, show f_X2_size N (nI nb) = some (nI nb) from rfl, p_b1, if_neg (nI_ge hi (by omega)), cmp, p_b2, p_nm, nI_1]
            · intro k _ _
              show B_X5_addVoter_16 N 8 64 12 12 96 (nI nb) ld ll 12 _ al sg (nI 12) vc vd vl (-3 : Int32) (nI nb) = _
              rw [B_X5_addVoter_16, show f_X2_size N (nI nb) = some (nI nb) from rfl, p_b1, if_pos (nI_le (Nat.le_refl nb) (by omega))]
          rw [p_b5, key, p_b7]
          exact same _
        · rw [if_neg (show ¬ nI na = (12 : Int32) from fun w => full ((p_nIe (by omega) (by decide : 12 < 2 ^ 31)).mp w))]
          obtain ⟨l', e3, hl1, hl2⟩ := q_addName N hN (nc := 12) (nd := 12) (nl := 96) (k := na) (L := 12) (sz := nI na) (lim := 12) (c := vc) (d := vd) (l := vl) rfl rfl (by omega) (by decide) (by decide) (by decide) (by decide) (by decide) (by decide) (by decide) x y (nI cz)
          rw [e3, p_ck (by omega) (by omega), p_ck (by omega) (by omega), p_ck (by omega) (by omega), nI_clamp (by omega), nI_1, show nI (na + 1) - (1 : Int32) = nI na from by rw [show (1 : Int32) = nI 1 from rfl, pk_sub (by omega), Nat.add_sub_cancel]]
          have key : ∃ al' sg', wk_loop (fun k16 : (Nat → Int32) → (Nat → Int32) → Int32 → (Nat → Int32) → (Nat → Int32) → (Nat → Int32) → Int32 → Int32 → Option (Int32 × (Nat → Int32) × (Nat → Int32) × Int32 × (Nat → Int32) × (Nat → Int32) × (Nat → Int32)) => B_X5_addVoter_16 N 8 64 12 12 96 (nI nb) ld ll 12 k16) (fun _ _ _ _ _ _ _ _ => none) N al sg (nI (na + 1)) (upd vc na (nI cz)) (upd vd na y) l' (nI na) (0 : Int32) = some (nI na, al', sg', nI (na + 1), upd vc na (nI cz), upd vd na y, l') ∧ (∀ b, b < nb → ∃ n, p_name (uln b) n ∧ al' (8 * na + b) = nI (p_alk x (uln b) m n) ∧ sg' (8 * na + b) = nI (p_str2 (p_alk x (uln b) m n) y (ld b))) ∧ ∀ j, j < 8 * na → al' j = al j ∧ sg' j = sg j := by
            rw [show (0 : Int32) = nI 0 from rfl]
            refine p_run (σ := (Nat → Int32) × (Nat → Int32)) (W := fun m i s => wk_loop (fun k16 : (Nat → Int32) → (Nat → Int32) → Int32 → (Nat → Int32) → (Nat → Int32) → (Nat → Int32) → Int32 → Int32 → Option (Int32 × (Nat → Int32) × (Nat → Int32) × Int32 × (Nat → Int32) × (Nat → Int32) × (Nat → Int32)) => B_X5_addVoter_16 N 8 64 12 12 96 (nI nb) ld ll 12 k16) (fun _ _ _ _ _ _ _ _ => none) m s.1 s.2 (nI (na + 1)) (upd vc na (nI cz)) (upd vd na y) l' (nI na) (nI i)) (fun i s => (∀ b, b < i → ∃ n, p_name (uln b) n ∧ s.1 (8 * na + b) = nI (p_alk x (uln b) m n) ∧ s.2 (8 * na + b) = nI (p_str2 (p_alk x (uln b) m n) y (ld b))) ∧ ∀ j, j < 8 * na → s.1 j = al j ∧ s.2 j = sg j) (fun A => ∃ al' sg', A = some (nI na, al', sg', nI (na + 1), upd vc na (nI cz), upd vd na y, l') ∧ (∀ b, b < nb → ∃ n, p_name (uln b) n ∧ al' (8 * na + b) = nI (p_alk x (uln b) m n) ∧ sg' (8 * na + b) = nI (p_str2 (p_alk x (uln b) m n) y (ld b))) ∧ ∀ j, j < 8 * na → al' j = al j ∧ sg' j = sg j) nb ?_ ?_ nb N 0 (al, sg) (by omega) (by omega) ⟨fun b hb => by omega, fun j hj => ⟨rfl, rfl⟩⟩
            · rintro k i ⟨s1, s2⟩ hi ⟨h1, h2⟩
              dsimp only at h1 h2
              obtain ⟨-, v4, mm, v5⟩ := hL i hi
              have cmp := q_compare N hN (Ld := 8) (Ll := 64) (Vd := 12) (Vl := 96) (ls := nI nb) (vs := nI (na + 1)) (ld := ld) (ll := ll) (vd := upd vd na y) (vl := l') (al := s1) (sg := s2) (a := na) (b := i) (na := na + 1) (nb := nb) rfl rfl (by omega) hi (by omega) (by omega) (by omega) (by decide) (by omega) (by decide) (by omega) (by decide) (by omega) (by decide) hm v5 hl1 v4
              rw [pk_us] at cmp
              refine ⟨(upd s1 (8 * na + i) (nI (p_alk x (uln i) m mm)), upd s2 (8 * na + i) (nI (p_str2 (p_alk x (uln i) m mm) y (ld i)))), ?_, ?_, ?_⟩
              · show B_X5_addVoter_16 N 8 64 12 12 96 (nI nb) ld ll 12 _ s1 s2 (nI (na + 1)) (upd vc na (nI cz)) (upd vd na y) l' (nI na) (nI i) = _
                rw [B_X5_addVoter_16, show f_X2_size N (nI nb) = some (nI nb) from rfl, p_b1, if_neg (nI_ge hi (by omega)), cmp, p_b2, p_nm, nI_1]
              · intro b hb2
                dsimp only
                by_cases w : b = i
                · subst w
                  exact ⟨mm, v5, by rw [pk_us], by rw [pk_us]⟩
                · rw [pk_un (by omega), pk_un (by omega)]
                  exact h1 b (by omega)
              · intro j hj
                dsimp only
                rw [pk_un (by omega), pk_un (by omega)]
                exact h2 j hj
            · rintro k ⟨s1, s2⟩ ⟨h1, h2⟩
              refine ⟨s1, s2, ?_, h1, h2⟩
              show B_X5_addVoter_16 N 8 64 12 12 96 (nI nb) ld ll 12 _ s1 s2 (nI (na + 1)) (upd vc na (nI cz)) (upd vd na y) l' (nI na) (nI nb) = _
              rw [B_X5_addVoter_16, show f_X2_size N (nI nb) = some (nI nb) from rfl, p_b1, if_pos (nI_le (Nat.le_refl nb) (by omega))]
          obtain ⟨al', sg', e4, h1, h2⟩ := key
          rw [p_b5, e4, p_b7]
          refine ⟨nI na, al', sg', nI (na + 1), upd vc na (nI cz), upd vd na y, l', nI (na + 1), upd uvc na (nI cz), upd uvd na y, vp_updL uvn na x, na + 1, rfl, rfl, ⟨hb, by omega, rfl, rfl, rfl, rfl, rfl, rfl, rfl, hth, hL, ?_, ?_⟩⟩
          · intro a ha2
            by_cases w : a = na
            · subst w
              rw [pk_us, pk_us, pk_us, pk_us, pk_uLs]
              exact ⟨rfl, rfl, ⟨cz, by omega, rfl⟩, hl1, m, hm⟩
            · obtain ⟨g1, g2, g3, g4, g5⟩ := hV a (by omega)
              rw [pk_un w, pk_un w, pk_un w, pk_un w, pk_uLn w]
              exact ⟨g1, g2, g3, fun j hj => by rw [hl2 _ (by omega)]; exact g4 j hj, g5⟩
          · intro a ha2 b hb2
            by_cases w : a = na
            · subst w
              obtain ⟨n, g1, g2, g3⟩ := h1 b hb2
              rw [pk_uLs, pk_us]
              exact ⟨m, n, hm, g1, g2, g3⟩
            · obtain ⟨m', n', g1, g2, g3, g4⟩ := hp a (by omega) b hb2
              obtain ⟨k1, k2⟩ := h2 (8 * a + b) (by omega)
              rw [pk_uLn w, pk_un w, k1, k2]
              exact ⟨m', n', g1, g2, g3, g4⟩
      · rw [if_pos dz, if_pos dz]; exact same _
    · rw [if_pos d, if_pos d]; exact same _
