/-! PURE: one hour of the table -/
def p_pc5 (l : Nat) : Nat := p_cnt (fun c => l.testBit c) 5
theorem p_drop : ∀ j, j < 5 → ∀ l, l < 32 → l.testBit j = true → nI l &&& (((1 : Int32) <<< (nI j &&& 31)) ^^^ (-1 : Int32)) = nI (l - 2 ^ j) ∧ p_pc5 (l - 2 ^ j) + 1 = p_pc5 l ∧ ∀ c, c < 5 → (l - 2 ^ j).testBit c = (l.testBit c && decide (c ≠ j)) := by decide +kernel
theorem p_pc50 : ∀ l, l < 32 → p_pc5 l = 0 → l = 0 := by decide +kernel
theorem p_pc5n : ∀ l, l < 32 → l ≠ 0 → ∃ c, c < 5 ∧ l.testBit c = true := by decide +kernel
theorem p_b0t : ∀ c, c < 5 → (0 : Nat).testBit c = false := by decide
theorem p_pc5_le (l : Nat) : p_pc5 l ≤ 5 := p_cnt_le _ 5
abbrev p_plW (N : Nat) (cl : Nat → Int32) (m : Nat) : (Nat → Int32) → (Nat → Int32) → (Nat → Int32) → Int32 → Int32 → Int32 → Option ((Nat → Int32) × (Nat → Int32) × (Nat → Int32)) :=
  wk_loop (fun k13 : (Nat → Int32) → (Nat → Int32) → (Nat → Int32) → Int32 → Int32 → Int32 → Option ((Nat → Int32) × (Nat → Int32) × (Nat → Int32)) => B_X7_placeHands_13 N cl k13) (fun _ _ _ _ _ _ => none) m
theorem p_plW_s (N : Nat) (cl : Nat → Int32) (m : Nat) (a b c : Nat → Int32) (x y z : Int32) : p_plW N cl (m + 1) a b c x y z = B_X7_placeHands_13 N cl (p_plW N cl m) a b c x y z := rfl
abbrev p_plK (N : Nat) (cl : Nat → Int32) (a b c : Nat → Int32) (x : Int32) : Option ((Nat → Int32) × (Nat → Int32) × (Nat → Int32)) :=
  wk_loop (fun k92 : (Nat → Int32) → (Nat → Int32) → (Nat → Int32) → Int32 → Int32 → Option ((Nat → Int32) × (Nat → Int32) × (Nat → Int32)) => B_X7_placeHands_92 N cl k92) (fun _ _ _ _ _ => none) N a b c x (0 : Int32)
abbrev p_tbW (N : Nat) (it : Int32) (hp uh ul ur us uv uw : Nat → Int32) (k110 : (Nat → Int32) → (Nat → Int32) → (Nat → Int32) → Int32 → Int32 → Int32 → Option ((Nat → Int32) × (Nat → Int32) × (Nat → Int32))) (m : Nat) : (Nat → Int32) → (Nat → Int32) → (Nat → Int32) → Int32 → Int32 → Int32 → Int32 → Int32 → Int32 → Option ((Nat → Int32) × (Nat → Int32) × (Nat → Int32)) :=
  wk_loop (fun k155 : (Nat → Int32) → (Nat → Int32) → (Nat → Int32) → Int32 → Int32 → Int32 → Int32 → Int32 → Int32 → Option ((Nat → Int32) × (Nat → Int32) × (Nat → Int32)) => B_X11_tables_155 N it hp uh ul ur us uv uw k110 k155) (fun _ _ _ _ _ _ _ _ _ => none) m
abbrev p_tbK (N : Nat) (it : Int32) (hp uh ul ur us uv uw : Nat → Int32) (k110 : (Nat → Int32) → (Nat → Int32) → (Nat → Int32) → Int32 → Int32 → Int32 → Option ((Nat → Int32) × (Nat → Int32) × (Nat → Int32))) (put rest yet : Nat → Int32) (x3 x4 x5 x6 : Int32) : Option ((Nat → Int32) × (Nat → Int32) × (Nat → Int32)) :=
  wk_loop (fun k280 : (Nat → Int32) → (Nat → Int32) → (Nat → Int32) → Int32 → Int32 → Int32 → Int32 → Int32 → Option ((Nat → Int32) × (Nat → Int32) × (Nat → Int32)) => B_X11_tables_280 N it hp uh ul ur us uv uw k110 k280) (fun _ _ _ _ _ _ _ _ => none) N put rest yet x3 x4 x5 x6 (0 : Int32)
theorem p_neg {a b : Nat} (h : b ≤ a) : nI a + (-(nI b)) = nI (a - b) := by
  rw [← Int32.sub_eq_add_neg, pk_sub h]
/-- the hands of an hour: the class and the check place them alike -/
theorem p_core (N : Nat) (hN : 41 ≤ N) {A : Nat → Nat} {cl : Nat → Int32} (hA : ∀ h, h < 1000 → A h < 32 ∧ cl h = nI (31 - A h)) {h : Nat} (hh : h < 1000) (it : Int32) (hp uh ul ur us uv uw : Nat → Int32) (k110 : (Nat → Int32) → (Nat → Int32) → (Nat → Int32) → Int32 → Int32 → Int32 → Option ((Nat → Int32) × (Nat → Int32) × (Nat → Int32))) {ah rest yet : Nat → Int32} {Y R : Nat → Nat} (hY : ∀ c, c < 5 → Y c ≤ 1000 ∧ ah c = nI (Y c) ∧ yet c = nI (Y c)) (hR : ∀ c, c < 5 → R c ≤ 600 ∧ rest c = nI (R c)) (x3 x4 x5 x6 : Int32) :
    ∀ (d l free turn m m' : Nat) (F : Nat → Nat) (put pl td : Nat → Int32), p_pc5 l = d → l < 32 → (∀ c, c < 5 → l.testBit c = true → (A h).testBit c = true) → free ≤ 20 → turn + d ≤ 5 → 6 ≤ turn + m → d < m' →
      (∀ c, c < 5 → F c ≤ R c ∧ put c = nI (F c) ∧ pl c = nI (F c) ∧ td c = nI (R c - F c)) → (∀ c, c < 5 → l.testBit c = true → F c = 0) → (∀ c, c < 5 → (A h).testBit c = true → l.testBit c = false → R c - F c = 0 ∨ free = 0) →
      ∃ (F' : Nat → Nat) (put' pl' td' : Nat → Int32), p_tbW N it hp uh ul ur us uv uw k110 m' put rest yet x3 x4 x5 x6 (nI free) (nI l) = p_tbK N it hp uh ul ur us uv uw k110 put' rest yet x3 x4 x5 x6 ∧ p_plW N cl m ah pl td (nI h) (nI free) (nI turn) = p_plK N cl ah pl' td' (nI h) ∧
        (∀ c, c < 5 → F' c ≤ R c ∧ put' c = nI (F' c) ∧ pl' c = nI (F' c) ∧ td' c = nI (R c - F' c)) := by
  intro d
  induction d with
  | zero =>
    intro l free turn m m' F put pl td h1 h2 h3 h4 h5 h6 h7 hF hz hn
    have l0 := p_pc50 l h2 h1
    subst l0
    obtain ⟨n, rfl⟩ : ∃ n, m = n + 1 := ⟨m - 1, by omega⟩
    obtain ⟨n', rfl⟩ : ∃ n, m' = n + 1 := ⟨m' - 1, by omega⟩
    refine ⟨F, put, pl, td, ?_, ?_, hF⟩
    · show B_X11_tables_155 N it hp uh ul ur us uv uw k110 _ put rest yet x3 x4 x5 x6 (nI free) (nI 0) = _
      rw [B_X11_tables_155, if_pos (show nI 0 = 0 from rfl)]
    · rw [p_plW_s, B_X7_placeHands_13]
      by_cases t5 : 5 ≤ turn
      · rw [if_pos (show (5 : Int32) ≤ nI turn from nI_le (a := 5) t5 (by omega))]
      · rw [if_neg (show ¬ (5 : Int32) ≤ nI turn from nI_ge (b := 5) (by omega) (by omega))]
        by_cases f0 : free = 0
        · rw [if_pos (show nI free ≤ 0 by rw [f0]; decide)]
        · rw [if_neg (nI_nle (by omega) (by omega)), p_scarcest N hN hA hh (Y := Y) (D := fun c => R c - F c) (fun c hc => ⟨(hY c hc).1, (hY c hc).2.1⟩) (fun c hc => ⟨Nat.le_trans (Nat.sub_le _ _) (hR c hc).1, (hF c hc).2.2.2⟩), p_b1]
          rcases p_arg_t (P := fun c => (A h).testBit c && decide (0 < R c - F c)) (Y := Y) 5 with ⟨q1, q2⟩ | ⟨j, q1, q2, q3, q4⟩
          · rw [q1, if_pos (show p_code none = -4 from rfl)]
          · exfalso
            simp only [Bool.and_eq_true, decide_eq_true_iff] at q3
            have := hn j q2 q3.1 (p_b0t j q2)
            omega
  | succ d ih =>
    intro l free turn m m' F put pl td h1 h2 h3 h4 h5 h6 h7 hF hz hn
    have l0 : l ≠ 0 := fun q => by subst q; exact absurd h1 (by rw [show p_pc5 0 = 0 from by decide]; omega)
    obtain ⟨n, rfl⟩ : ∃ n, m = n + 1 := ⟨m - 1, by omega⟩
    obtain ⟨n', rfl⟩ : ∃ n, m' = n + 1 := ⟨m' - 1, by omega⟩
    -- the check's next
    obtain ⟨j, q1, q2, q3, q4⟩ : ∃ j, p_arg (fun c => l.testBit c) Y 5 = some j ∧ p_isarg (fun c => l.testBit c) Y 5 j := by
      rcases p_arg_t (P := fun c => l.testBit c) (Y := Y) 5 with ⟨r1, r2⟩ | r
      · obtain ⟨c, hc, hb⟩ := p_pc5n l h2 l0
        exact absurd hb (r2 c hc)
      · exact r
    have q3' : l.testBit j = true := q3
    obtain ⟨w1, w2, w3⟩ := p_drop j q2 l h2 q3'
    have hFj := hz j q2 q3'
    obtain ⟨rj1, rj2⟩ := hR j q2
    obtain ⟨fj1, fj2, fj3, fj4⟩ := hF j q2
    have e1 : p_tbW N it hp uh ul ur us uv uw k110 (n' + 1) put rest yet x3 x4 x5 x6 (nI free) (nI l) = p_tbW N it hp uh ul ur us uv uw k110 n' (upd put j (nI (min free (R j)))) rest yet x3 x4 x5 x6 (nI (free - min free (R j))) (nI (l - 2 ^ j)) := by
      show B_X11_tables_155 N it hp uh ul ur us uv uw k110 (p_tbW N it hp uh ul ur us uv uw k110 n') put rest yet x3 x4 x5 x6 (nI free) (nI l) = _
      obtain ⟨mm, e0⟩ := p_next11 N hN it hp uh ul ur us uv uw h2 (put := put) (rest := rest) (yet := yet) (fun c hc => ⟨(hY c hc).1, (hY c hc).2.2⟩) k110 (p_tbW N it hp uh ul ur us uv uw k110 n') x3 x4 x5 x6 (nI free) q1
      rw [B_X11_tables_155, if_neg (nI_ne0 (by omega) (by omega)), e0, B_X11_tables_167, if_pos (by decide), p_nm, p_ck (by omega) (by omega), nI_clamp (by omega), rj2, w1]
      by_cases a : R j ≤ free
      · rw [if_pos (nI_le a (by omega)), p_ck (by omega) (by omega), B_X11_tables_261, p_ck (by omega) (by omega), p_ck (by omega) (by omega), nI_clamp (by omega), pk_us, p_nm, pk_sub a, Nat.min_eq_right a]
      · rw [if_neg (nI_ge (by omega) (by omega)), B_X11_tables_261, p_ck (by omega) (by omega), p_ck (by omega) (by omega), nI_clamp (by omega), pk_us, p_nm, pk_sub (Nat.le_refl free), Nat.min_eq_left (by omega)]
    rw [e1]
    have hl2 : l - 2 ^ j < 32 := Nat.lt_of_le_of_lt (Nat.sub_le _ _) h2
    have hpc : p_pc5 (l - 2 ^ j) = d := by omega
    have hsub : ∀ c, c < 5 → (l - 2 ^ j).testBit c = true → (A h).testBit c = true := by
      intro c hc hb
      rw [w3 c hc] at hb
      simp only [Bool.and_eq_true] at hb
      exact h3 c hc hb.1
    by_cases go : 0 < free ∧ 0 < R j
    · -- both place
      obtain ⟨F', put', pl', td', g1, g2, g3⟩ := ih (l - 2 ^ j) (free - min free (R j)) (turn + 1) n n' (fun c => if c = j then min free (R j) else F c) (upd put j (nI (min free (R j)))) (upd pl j (nI (min free (R j)))) (upd td j (nI (R j - min free (R j)))) hpc hl2 hsub (by omega) (by omega) (by omega) (by omega)
        (by
          intro c hc
          by_cases b : c = j
          · subst b
            simp only [if_true, pk_us]
            exact ⟨by omega, trivial, trivial, trivial⟩
          · simp only [if_neg b, pk_un b]
            exact hF c hc)
        (by
          intro c hc hb
          rw [w3 c hc] at hb
          simp only [Bool.and_eq_true, decide_eq_true_iff] at hb
          show (if c = j then min free (R j) else F c) = 0
          rw [if_neg hb.2]
          exact hz c hc hb.1)
        (by
          intro c hc hS hb
          rw [w3 c hc] at hb
          show R c - (if c = j then min free (R j) else F c) = 0 ∨ free - min free (R j) = 0
          by_cases b : c = j
          · subst b; rw [if_pos rfl]; omega
          · rw [if_neg b]
            rw [decide_eq_true b, Bool.and_true] at hb
            have := hn c hc hS hb
            omega)
      refine ⟨F', put', pl', td', g1, ?_, g3⟩
      rw [← g2, p_plW_s, B_X7_placeHands_13, if_neg (show ¬ (5 : Int32) ≤ nI turn from nI_ge (b := 5) (by omega) (by omega)), if_neg (nI_nle go.1 (by omega)), p_scarcest N hN hA hh (Y := Y) (D := fun c => R c - F c) (fun c hc => ⟨(hY c hc).1, (hY c hc).2.1⟩) (fun c hc => ⟨Nat.le_trans (Nat.sub_le _ _) (hR c hc).1, (hF c hc).2.2.2⟩), p_b1]
      have harg : p_arg (fun c => (A h).testBit c && decide (0 < R c - F c)) Y 5 = some j := by
        refine p_arg_u ⟨q2, ?_, fun c hc hP => ?_⟩
        · show ((A h).testBit j && decide (0 < R j - F j)) = true
          rw [h3 j q2 q3', Bool.true_and, decide_eq_true_iff]; omega
        · simp only [Bool.and_eq_true, decide_eq_true_iff] at hP
          refine q4 c hc ?_
          show l.testBit c = true
          cases hb : l.testBit c
          · have := hn c hc hP.1 hb; omega
          · rfl
      rw [harg, if_neg (show ¬ p_code (some j) = -4 from fun q => by
        have := congrArg Int32.toInt q
        rw [show p_code (some j) = nI j from rfl, nI_toInt (by omega), show (-4 : Int32).toInt = -4 from rfl] at this
        omega), show p_code (some j) = nI j from rfl, p_get q2 (by omega), p_b1, fj4, hFj, Nat.sub_zero]
      have emin : (if nI (R j) < nI free then nI (R j) else nI free) = nI (min free (R j)) := by
        by_cases a : R j < free
        · rw [if_pos (nI_lt a (by omega)), Nat.min_eq_right (by omega)]
        · rw [if_neg (nI_nlt (by omega) (by omega)), Nat.min_eq_left (by omega)]
      rw [emin, p_nm, p_set q2 (by omega), p_b1]
      unfold f_X6_add
      rw [p_get q2 (by omega), p_b1, p_set q2 (by omega), p_b1, p_b1, p_nm, p_nm, nI_1, fj4, hFj, Nat.sub_zero, p_neg (Nat.min_le_right _ _), pk_sub (Nat.min_le_left _ _)]
    · -- the class passes by
      have hmin : min free (R j) = 0 := by omega
      rw [hmin, Nat.sub_zero]
      obtain ⟨F', put', pl', td', g1, g2, g3⟩ := ih (l - 2 ^ j) free turn (n + 1) n' F (upd put j (nI 0)) pl td hpc hl2 hsub h4 (by omega) (by omega) (by omega)
        (by
          intro c hc
          by_cases b : c = j
          · subst b
            rw [pk_us]
            exact ⟨fj1, by rw [hFj], fj3, fj4⟩
          · rw [pk_un b]
            exact hF c hc)
        (by
          intro c hc hb
          rw [w3 c hc] at hb
          simp only [Bool.and_eq_true, decide_eq_true_iff] at hb
          exact hz c hc hb.1)
        (by
          intro c hc hS hb
          rw [w3 c hc] at hb
          by_cases b : c = j
          · subst b; omega
          · rw [decide_eq_true b, Bool.and_true] at hb
            exact hn c hc hS hb)
      exact ⟨F', put', pl', td', g1, g2, g3⟩
