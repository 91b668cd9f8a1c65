/-! PURE: meant, the check's side -/
theorem p_dv {α : Type} (k : Option α) : wk_dv (4 : Int32) k = k := by
  rw [wk_dv, if_neg (by decide)]
theorem p_d4 : ∀ j, j < 12 → nI j / (4 : Int32) = nI (j / 4) ∧ nI j - nI (j / 4) * (4 : Int32) = nI (j % 4) := by decide
theorem p_bits_mono {f g : Nat → Bool} (h : ∀ k, f k = true → g k = true) : ∀ k, p_bits g k = 0 → p_bits f k = 0
  | 0, _ => rfl
  | k + 1, e => by
    rw [p_bits_s] at e ⊢
    have hp : 0 < 2 ^ k := Nat.two_pow_pos k
    by_cases a : g k = true
    · rw [if_pos a] at e; omega
    · rw [if_neg a] at e
      rw [p_bits_mono h k (by omega), if_neg (fun w => a (h k w))]
def p_at (s : Nat → Nat) (c r h j : Nat) : Prop := j / 4 = r ∨ (if j % 4 = h then s (12 * c + j) = 5 else s (12 * c + j) = 0)
theorem p_at_1 {s : Nat → Nat} {c r h : Nat} (hs : ∀ j, j < 12 → s (12 * c + j) < 6) (hh : h < 4) : (∀ j, j < 12 → p_at s c r h j) ↔ (∀ q, q < 3 → (q = r ∨ p_al (p_bits (p_fr s c q 5) 4) (p_bits (p_fr s c q 1) 4) = 2 ^ h)) := by
  have one : ∀ q, q < 3 → (p_al (p_bits (p_fr s c q 5) 4) (p_bits (p_fr s c q 1) 4) = 2 ^ h ↔ ∀ g, g < 4 → (if g = h then s (12 * c + (4 * q + g)) = 5 else s (12 * c + (4 * q + g)) = 0)) := by
    intro q hq
    rw [p_al_1 _ (p_bits_lt _ 4) _ (p_bits_lt _ 4) h hh, p_bits_1 _ hh, p_bits_1 _ hh]
    unfold p_fr
    simp only [decide_eq_true_iff]
    constructor
    · rintro ⟨w1, w2⟩ g hg
      have a1 := w1 g hg
      have a2 := w2 g hg
      have a3 := hs (4 * q + g) (by omega)
      rw [show 12 * c + 4 * q + g = 12 * c + (4 * q + g) by omega] at a1 a2
      by_cases x : g = h
      · rw [if_pos x]; have := a1.mpr x; omega
      · rw [if_neg x]
        by_cases y : 1 ≤ s (12 * c + (4 * q + g))
        · exact (x (a2.mp y)).elim
        · omega
    · intro w
      refine ⟨fun g hg => ?_, fun g hg => ?_⟩
      · have a := w g hg
        rw [show 12 * c + 4 * q + g = 12 * c + (4 * q + g) by omega]
        by_cases x : g = h
        · rw [if_pos x] at a; exact ⟨fun _ => x, fun _ => by omega⟩
        · rw [if_neg x] at a; exact ⟨fun y => by omega, fun y => (x y).elim⟩
      · have a := w g hg
        rw [show 12 * c + 4 * q + g = 12 * c + (4 * q + g) by omega]
        by_cases x : g = h
        · rw [if_pos x] at a; exact ⟨fun _ => x, fun _ => by omega⟩
        · rw [if_neg x] at a; exact ⟨fun y => by omega, fun y => (x y).elim⟩
  constructor
  · intro w q hq
    by_cases e : q = r
    · exact Or.inl e
    · refine Or.inr ((one q hq).mpr fun g hg => ?_)
      have a := w (4 * q + g) (by omega)
      rcases a with a | a
      · omega
      · rw [show (4 * q + g) % 4 = g by omega] at a
        exact a
  · intro w j hj
    rcases w (j / 4) (by omega) with a | a
    · exact Or.inl a
    · have b := (one (j / 4) (by omega)).mp a (j % 4) (by omega)
      rw [show 4 * (j / 4) + j % 4 = j by omega] at b
      exact Or.inr b
theorem q_meantBy (N : Nat) (hN : 41 ≤ N) {hs : Nat → Int32} {s : Nat → Nat} {n c r : Nat} (hn : n ≤ 40) (hst : ∀ j, j < 12 * n → hs j = nI (s j) ∧ s j < 6) (hc : c < n) (hr : r < 3) :
    f_X11_meantBy N hs (nI c) (nI r) = some (nI (if p_bits (p_fr s c r 1) 4 = 0 then p_an (fun q => p_al (p_bits (p_fr s c q 5) 4) (p_bits (p_fr s c q 1) 4)) r 3 else if p_bits (p_fr s c r 5) 4 = 0 then p_bits (p_fr s c r 1) 4 else p_bits (p_fr s c r 5) 4)) := by
  unfold f_X11_meantBy
  obtain ⟨e, he⟩ : ∃ e : Nat, e = 4 := ⟨_, rfl⟩
  obtain ⟨z, hz⟩ : ∃ z : Nat, z = 0 := ⟨_, rfl⟩
  have ez : (0 : Int32) = nI z := by rw [hz]; rfl
  obtain ⟨G, hG⟩ : ∃ G : Nat → Nat, G = fun q => p_al (p_bits (p_fr s c q 5) 4) (p_bits (p_fr s c q 1) 4) := ⟨_, rfl⟩
  have hG5 : ∀ q, G q = 0 ∨ G q = 1 ∨ G q = 2 ∨ G q = 4 ∨ G q = 8 := fun q => by rw [hG]; exact p_al_5 _ (p_bits_lt _ 4) _ (p_bits_lt _ 4)
  rw [← hG]
  have e0 : wk_loop (fun k8 : Int32 → Int32 → Int32 → Int32 → Int32 → Option Int32 => B_X11_meantBy_8 N hs k8) (fun _ _ _ _ _ => none) N (nI c) (nI r) (0 : Int32) (0 : Int32) (0 : Int32) = wk_loop (fun k8 : Int32 → Int32 → Int32 → Int32 → Int32 → Option Int32 => B_X11_meantBy_8 N hs k8) (fun _ _ _ _ _ => none) N (nI c) (nI r) (nI (p_bits (p_fr s c r 5) z)) (nI (p_bits (p_fr s c r 1) z)) (nI z) := by rw [hz]; rfl
  rw [e0]
  refine p_run (σ := Unit) (W := fun m i _ => wk_loop (fun k8 : Int32 → Int32 → Int32 → Int32 → Int32 → Option Int32 => B_X11_meantBy_8 N hs k8) (fun _ _ _ _ _ => none) m (nI c) (nI r) (nI (p_bits (p_fr s c r 5) i)) (nI (p_bits (p_fr s c r 1) i)) (nI i)) (fun _ _ => True) (fun A => A = some (nI (if p_bits (p_fr s c r 1) 4 = 0 then p_an G r 3 else if p_bits (p_fr s c r 5) 4 = 0 then p_bits (p_fr s c r 1) 4 else p_bits (p_fr s c r 5) 4))) e ?_ ?_ 4 N z () (by omega) (by omega) trivial
  · intro m i _ hi _
    refine ⟨(), ?_, trivial⟩
    have g : ¬ (4 : Int32) ≤ nI i := nI_ge (b := 4) (by omega) (by omega)
    obtain ⟨h1, h2⟩ := hst (12 * c + 4 * r + i) (by omega)
    have b5 := p_bits_lt (p_fr s c r 5) i
    have b1 := p_bits_lt (p_fr s c r 1) i
    have hp8 : 2 ^ i ≤ 8 := by
      rcases (show i = 0 ∨ i = 1 ∨ i = 2 ∨ i = 3 by omega) with rfl | rfl | rfl | rfl <;> decide
    have f5 : (p_fr s c r 5 i = true) ↔ s (12 * c + 4 * r + i) = 5 := by
      unfold p_fr; rw [decide_eq_true_iff]; omega
    have f1 : (p_fr s c r 1 i = true) ↔ ¬ s (12 * c + 4 * r + i) = 0 := by
      unfold p_fr; rw [decide_eq_true_iff]; omega
    show B_X11_meantBy_8 N hs _ (nI c) (nI r) _ _ (nI i) = _
    rw [B_X11_meantBy_8, if_neg g, p_placeM, p_ck (by omega) (by omega), p_nm, nI_clamp (by omega), h1, p_bits_s, p_bits_s]
    by_cases q5 : s (12 * c + 4 * r + i) = 5
    · rw [if_pos (show nI (s (12 * c + 4 * r + i)) = (5 : Int32) from by rw [q5]; rfl), B_X11_meantBy_47, p_nm, (p_bit i (by omega) _ (by omega) b5).1, q5, if_neg (by decide), p_nm, p_nm, nI_1, (p_bit i (by omega) _ (by omega) b1).1, if_pos (f5.mpr q5), if_pos (f1.mpr (by omega))]
    · rw [if_neg (show ¬ nI (s (12 * c + 4 * r + i)) = (5 : Int32) from fun w => q5 ((p_n16 _ (by omega) 5 (by decide)).mp w)), B_X11_meantBy_47, p_nm, p_or0 _ (by omega), if_neg (fun w => q5 (f5.mp w))]
      by_cases q1 : s (12 * c + 4 * r + i) = 0
      · rw [q1, if_pos (show nI 0 ≤ (0 : Int32) from by decide), p_nm, p_nm, nI_1, p_or0 _ (by omega), if_neg (fun w => f1.mp w q1)]
        simp only [Nat.add_zero]
      · rw [if_neg (show ¬ nI (s (12 * c + 4 * r + i)) ≤ (0 : Int32) from nI_ge (b := s (12 * c + 4 * r + i)) (show 0 < _ by omega) (by omega)), p_nm, p_nm, nI_1, (p_bit i (by omega) _ (by omega) b1).1, if_pos (f1.mpr q1)]
        simp only [Nat.add_zero, p_or0 _ (show p_bits (p_fr s c r 5) i < 16 by omega)]
  · intro m _ _
    show B_X11_meantBy_8 N hs _ (nI c) (nI r) _ _ (nI e) = _
    rw [he] at *
    have b5 := p_bits_lt (p_fr s c r 5) 4
    have b1 := p_bits_lt (p_fr s c r 1) 4
    rw [B_X11_meantBy_8, if_pos (by decide)]
    by_cases q1 : p_bits (p_fr s c r 1) 4 = 0
    · rw [if_pos (by rw [q1]; rfl), if_pos q1, ← p_fl_b G hr hG5]
      have e1 : wk_loop (fun k95 : Int32 → Int32 → Int32 → Int32 → Option Int32 => B_X11_meantBy_95 N hs k95) (fun _ _ _ _ => none) N (nI c) (nI r) (0 : Int32) (0 : Int32) = wk_loop (fun k95 : Int32 → Int32 → Int32 → Int32 → Option Int32 => B_X11_meantBy_95 N hs k95) (fun _ _ _ _ => none) N (nI c) (nI r) (nI (p_bits (p_fl G r) z)) (nI z) := by rw [hz]; rfl
      rw [e1]
      obtain ⟨e', he'⟩ : ∃ e : Nat, e = 4 := ⟨_, rfl⟩
      refine p_run (σ := Unit) (W := fun m i _ => wk_loop (fun k95 : Int32 → Int32 → Int32 → Int32 → Option Int32 => B_X11_meantBy_95 N hs k95) (fun _ _ _ _ => none) m (nI c) (nI r) (nI (p_bits (p_fl G r) i)) (nI i)) (fun _ _ => True) (fun A => A = some (nI (p_bits (p_fl G r) 4))) e' ?_ ?_ 4 N z () (by omega) (by omega) trivial
      · intro m i _ hi _
        refine ⟨(), ?_, trivial⟩
        have g : ¬ (4 : Int32) ≤ nI i := nI_ge (b := 4) (by omega) (by omega)
        have bi := p_bits_lt (p_fl G r) i
        have hp8 : 2 ^ i ≤ 8 := by
          rcases (show i = 0 ∨ i = 1 ∨ i = 2 ∨ i = 3 by omega) with rfl | rfl | rfl | rfl <;> decide
        have inner : ∀ k95 : Int32 → Int32 → Int32 → Int32 → Option Int32, wk_loop (fun k107 : Int32 → Int32 → Int32 → Int32 → Int32 → Int32 → Option Int32 => B_X11_meantBy_107 N hs k95 k107) (fun _ _ _ _ _ _ => none) N (nI c) (nI r) (nI (p_bits (p_fl G r) i)) (nI i) (1 : Int32) (nI z) = k95 (nI c) (nI r) (nI (p_bits (p_fl G r) (i + 1))) (nI (i + 1)) := by
          intro k95
          obtain ⟨e12, he12⟩ : ∃ e : Nat, e = 12 := ⟨_, rfl⟩
          refine p_run (σ := Int32) (W := fun m j f => wk_loop (fun k107 : Int32 → Int32 → Int32 → Int32 → Int32 → Int32 → Option Int32 => B_X11_meantBy_107 N hs k95 k107) (fun _ _ _ _ _ _ => none) m (nI c) (nI r) (nI (p_bits (p_fl G r) i)) (nI i) f (nI j)) (fun j f => ¬ f = 0 ↔ ∀ j', j' < j → p_at s c r i j') (fun A => A = k95 (nI c) (nI r) (nI (p_bits (p_fl G r) (i + 1))) (nI (i + 1))) e12 ?_ ?_ 12 N z 1 (by omega) (by omega) ⟨fun _ j' hj' => by omega, fun _ => by decide⟩
          · intro m j f hj hF
            have gj : ¬ (12 : Int32) ≤ nI j := nI_ge (b := 12) (by omega) (by omega)
            obtain ⟨d1, d2⟩ := p_d4 j (by omega)
            obtain ⟨h1, h2⟩ := hst (12 * c + j) (by omega)
            have grow : ∀ f' : Int32, (¬ f' = 0 ↔ (¬ f = 0 ∧ p_at s c r i j)) → (¬ f' = 0 ↔ ∀ j', j' < j + 1 → p_at s c r i j') := fun f' h => by
              rw [h, hF]
              refine ⟨fun w j' hj' => ?_, fun w => ⟨fun j' hj' => w j' (by omega), w j (by omega)⟩⟩
              by_cases x : j' = j
              · rw [x]; exact w.2
              · exact w.1 j' (by omega)
            by_cases q0 : f = 0
            · refine ⟨0, ?_, grow 0 ⟨fun w => (w rfl).elim, fun w => (w.1 q0).elim⟩⟩
              show B_X11_meantBy_107 N hs k95 _ (nI c) (nI r) _ (nI i) f (nI j) = _
              rw [B_X11_meantBy_107, if_neg gj, if_pos q0, p_nm, nI_1]
            · by_cases q2 : j / 4 = r
              · refine ⟨1, ?_, grow 1 ⟨fun _ => ⟨q0, Or.inl q2⟩, fun _ => by decide⟩⟩
                show B_X11_meantBy_107 N hs k95 _ (nI c) (nI r) _ (nI i) f (nI j) = _
                rw [B_X11_meantBy_107, if_neg gj, if_neg q0, p_dv, d1, if_pos (by rw [q2]), p_nm, nI_1]
              · have q2' : ¬ nI (j / 4) = nI r := fun w => q2 ((p_n16 _ (by omega) _ (by omega)).mp w)
                have em : ((12 : Int32) * nI c) + nI j = nI (12 * c + j) := by rw [show (12 : Int32) = nI 12 from rfl, pk_mul, nI_add]
                have run : ∀ (k107 : Int32 → Int32 → Int32 → Int32 → Int32 → Int32 → Option Int32) (v : Nat), v < 6 → B_X11_meantBy_153 N hs k95 k107 (nI c) (nI r) (nI (p_bits (p_fl G r) i)) (nI i) (nI j) (nI (s (12 * c + j))) (nI v) = k107 (nI c) (nI r) (nI (p_bits (p_fl G r) i)) (nI i) (if s (12 * c + j) = v then 1 else 0) (nI (j + 1)) := fun k v hv => by
                  unfold B_X11_meantBy_153
                  by_cases x : s (12 * c + j) = v
                  · rw [if_pos (by rw [x]), if_pos x, p_nm, nI_1]
                  · rw [if_neg (fun w => x ((p_n16 _ (by omega) _ (by omega)).mp w)), if_neg x, p_nm, nI_1]
                have ifn : ∀ v : Nat, (¬ (if s (12 * c + j) = v then (1 : Int32) else 0) = 0 ↔ s (12 * c + j) = v) := fun v => by
                  by_cases x : s (12 * c + j) = v
                  · rw [if_pos x]; exact ⟨fun _ => x, fun _ => by decide⟩
                  · rw [if_neg x]; exact ⟨fun w => (w rfl).elim, fun w => (x w).elim⟩
                by_cases q3 : j % 4 = i
                · refine ⟨if s (12 * c + j) = 5 then 1 else 0, ?_, grow _ ?_⟩
                  · show B_X11_meantBy_107 N hs k95 _ (nI c) (nI r) _ (nI i) f (nI j) = _
                    rw [B_X11_meantBy_107, if_neg gj, if_neg q0, p_dv, d1, if_neg q2', em, p_ck (by omega) (by omega), p_dv, d2, if_pos (by rw [q3]), nI_clamp (by omega), h1, show (5 : Int32) = nI 5 from rfl, run _ 5 (by decide)]
                  · rw [ifn 5]
                    unfold p_at
                    rw [if_pos q3]
                    exact ⟨fun w => ⟨q0, Or.inr w⟩, fun w => w.2.resolve_left q2⟩
                · refine ⟨if s (12 * c + j) = 0 then 1 else 0, ?_, grow _ ?_⟩
                  · show B_X11_meantBy_107 N hs k95 _ (nI c) (nI r) _ (nI i) f (nI j) = _
                    rw [B_X11_meantBy_107, if_neg gj, if_neg q0, p_dv, d1, if_neg q2', em, p_ck (by omega) (by omega), p_dv, d2, if_neg (fun w => q3 ((p_n16 _ (by omega) _ (by omega)).mp w)), nI_clamp (by omega), h1]
                    exact run _ 0 (by decide)
                  · rw [ifn 0]
                    unfold p_at
                    rw [if_neg q3]
                    exact ⟨fun w => ⟨q0, Or.inr w⟩, fun w => w.2.resolve_left q2⟩
          · intro m f hF
            have gj : (12 : Int32) ≤ nI e12 := nI_le (a := 12) (by omega) (by omega)
            have hF2 : (¬ f = 0) ↔ p_fl G r i = true := by
              rw [hF, he12, p_at_1 (fun j hj => (hst _ (by omega)).2) (by omega), p_fl_1, hG]
            show B_X11_meantBy_107 N hs k95 _ (nI c) (nI r) _ (nI i) f (nI e12) = _
            rw [B_X11_meantBy_107, if_pos gj, p_bits_s]
            by_cases q0 : f = 0
            · rw [if_pos q0, p_nm, p_nm, nI_1, p_or0 _ (by omega), if_neg (fun w => hF2.mpr w q0)]
              simp only [Nat.add_zero]
            · rw [if_neg q0, p_nm, p_nm, nI_1, (p_bit i (by omega) _ (by omega) bi).1, if_pos (hF2.mp q0)]
        show B_X11_meantBy_95 N hs _ (nI c) (nI r) _ (nI i) = _
        rw [B_X11_meantBy_95, if_neg g, ez]
        exact inner _
      · intro m _ _
        subst he'
        show B_X11_meantBy_95 N hs _ (nI c) (nI r) _ (nI 4) = _
        rw [B_X11_meantBy_95, if_pos (by decide)]
    · rw [if_neg (show ¬ nI (p_bits (p_fr s c r 1) 4) = (0 : Int32) from fun w => q1 ((p_n16 _ b1 0 (by decide)).mp w)), if_neg q1]
      by_cases q5 : p_bits (p_fr s c r 5) 4 = 0
      · rw [if_pos (by rw [q5]; rfl), if_pos q5]
      · rw [if_neg (show ¬ nI (p_bits (p_fr s c r 5) 4) = (0 : Int32) from fun w => q5 ((p_n16 _ b5 0 (by decide)).mp w)), if_neg q5]
theorem q_meant (N : Nat) (hN : 41 ≤ N) {sz : Int32} {co st cd ct hs : Nat → Int32} {n : Nat} (hR : RPile sz co st cd ct hs 0 n) (x y z : Int32) : ∃ r, f_X10_meant N sz st x y z = some r ∧ f_X11_meant N cd hs x y z = some r := by
  obtain ⟨hn, rfl, hcd, -, hst⟩ := hR
  have hex : ∀ j : Nat, ∃ v : Nat, j < 12 * n → st j = nI v ∧ hs j = nI v ∧ v < 6 := fun j => by
    by_cases h : j < 12 * n
    · obtain ⟨a, v, b, c⟩ := hst j h
      rw [Nat.mul_zero, Nat.zero_add] at a
      exact ⟨v, fun _ => ⟨c, a.symm.trans c, b⟩⟩
    · exact ⟨0, fun q => (h q).elim⟩
  obtain ⟨s, hs1⟩ : ∃ s : Nat → Nat, ∀ j, j < 12 * n → st j = nI (s j) ∧ hs j = nI (s j) ∧ s j < 6 := ⟨fun j => Classical.choose (hex j), fun j => Classical.choose_spec (hex j)⟩
  unfold f_X10_meant f_X11_meant
  simp only [p_has N n hn, p_isCard N n hn cd hcd, p_isRace, p_isWhat, p_inI, p_b1, p_bI, decide_eq_false_iff_not, show (0 : Int64).toInt = 0 from rfl, show (1 : Int64).toInt = 1 from rfl, show (2 : Int64).toInt = 2 from rfl, show (2 : Int32).toInt = 2 from rfl]
  by_cases a : 0 ≤ x.toInt ∧ x.toInt < n
  · by_cases b : 0 ≤ y.toInt ∧ y.toInt ≤ 2
    · by_cases c : 0 ≤ z.toInt ∧ z.toInt < 2
      · simp only [if_neg (not_not_intro a), if_neg (not_not_intro b), if_neg (not_not_intro c), if_neg (show ¬ ¬ (0 ≤ z.toInt ∧ z.toInt ≤ 1) from by omega)]
        obtain ⟨i, hi, rfl⟩ := p_rng a.1 a.2
        obtain ⟨r, hr, rfl⟩ := p_of (n := 2) b.1 b.2
        have b5 := p_bits_lt (p_fr s i r 5) 4
        have b1 := p_bits_lt (p_fr s i r 1) 4
        have e1 := q_meantBy N hN hn (fun j hj => ⟨(hs1 j hj).2.1, (hs1 j hj).2.2⟩) hi (r := r) (by omega)
        have e2 : f_X3_meantBits N st (nI i) (nI r) = some (nI (if p_bits (p_fr s i r 1) 4 = 0 then p_an (fun q => p_al (p_bits (p_fr s i q 5) 4) (p_bits (p_fr s i q 1) 4)) r 3 else if p_bits (p_fr s i r 5) 4 = 0 then p_bits (p_fr s i r 1) 4 else p_bits (p_fr s i r 5) 4)) := by
          unfold f_X3_meantBits
          have hs2 : ∀ j, j < 12 * n → st j = nI (s j) ∧ s j < 6 := fun j hj => ⟨(hs1 j hj).1, (hs1 j hj).2.2⟩
          rw [show f_X3_bitsFrom N st (nI i) (nI r) (5 : Int32) = some (nI (p_bits (p_fr s i r 5) 4)) from q_bits N hN hn hs2 hi (t := 5) (by omega) (by decide), p_b1, show f_X3_bitsFrom N st (nI i) (nI r) (1 : Int32) = some (nI (p_bits (p_fr s i r 1) 4)) from q_bits N hN hn hs2 hi (t := 1) (by omega) (by decide), p_b1, q_else N hN hn hs2 hi (by omega), p_b1]
          have mono : p_bits (p_fr s i r 1) 4 = 0 → p_bits (p_fr s i r 5) 4 = 0 := p_bits_mono (fun k w => by
            unfold p_fr at w ⊢
            rw [decide_eq_true_iff] at w ⊢
            omega) 4
          by_cases q5 : p_bits (p_fr s i r 5) 4 = 0
          · rw [if_pos (by rw [q5]; rfl), if_pos q5]
            by_cases q1 : p_bits (p_fr s i r 1) 4 = 0
            · rw [if_pos (by rw [q1]; rfl), if_pos q1]
            · rw [if_neg (show ¬ nI (p_bits (p_fr s i r 1) 4) = (0 : Int32) from fun w => q1 ((p_n16 _ b1 0 (by decide)).mp w)), if_neg q1]
          · rw [if_neg (show ¬ nI (p_bits (p_fr s i r 5) 4) = (0 : Int32) from fun w => q5 ((p_n16 _ b5 0 (by decide)).mp w)), if_neg (fun w => q5 (mono w)), if_neg q5]
        have hlt : (if p_bits (p_fr s i r 1) 4 = 0 then p_an (fun q => p_al (p_bits (p_fr s i q 5) 4) (p_bits (p_fr s i q 1) 4)) r 3 else if p_bits (p_fr s i r 5) 4 = 0 then p_bits (p_fr s i r 1) 4 else p_bits (p_fr s i r 5) 4) < 16 := by
          have := p_an_lt (fun q => p_al (p_bits (p_fr s i q 5) 4) (p_bits (p_fr s i q 1) 4)) r 3
          by_cases q1 : p_bits (p_fr s i r 1) 4 = 0
          · rw [if_pos q1]; exact this
          · rw [if_neg q1]
            by_cases q5 : p_bits (p_fr s i r 5) 4 = 0
            · rw [if_pos q5]; exact b1
            · rw [if_neg q5]; exact b5
        generalize (if p_bits (p_fr s i r 1) 4 = 0 then p_an (fun q => p_al (p_bits (p_fr s i q 5) 4) (p_bits (p_fr s i q 1) 4)) r 3 else if p_bits (p_fr s i r 5) 4 = 0 then p_bits (p_fr s i r 1) 4 else p_bits (p_fr s i r 5) 4) = M at e1 e2 hlt
        rw [e1, e2, p_b1, p_b1]
        by_cases d : z = 0
        · rw [if_pos d, if_pos d]; exact ⟨_, rfl, rfl⟩
        · rw [if_neg d, if_neg d, p_only N (by omega) hlt, p_b1]
          refine ⟨_, rfl, ?_⟩
          exact (show _ = f_X10_onlyBit N (nI M) from rfl).trans (p_only N (by omega) hlt)
      · simp only [if_neg (not_not_intro a), if_neg (not_not_intro b), if_pos c, if_pos (show ¬ (0 ≤ z.toInt ∧ z.toInt ≤ 1) from by omega)]; exact ⟨_, rfl, rfl⟩
    · simp only [if_neg (not_not_intro a), if_pos b]; exact ⟨_, rfl, rfl⟩
  · simp only [if_pos a]; exact ⟨_, rfl, rfl⟩
