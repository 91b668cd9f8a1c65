/-! PURE: paired -/
/-- whom a voter is struck by -/
theorem p_strS (N : Nat) (hN : 41 ≤ N) {th : Int32} {al : Nat → Int32} {lim ls : Int32} {ld ll sg : Nat → Int32} {vlim vs : Int32} {vc vd vl : Nat → Int32} {ul uv un : Int32} {uld : Nat → Int32} {uln : Nat → Int64} {uvc uvd : Nat → Int32} {uvn : Nat → Int64} {na nb : Nat} (hR : RRoll th al lim ls ld ll sg vlim vs vc vd vl ul uv un uld uln uvc uvd uvn na nb) :
    ∃ S : Nat → Nat → Bool, ∀ a, a < na → ∀ b, b < nb → (S a b = true ↔ ¬ sg (8 * a + b) < th) ∧ f_X11_strikes1 N un uld uln uvd uvn (nI a) (nI b) = some (S a b) := by
  refine ⟨fun a b => decide (¬ sg (8 * a + b) < th), fun a ha b hb => ⟨decide_eq_true_iff, ?_⟩⟩
  obtain ⟨t, ht⟩ := p_pairs N hN hR ha
  obtain ⟨h1, h2, h3, h4, h5⟩ := ht b hb
  obtain ⟨q1, q2, -, -, -, -, -, -, hth, hun, -⟩ := hR
  obtain ⟨s1, s2⟩ := p_strikes1 N (un := un) (uld := uld) (uvd := uvd) (show a < 12 by omega) (show b < 8 by omega) h2
  show f_X11_strikes1 N un uld uln uvd uvn (nI a) (nI b) = some (decide (¬ sg (8 * a + b) < th))
  by_cases ok : p_ok (uvd a) (uld b)
  · rw [h4 ok, hth]
    by_cases c : nI (t b) < un
    · rw [s2 (fun d => d.2 c), decide_eq_false (fun d => d c)]
    · rw [s1 ⟨ok, c⟩, decide_eq_true c]
  · rw [h5 ok, hth, s2 (fun d => ok d.1), decide_eq_false]
    intro d
    apply d
    rw [p_toInt_lt, show (nI 0).toInt = 0 from rfl]
    omega
theorem p_strOf (N : Nat) (hN : 41 ≤ N) {th : Int32} {sg : Nat → Int32} {na nb : Nat} (hna : na ≤ 12) (hnb : nb ≤ 8) {S : Nat → Nat → Bool} (hS : ∀ a, a < na → ∀ b, b < nb → (S a b = true ↔ ¬ sg (8 * a + b) < th)) {a : Nat} (ha : a < na) : f_X5_strikersOf N th (nI nb) sg (nI a) = some (nI (p_bits (S a) nb)) := by
  unfold f_X5_strikersOf
  obtain ⟨z, hz⟩ : ∃ z : Nat, z = 0 := ⟨_, rfl⟩
  rw [show (0 : Int32) = nI z by rw [hz]; rfl]
  refine p_run (σ := Nat)
    (W := fun m i s => wk_loop (fun k4 : Int32 → Int32 → Int32 → Option Int32 => B_X5_strikersOf_4 N th (nI nb) sg k4) (fun _ _ _ => none) m (nI a) (nI s) (nI i))
    (fun i s => s = p_bits (S a) i)
    (fun A => A = some (nI (p_bits (S a) nb))) nb ?_ ?_ nb N z z (by omega) (by omega) (by subst hz; rfl)
  · intro m i s hi hI
    have g : ¬ nI nb ≤ nI i := nI_ge hi (by omega)
    have hb := hS a ha i hi
    have hlt := p_bits_lt (S a) i
    have ep : f_X5_pair N (nI a) (nI i) = some (nI (8 * a + i)) := by
      unfold f_X5_pair
      rw [show (8 : Int32) = nI 8 from rfl, pk_mul, nI_add, Nat.mul_comm]
    by_cases c : S a i = true
    · refine ⟨s + 2 ^ i, ?_, by rw [p_bits_s, if_pos c, hI]⟩
      show B_X5_strikersOf_4 N th (nI nb) sg _ (nI a) (nI s) (nI i) = _
      rw [B_X5_strikersOf_4, f_X2_size, p_b1, if_neg g, ep, p_b1, p_get (by omega) (by omega), p_b1, if_neg (hb.mp c), p_nm, p_nm, nI_1, p_bitor i (by omega) s (by omega)]
    · refine ⟨s, ?_, by rw [p_bits_s, if_neg c, hI]; rfl⟩
      show B_X5_strikersOf_4 N th (nI nb) sg _ (nI a) (nI s) (nI i) = _
      rw [B_X5_strikersOf_4, f_X2_size, p_b1, if_neg g, ep, p_b1, p_get (by omega) (by omega), p_b1, if_pos (Classical.byContradiction (fun d => c (hb.mpr d))), p_nm, nI_1]
  · intro m s hI
    show B_X5_strikersOf_4 N th (nI nb) sg _ (nI a) (nI s) (nI nb) = _
    rw [B_X5_strikersOf_4, f_X2_size, p_b1, if_pos (nI_le (Nat.le_refl nb) (by omega)), hI]
/-- struck by somebody outside a set -/
def p_out (S : Nat → Nat → Bool) (nb c a : Nat) : Bool := !decide (∀ l, l < nb → S a l = true → c.testBit l = true)
theorem p_bes (S : Nat → Nat → Bool) {nb c : Nat} (hnb : nb ≤ 8) (hc : c < 256) (a : Nat) : (nI (p_bits (S a) nb) &&& (nI c ^^^ (-1 : Int32)) = 0) ↔ p_out S nb c a = false := by
  have hlt : p_bits (S a) nb < 256 := by
    have := p_bits_lt (S a) nb
    have : 2 ^ nb ≤ 2 ^ 8 := Nat.pow_le_pow_right (by omega) hnb
    omega
  rw [p_beside hlt hc]
  unfold p_out
  rw [Bool.not_eq_false', decide_eq_true_iff]
  constructor
  · intro h l hl hs
    exact h l (by omega) (by rw [p_bits_t, hs]; simp [hl])
  · intro h l hl hs
    rw [p_bits_t] at hs
    by_cases d : l < nb
    · exact h l d (by simpa [d] using hs)
    · simp [d] at hs
theorem p_strBeside (N : Nat) (hN : 41 ≤ N) {S : Nat → Nat → Bool} {na nb c : Nat} (hna : na ≤ 12) (hnb : nb ≤ 8) (hc : c < 256) {sk : Nat → Int32} (hsk : ∀ a, a < na → sk a = nI (p_bits (S a) nb)) : f_X5_struckBeside N sk (nI na) (nI c) = some (nI (p_cnt (p_out S nb c) na)) := by
  unfold f_X5_struckBeside
  obtain ⟨z, hz⟩ : ∃ z : Nat, z = 0 := ⟨_, rfl⟩
  have hz0 : nI z = 0 := by rw [hz]; rfl
  rw [← hz0]
  refine p_run (σ := Nat)
    (W := fun m i s => wk_loop (fun k4 : Int32 → Int32 → Int32 → Option Int32 => B_X5_struckBeside_4 N sk (nI na) k4) (fun _ _ _ => none) m (nI c) (nI s) (nI i))
    (fun i s => s = p_cnt (p_out S nb c) i)
    (fun A => A = some (nI (p_cnt (p_out S nb c) na))) na ?_ ?_ na N z z (by omega) (by omega) (by subst hz; rfl)
  · intro m i s hi hI
    have g : ¬ nI na ≤ nI i := nI_ge hi (by omega)
    have hb := p_bes S hnb hc i
    cases d : p_out S nb c i with
    | true =>
      refine ⟨s + 1, ?_, by rw [p_cnt_s, d, if_pos rfl, hI]⟩
      show B_X5_struckBeside_4 N sk (nI na) _ (nI c) (nI s) (nI i) = _
      rw [B_X5_struckBeside_4, f_X2_size, p_b1, if_neg g, p_get (by omega) (by omega), p_b1, hsk i hi, if_neg (fun e => by rw [hb.mp e] at d; cases d), p_nm, p_nm, nI_1, nI_1]
    | false =>
      refine ⟨s, ?_, by rw [p_cnt_s, d, if_neg (by decide), hI]; rfl⟩
      show B_X5_struckBeside_4 N sk (nI na) _ (nI c) (nI s) (nI i) = _
      rw [B_X5_struckBeside_4, f_X2_size, p_b1, if_neg g, p_get (by omega) (by omega), p_b1, hsk i hi, if_pos (hb.mpr d), p_nm, nI_1]
  · intro m s hI
    show B_X5_struckBeside_4 N sk (nI na) _ (nI c) (nI s) (nI na) = _
    rw [B_X5_struckBeside_4, f_X2_size, p_b1, if_pos (nI_le (Nat.le_refl na) (by omega)), hI]
/-- the check's voter: is it struck by somebody outside a set -/
theorem p_pin (N : Nat) (hN : 41 ≤ N) {un : Int32} {uld : Nat → Int32} {uln : Nat → Int64} {uvd : Nat → Int32} {uvn : Nat → Int64} {na nb : Nat} (hnb : nb ≤ 8) {S : Nat → Nat → Bool} (hS : ∀ a, a < na → ∀ b, b < nb → f_X11_strikes1 N un uld uln uvd uvn (nI a) (nI b) = some (S a b)) {a c : Nat} (ha : a < na) (hc : c < 256) (uv : Int32) (k6 : Int32 → Int32 → Option Int32) (k24 : Int32 → Int32 → Int32 → Int32 → Option Int32) (x1 x3 : Int32) :
    wk_loop (fun k39 : Int32 → Int32 → Int32 → Int32 → Int32 → Int32 → Option Int32 => B_X11_paired_39 N (nI nb) uv un uld uln uvd uvn k6 k24 k39) (fun _ _ _ _ _ _ => none) N x1 (nI c) x3 (nI a) (0 : Int32) (0 : Int32) = k24 x1 (nI c) (x3 + (if p_out S nb c a = true then 1 else 0)) (nI (a + 1)) := by
  obtain ⟨z, hz⟩ : ∃ z : Nat, z = 0 := ⟨_, rfl⟩
  have hz0 : nI z = 0 := by rw [hz]; rfl
  have e0 : (0 : Int32) = wk_bI false := rfl
  rw [show wk_loop (fun k39 : Int32 → Int32 → Int32 → Int32 → Int32 → Int32 → Option Int32 => B_X11_paired_39 N (nI nb) uv un uld uln uvd uvn k6 k24 k39) (fun _ _ _ _ _ _ => none) N x1 (nI c) x3 (nI a) (0 : Int32) (0 : Int32) = wk_loop (fun k39 : Int32 → Int32 → Int32 → Int32 → Int32 → Int32 → Option Int32 => B_X11_paired_39 N (nI nb) uv un uld uln uvd uvn k6 k24 k39) (fun _ _ _ _ _ _ => none) N x1 (nI c) x3 (nI a) (wk_bI false) (nI z) by rw [hz0]; rfl]
  refine p_run (σ := Bool)
    (W := fun m i s => wk_loop (fun k39 : Int32 → Int32 → Int32 → Int32 → Int32 → Int32 → Option Int32 => B_X11_paired_39 N (nI nb) uv un uld uln uvd uvn k6 k24 k39) (fun _ _ _ _ _ _ => none) m x1 (nI c) x3 (nI a) (wk_bI s) (nI i))
    (fun i s => s = !decide (∀ l, l < i → S a l = true → c.testBit l = true))
    (fun A => A = k24 x1 (nI c) (x3 + (if p_out S nb c a = true then 1 else 0)) (nI (a + 1))) nb ?_ ?_ nb N z false (by omega) (by omega) ?_
  · intro m i s hi hI
    have g : ¬ nI nb ≤ nI i := nI_ge hi (by omega)
    cases s with
    | true =>
      have hn : ¬ ∀ l, l < i → S a l = true → c.testBit l = true := by simpa using hI
      refine ⟨true, ?_, ?_⟩
      · show B_X11_paired_39 N (nI nb) uv un uld uln uvd uvn k6 k24 _ x1 (nI c) x3 (nI a) (wk_bI true) (nI i) = _
        rw [B_X11_paired_39, if_neg g, if_neg (show ¬ wk_bI true = 0 by decide), p_nm, nI_1]
        rfl
      · rw [decide_eq_false (fun h => hn (fun l hl => h l (by omega)))]; rfl
    | false =>
      have hn : ∀ l, l < i → S a l = true → c.testBit l = true := by simpa using hI
      cases hb : c.testBit i with
      | true =>
        refine ⟨false, ?_, ?_⟩
        · show B_X11_paired_39 N (nI nb) uv un uld uln uvd uvn k6 k24 _ x1 (nI c) x3 (nI a) (wk_bI false) (nI i) = _
          rw [B_X11_paired_39, if_neg g, if_pos (show wk_bI false = 0 from rfl), p_has11 N (by omega) (by omega), p_b1, hb, if_neg (show ¬ wk_bI true = 0 by decide), p_nm, nI_1]
          rfl
        · rw [decide_eq_true (fun l hl hs => by
            by_cases d : l = i
            · subst d; exact hb
            · exact hn l (by omega) hs)]
          rfl
      | false =>
        cases hs : S a i with
        | true =>
          refine ⟨true, ?_, ?_⟩
          · show B_X11_paired_39 N (nI nb) uv un uld uln uvd uvn k6 k24 _ x1 (nI c) x3 (nI a) (wk_bI false) (nI i) = _
            rw [B_X11_paired_39, if_neg g, if_pos (show wk_bI false = 0 from rfl), p_has11 N (by omega) (by omega), p_b1, hb, if_pos (show wk_bI false = 0 from rfl), hS a ha i hi, p_b1, hs, if_neg (show ¬ wk_bI true = 0 by decide), p_nm, nI_1]
            rfl
          · rw [decide_eq_false (fun h => by have := h i (by omega) hs; rw [hb] at this; cases this)]; rfl
        | false =>
          refine ⟨false, ?_, ?_⟩
          · show B_X11_paired_39 N (nI nb) uv un uld uln uvd uvn k6 k24 _ x1 (nI c) x3 (nI a) (wk_bI false) (nI i) = _
            rw [B_X11_paired_39, if_neg g, if_pos (show wk_bI false = 0 from rfl), p_has11 N (by omega) (by omega), p_b1, hb, if_pos (show wk_bI false = 0 from rfl), hS a ha i hi, p_b1, hs, if_pos (show wk_bI false = 0 from rfl), p_nm, nI_1]
            rfl
          · rw [decide_eq_true (fun l hl h => by
              by_cases d : l = i
              · subst d; rw [hs] at h; cases h
              · exact hn l (by omega) h)]
            rfl
  · intro m s hI
    show B_X11_paired_39 N (nI nb) uv un uld uln uvd uvn k6 k24 _ x1 (nI c) x3 (nI a) (wk_bI s) (nI nb) = _
    have hI' : s = p_out S nb c a := hI
    rw [B_X11_paired_39, if_pos (nI_le (Nat.le_refl nb) (by omega)), ← hI']
    cases s with
    | true => rw [if_neg (show ¬ wk_bI true = 0 by decide), p_nm, p_nm, nI_1, if_pos rfl]
    | false => rw [if_pos (show wk_bI false = 0 from rfl), p_nm, p_nm, nI_1, if_neg (by decide)]
  · subst hz
    rw [decide_eq_true (fun l hl => absurd hl (by omega))]; rfl
/-- the check's set: its size and those struck from outside -/
theorem p_pset (N : Nat) (hN : 41 ≤ N) {un : Int32} {uld : Nat → Int32} {uln : Nat → Int64} {uvd : Nat → Int32} {uvn : Nat → Int64} {na nb : Nat} (hna : na ≤ 12) (hnb : nb ≤ 8) {S : Nat → Nat → Bool} (hS : ∀ a, a < na → ∀ b, b < nb → f_X11_strikes1 N un uld uln uvd uvn (nI a) (nI b) = some (S a b)) {c q s : Nat} (hc : c < 256) (hq : q ≤ 8) (hs : s < 2000) (k6 : Int32 → Int32 → Option Int32) :
    wk_loop (fun k24 : Int32 → Int32 → Int32 → Int32 → Option Int32 => B_X11_paired_24 N (nI nb) (nI na) un uld uln uvd uvn k6 k24) (fun _ _ _ _ => none) N (nI s) (nI c) (nI q) (0 : Int32) = k6 (nI (min s (q + p_cnt (p_out S nb c) na))) (nI (c + 1)) := by
  obtain ⟨z, hz⟩ : ∃ z : Nat, z = 0 := ⟨_, rfl⟩
  have hz0 : nI z = 0 := by rw [hz]; rfl
  rw [← hz0]
  refine p_run (σ := Nat)
    (W := fun m i t => wk_loop (fun k24 : Int32 → Int32 → Int32 → Int32 → Option Int32 => B_X11_paired_24 N (nI nb) (nI na) un uld uln uvd uvn k6 k24) (fun _ _ _ _ => none) m (nI s) (nI c) (nI t) (nI i))
    (fun i t => t = q + p_cnt (p_out S nb c) i)
    (fun A => A = k6 (nI (min s (q + p_cnt (p_out S nb c) na))) (nI (c + 1))) na ?_ ?_ na N z q (by omega) (by omega) (by subst hz; rfl)
  · intro m i t hi hI
    refine ⟨t + (if p_out S nb c i = true then 1 else 0), ?_, by rw [p_cnt_s, hI]; omega⟩
    show B_X11_paired_24 N (nI nb) (nI na) un uld uln uvd uvn k6 _ (nI s) (nI c) (nI t) (nI i) = _
    rw [B_X11_paired_24, if_neg (nI_ge hi (by omega)), p_pin N hN hnb hS hi hc]
    by_cases a : p_out S nb c i = true
    · rw [if_pos a, if_pos a, nI_1]
    · rw [if_neg a, if_neg a, Int32.add_zero]; rfl
  · intro m t hI
    show B_X11_paired_24 N (nI nb) (nI na) un uld uln uvd uvn k6 _ (nI s) (nI c) (nI t) (nI na) = _
    have hc2 := p_cnt_le (p_out S nb c) na
    rw [B_X11_paired_24, if_pos (nI_le (Nat.le_refl na) (by omega)), hI]
    by_cases a : s ≤ q + p_cnt (p_out S nb c) na
    · rw [if_pos (nI_le a (by omega)), p_nm, nI_1, Nat.min_eq_left a]
    · rw [if_neg (nI_ge (by omega) (by omega)), p_nm, nI_1, Nat.min_eq_right (by omega)]
theorem p_pc8_le (c : Nat) : p_pc8 c ≤ 8 := p_cnt_le _ 8
theorem p_pow1 : ∀ n, n ≤ 8 → (1 : Int32) <<< (nI n &&& 31) = nI (2 ^ n) := by decide
theorem p_pc8_full : ∀ n, n ≤ 8 → p_pc8 (2 ^ n - 1) = n := by decide
theorem p_tb_full : ∀ n, n ≤ 8 → ∀ l, l < n → (2 ^ n - 1).testBit l = true := by decide
theorem q_paired (N : Nat) (hN : 1001 ≤ N) {th : Int32} {al : Nat → Int32} {lim ls : Int32} {ld ll sg : Nat → Int32} {vlim vs : Int32} {vc vd vl : Nat → Int32} {ul uv un : Int32} {uld : Nat → Int32} {uln : Nat → Int64} {uvc uvd : Nat → Int32} {uvn : Nat → Int64} {na nb : Nat} (hR : RRoll th al lim ls ld ll sg vlim vs vc vd vl ul uv un uld uln uvc uvd uvn na nb) (sk : Nat → Int32) :
    ∃ r o, f_X5_paired N th ls sg vs sk = some (r, o) ∧ f_X11_paired N ul uv un uld uln uvd uvn = some r := by
  obtain ⟨S, hS⟩ := p_strS N (by omega) hR
  obtain ⟨hb, ha, rfl, rfl, -, rfl, rfl, -⟩ := hR
  unfold f_X5_paired f_X11_paired
  obtain ⟨z, hz⟩ : ∃ z : Nat, z = 0 := ⟨_, rfl⟩
  have hz0 : nI z = 0 := by rw [hz]; rfl
  rw [← hz0, show (1000 : Int32) = nI 1000 from rfl]
  have hp : 2 ^ nb ≤ 256 := by
    have : 2 ^ nb ≤ 2 ^ 8 := Nat.pow_le_pow_right (by omega) hb
    exact this
  -- first who is struck by whom
  refine p_run (σ := Nat → Int32)
    (W := fun m i s => wk_loop (fun k2 : (Nat → Int32) → Int32 → Option (Int32 × (Nat → Int32)) => B_X5_paired_2 N th (nI nb) sg (nI na) k2) (fun _ _ => none) m s (nI i))
    (fun i s => ∀ a, a < i → s a = nI (p_bits (S a) nb))
    (fun A => ∃ r o, A = some (r, o) ∧ wk_loop (fun k6 : Int32 → Int32 → Option Int32 => B_X11_paired_6 N (nI nb) (nI na) un uld uln uvd uvn k6) (fun _ _ => none) N (nI 1000) (nI z) = some r) na ?_ ?_ na N z sk (by omega) (by omega) (fun a h => absurd h (by omega))
  · intro m i s hi hI
    refine ⟨upd s i (nI (p_bits (S i) nb)), ?_, fun a h => ?_⟩
    · show B_X5_paired_2 N th (nI nb) sg (nI na) _ s (nI i) = _
      rw [B_X5_paired_2, f_X2_size, p_b1, if_neg (nI_ge hi (by omega)), p_strOf N (by omega) ha hb (fun a h b hb' => (hS a h b hb').1) hi, p_b1, p_set (by omega) (by omega), p_b1, p_nm, nI_1]
    · by_cases c : a = i
      · subst c; exact pk_us
      · rw [pk_un c]; exact hI a (by omega)
  · intro m s hI
    show ∃ r o, B_X5_paired_2 N th (nI nb) sg (nI na) _ s (nI na) = some (r, o) ∧ _
    rw [B_X5_paired_2, f_X2_size, p_b1, if_pos (nI_le (Nat.le_refl na) (by omega)), f_X2_size, p_b1, ← hz0]
    -- then the sets
    refine p_sim (σ := Nat) (τ := Nat)
      (W := fun m i t => wk_loop (fun k42 : (Nat → Int32) → Int32 → Int32 → Option (Int32 × (Nat → Int32)) => B_X5_paired_42 N th (nI nb) sg (nI na) k42) (fun _ _ _ => none) m s (nI t) (nI i))
      (V := fun m i t => wk_loop (fun k6 : Int32 → Int32 → Option Int32 => B_X11_paired_6 N (nI nb) (nI na) un uld uln uvd uvn k6) (fun _ _ => none) m (nI t) (nI i))
      (fun i t t' => ∃ M, t = min nb M ∧ t' = min 1000 M ∧ ∀ c, c < i → M ≤ p_pc8 c + p_cnt (p_out S nb c) na)
      (fun A B => ∃ r o, A = some (r, o) ∧ B = some r) (2 ^ nb) ?_ ?_ (2 ^ nb) N N z nb 1000 (by omega) (by omega) (by omega) ⟨2000, by omega, by omega, fun c h => absurd h (by omega)⟩
    · intro m m' i t t' hi hI2
      obtain ⟨M, ht, ht', hM⟩ := hI2
      have hcl := p_cnt_le (p_out S nb i) na
      have hpl := p_pc8_le i
      refine ⟨min t (p_pc8 i + p_cnt (p_out S nb i) na), min t' (p_pc8 i + p_cnt (p_out S nb i) na), ?_, ?_, min M (p_pc8 i + p_cnt (p_out S nb i) na), by omega, by omega, fun c h => ?_⟩
      · show B_X5_paired_42 N th (nI nb) sg (nI na) _ s (nI t) (nI i) = _
        rw [B_X5_paired_42, f_X2_size, p_b1, p_pow1 nb hb, if_neg (nI_ge hi (by omega)), show f_J6_bitCount_0f7a4 N (nI i) = f_J6_bitCount_0f7a4 0 (nI i) from rfl, p_bc8 i (by omega), p_b1, p_strBeside N (by omega) ha hb (by omega) hI, p_b1, nI_add, p_nm, p_nm, nI_1]
        by_cases a : p_pc8 i + p_cnt (p_out S nb i) na < t
        · rw [if_pos (nI_lt a (by omega)), Nat.min_eq_right (by omega)]
        · rw [if_neg (nI_nlt (by omega) (by omega)), Nat.min_eq_left (by omega)]
      · show B_X11_paired_6 N (nI nb) (nI na) un uld uln uvd uvn _ (nI t') (nI i) = _
        rw [B_X11_paired_6, p_pow1 nb hb, if_neg (nI_ge hi (by omega)), p_size N (by omega) (by omega), p_b1, p_pset N (by omega) ha hb (fun a h b hb' => (hS a h b hb').2) (by omega) hpl (by omega)]
      · by_cases d : c = i
        · subst d; omega
        · have := hM c (by omega); omega
    · intro m m' t t' hI2
      obtain ⟨M, ht, ht', hM⟩ := hI2
      have hone : 1 ≤ 2 ^ nb := Nat.one_le_two_pow
      have hfull := hM (2 ^ nb - 1) (by omega)
      have hzero : p_cnt (p_out S nb (2 ^ nb - 1)) na = 0 := by
        have : ∀ k, p_cnt (p_out S nb (2 ^ nb - 1)) k = 0 := by
          intro k
          induction k with
          | zero => rfl
          | succ k ih =>
            rw [p_cnt_s, ih, if_neg]
            unfold p_out
            rw [decide_eq_true (fun l hl _ => p_tb_full nb hb l hl)]
            decide
        exact this na
      rw [p_pc8_full nb hb, hzero] at hfull
      have e : t = t' := by omega
      subst e
      refine ⟨nI t, s, ?_, ?_⟩
      · show B_X5_paired_42 N th (nI nb) sg (nI na) _ s (nI t) (nI (2 ^ nb)) = _
        rw [B_X5_paired_42, f_X2_size, p_b1, p_pow1 nb hb, if_pos (nI_le (Nat.le_refl _) (by omega))]
      · show B_X11_paired_6 N (nI nb) (nI na) un uld uln uvd uvn _ (nI t) (nI (2 ^ nb)) = _
        rw [B_X11_paired_6, p_pow1 nb hb, if_pos (nI_le (Nat.le_refl _) (by omega))]
theorem q_strikes (N : Nat) (hN : 1001 ≤ N) {th : Int32} {al : Nat → Int32} {lim ls : Int32} {ld ll sg : Nat → Int32} {vlim vs : Int32} {vc vd vl : Nat → Int32} {ul uv un : Int32} {uld : Nat → Int32} {uln : Nat → Int64} {uvc uvd : Nat → Int32} {uvn : Nat → Int64} {na nb : Nat} (hR : RRoll th al lim ls ld ll sg vlim vs vc vd vl ul uv un uld uln uvc uvd uvn na nb) (sk : Nat → Int32) (x y : Int32) :
    ∃ r o, f_X10_strikes N 8 12 12 th al ls ld sg vs vc vd sk x y = some (r, o) ∧ f_X11_strikes N ul uv un uld uln uvc uvd uvn x y = some r := by
  have fd : ¬ wk_bI true = 0 := by decide
  have fe : wk_bI false = 0 := rfl
  have hca : f_X10_isCountyOrAll N x = some (decide (0 ≤ x.toInt ∧ x.toInt ≤ 5)) := by
    unfold f_X10_isCountyOrAll
    rw [p_isCounty, p_b1]
    by_cases a : x = 5
    · subst a; rfl
    · have a' : ¬ x.toInt = 5 := fun q => a (Int32.toInt_inj.mp q)
      rw [if_neg a]
      by_cases b : 0 ≤ x.toInt ∧ x.toInt ≤ 4
      · rw [decide_eq_true b, if_neg fd, decide_eq_true (by omega)]
      · rw [decide_eq_false b, if_pos fe, decide_eq_false (by omega)]
  unfold f_X10_strikes f_X11_strikes
  rw [p_isWhat, p_b1, p_inI, p_b1, show (3 : Int32).toInt = 3 from rfl, show (0 : Int64).toInt = 0 from rfl, show (2 : Int64).toInt = 2 from rfl]
  by_cases a : 0 ≤ y.toInt ∧ y.toInt ≤ 2
  · rw [decide_eq_true (by omega), decide_eq_true a, if_neg fd, if_neg fd]
    by_cases b : y = 2
    · rw [if_pos b, if_pos (by rw [b]; decide), B_X11_strikes_31, if_pos b]
      obtain ⟨r, o, e1, e2⟩ := q_paired N hN hR sk
      rw [e1, e2]
      exact ⟨r, o, rfl, rfl⟩
    · have b' : ¬ y.toInt = 2 := fun q => b (Int32.toInt_inj.mp q)
      rw [if_neg b, if_neg (show ¬ (2 : Int32) ≤ y by rw [p_toInt_le, show (2 : Int32).toInt = 2 from rfl]; omega), hca, p_b1, p_inI, p_b1, show (0 : Int64).toInt = 0 from rfl, show (5 : Int64).toInt = 5 from rfl]
      by_cases c : 0 ≤ x.toInt ∧ x.toInt ≤ 5
      · rw [decide_eq_true c, if_neg fd, if_neg fd, B_X11_strikes_31, if_neg b]
        obtain ⟨r, e1, e2⟩ := q_struckIn N (by omega) hR x y
        by_cases d : y = 0
        · rw [if_neg (show ¬ y = 1 by rw [d]; decide), B_X10_strikes_47]
          rw [if_pos d] at e1
          rw [e1, e2]
          exact ⟨r, sk, rfl, rfl⟩
        · have d' : ¬ y.toInt = 0 := fun q => d (Int32.toInt_inj.mp q)
          rw [if_pos (show y = 1 from Int32.toInt_inj.mp (by show y.toInt = 1; omega)), B_X10_strikes_47]
          rw [if_neg d] at e1
          rw [e1, e2]
          exact ⟨r, sk, rfl, rfl⟩
      · rw [decide_eq_false c, if_pos fe, if_pos fe]
        exact ⟨_, _, rfl, rfl⟩
  · rw [decide_eq_false (by omega), decide_eq_false a, if_pos fe, if_pos fe]
    exact ⟨_, _, rfl, rfl⟩
