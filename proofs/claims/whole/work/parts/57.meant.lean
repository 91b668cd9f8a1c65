/-! PURE: meant -/
def p_bits (f : Nat → Bool) : Nat → Nat | 0 => 0 | k + 1 => p_bits f k + (if f k then 2 ^ k else 0)
theorem p_bits_s (f : Nat → Bool) (k : Nat) : p_bits f (k + 1) = p_bits f k + (if f k then 2 ^ k else 0) := rfl
theorem p_bits_lt (f : Nat → Bool) : ∀ k, p_bits f k < 2 ^ k
  | 0 => by show 0 < 1; decide
  | k + 1 => by
    have := p_bits_lt f k
    rw [p_bits_s, Nat.pow_succ]
    by_cases h : f k = true
    · rw [if_pos h]; omega
    · rw [if_neg h]; omega
theorem p_bits_b : ∀ a b c d : Bool, ∀ h, h < 4 → ((((0 + (if a then 2 ^ 0 else 0)) + (if b then 2 ^ 1 else 0)) + (if c then 2 ^ 2 else 0)) + (if d then 2 ^ 3 else 0) = 2 ^ h ↔ ((a = true ↔ 0 = h) ∧ (b = true ↔ 1 = h) ∧ (c = true ↔ 2 = h) ∧ (d = true ↔ 3 = h))) := by
  intro a b c d
  cases a <;> cases b <;> cases c <;> cases d <;> decide
theorem p_bits_1 (f : Nat → Bool) {h : Nat} (hh : h < 4) : p_bits f 4 = 2 ^ h ↔ ∀ g, g < 4 → (f g = true ↔ g = h) := by
  have e := p_bits_b (f 0) (f 1) (f 2) (f 3) h hh
  refine Iff.trans e ⟨fun w g hg => ?_, fun w => ⟨w 0 (by decide), w 1 (by decide), w 2 (by decide), w 3 (by decide)⟩⟩
  rcases (show g = 0 ∨ g = 1 ∨ g = 2 ∨ g = 3 by omega) with rfl | rfl | rfl | rfl
  · exact w.1
  · exact w.2.1
  · exact w.2.2.1
  · exact w.2.2.2
theorem p_or0 : ∀ a, a < 16 → nI a ||| (0 : Int32) = nI a := by decide
theorem p_and4 : ∀ a, a < 16 → ∀ b, b < 16 → nI a &&& nI b = nI (a &&& b) := by decide
theorem p_bc : ∀ b, b < 16 → f_J6_bitCount_0f7a4 0 (nI b) = some (nI (p_pc b)) := by decide
def p_al (a b : Nat) : Nat := if p_pc a = 1 ∧ b = a then a else 0
theorem p_al_1 : ∀ a, a < 16 → ∀ b, b < 16 → ∀ h, h < 4 → (p_al a b = 2 ^ h ↔ a = 2 ^ h ∧ b = 2 ^ h) := by decide
theorem p_al_5 : ∀ a, a < 16 → ∀ b, b < 16 → (p_al a b = 0 ∨ p_al a b = 1 ∨ p_al a b = 2 ∨ p_al a b = 4 ∨ p_al a b = 8) := by decide
theorem p_pcn : ∀ a, a < 16 → (nI (p_pc a) = (1 : Int32) ↔ p_pc a = 1) := by decide
theorem p_n16 : ∀ a, a < 16 → ∀ b, b < 16 → (nI a = nI b ↔ a = b) := by decide
/-- the bits of a race's holes that are so far open -/
def p_fr (s : Nat → Nat) (c r t h : Nat) : Bool := decide (t ≤ s (12 * c + 4 * r + h))
theorem q_bits (N : Nat) (hN : 41 ≤ N) {st : Nat → Int32} {s : Nat → Nat} {n c r t : Nat} (hn : n ≤ 40) (hs : ∀ j, j < 12 * n → st j = nI (s j) ∧ s j < 6) (hc : c < n) (hr : r < 3) (ht : t < 6) : f_X3_bitsFrom N st (nI c) (nI r) (nI t) = some (nI (p_bits (p_fr s c r t) 4)) := by
  unfold f_X3_bitsFrom
  obtain ⟨e, he⟩ : ∃ e : Nat, e = 4 := ⟨_, rfl⟩
  obtain ⟨z, hz⟩ : ∃ z : Nat, z = 0 := ⟨_, rfl⟩
  have e0 : wk_loop (fun k6 : Int32 → Int32 → Int32 → Int32 → Int32 → Option Int32 => B_X3_bitsFrom_6 N st k6) (fun _ _ _ _ _ => none) N (nI c) (nI r) (nI t) (0 : Int32) (0 : Int32) = wk_loop (fun k6 : Int32 → Int32 → Int32 → Int32 → Int32 → Option Int32 => B_X3_bitsFrom_6 N st k6) (fun _ _ _ _ _ => none) N (nI c) (nI r) (nI t) (nI (p_bits (p_fr s c r t) z)) (nI z) := by rw [hz]; rfl
  rw [e0]
  refine p_run (σ := Unit) (W := fun m i _ => wk_loop (fun k6 : Int32 → Int32 → Int32 → Int32 → Int32 → Option Int32 => B_X3_bitsFrom_6 N st k6) (fun _ _ _ _ _ => none) m (nI c) (nI r) (nI t) (nI (p_bits (p_fr s c r t) i)) (nI i)) (fun _ _ => True) (fun A => A = some (nI (p_bits (p_fr s c r t) 4))) e ?_ ?_ 4 N z () (by omega) (by omega) trivial
  · intro m i _ hi _
    refine ⟨(), ?_, trivial⟩
    have g : ¬ (4 : Int32) ≤ nI i := nI_ge (b := 4) (by omega) (by omega)
    obtain ⟨h1, h2⟩ := hs (12 * c + 4 * r + i) (by omega)
    have hb := p_bits_lt (p_fr s c r t) i
    have hb8 : p_bits (p_fr s c r t) i < 8 := by
      rcases (show i = 0 ∨ i = 1 ∨ i = 2 ∨ i = 3 by omega) with rfl | rfl | rfl | rfl <;> omega
    show B_X3_bitsFrom_6 N st _ (nI c) (nI r) (nI t) _ (nI i) = _
    rw [B_X3_bitsFrom_6, if_neg g]
    unfold f_X3_state
    rw [p_place, p_get (by omega) (by omega), p_b1, p_b1, h1, p_bits_s]
    by_cases q : s (12 * c + 4 * r + i) < t
    · rw [if_pos (nI_lt q (by omega)), p_nm, nI_1, if_neg (show ¬ p_fr s c r t i = true from fun w => by have := of_decide_eq_true w; omega)]
      simp only [Nat.add_zero]
    · rw [if_neg (nI_nlt (by omega) (by omega)), p_nm, p_nm, nI_1, (p_bit i (by omega) _ hb8 hb).1, if_pos (show p_fr s c r t i = true from decide_eq_true (by omega))]
  · intro m _ _
    subst he
    show B_X3_bitsFrom_6 N st _ (nI c) (nI r) (nI t) _ (nI 4) = _
    rw [B_X3_bitsFrom_6, if_pos (by decide)]
theorem q_alone (N : Nat) (hN : 41 ≤ N) {st : Nat → Int32} {s : Nat → Nat} {n c r : Nat} (hn : n ≤ 40) (hs : ∀ j, j < 12 * n → st j = nI (s j) ∧ s j < 6) (hc : c < n) (hr : r < 3) : f_X3_goneAlone N st (nI c) (nI r) = some (nI (p_al (p_bits (p_fr s c r 5) 4) (p_bits (p_fr s c r 1) 4))) := by
  have h5 := p_bits_lt (p_fr s c r 5) 4
  have h1 := p_bits_lt (p_fr s c r 1) 4
  unfold f_X3_goneAlone
  rw [show (5 : Int32) = nI 5 from rfl, q_bits N hN hn hs hc hr (by decide), p_b1, show ∀ x, f_J6_bitCount_0f7a4 N x = f_J6_bitCount_0f7a4 0 x from fun _ => rfl, p_bc _ (by omega), p_b1, show f_X3_bitsFrom N st (nI c) (nI r) (1 : Int32) = some (nI (p_bits (p_fr s c r 1) 4)) from q_bits N hN hn hs hc hr (t := 1) (by decide), p_b1]
  unfold B_X3_goneAlone_32 p_al
  by_cases a : p_pc (p_bits (p_fr s c r 5) 4) = 1
  · rw [if_pos ((p_pcn _ (by omega)).mpr a)]
    by_cases b : p_bits (p_fr s c r 1) 4 = p_bits (p_fr s c r 5) 4
    · rw [if_pos (by rw [b]), if_neg (by decide), if_pos ⟨a, b⟩]
    · rw [if_neg (fun w => b ((p_n16 _ (by omega) _ (by omega)).mp w)), if_pos rfl, if_neg (fun w => b w.2)]
      rfl
  · rw [if_neg (fun w => a ((p_pcn _ (by omega)).mp w)), if_pos rfl, if_neg (fun w => a w.1)]
    rfl
def p_an (G : Nat → Nat) (r : Nat) : Nat → Nat | 0 => 15 | k + 1 => if k = r then p_an G r k else p_an G r k &&& G k
theorem p_an_lt (G : Nat → Nat) (r : Nat) : ∀ k, p_an G r k < 16
  | 0 => by show 15 < 16; decide
  | k + 1 => by
    have := p_an_lt G r k
    show (if k = r then p_an G r k else p_an G r k &&& G k) < 16
    by_cases h : k = r
    · rw [if_pos h]; exact this
    · rw [if_neg h]; exact Nat.lt_of_le_of_lt Nat.and_le_left this
theorem q_else (N : Nat) (hN : 41 ≤ N) {st : Nat → Int32} {s : Nat → Nat} {n c r : Nat} (hn : n ≤ 40) (hs : ∀ j, j < 12 * n → st j = nI (s j) ∧ s j < 6) (hc : c < n) (hr : r < 3) : f_X3_meantElsewhere N st (nI c) (nI r) = some (nI (p_an (fun q => p_al (p_bits (p_fr s c q 5) 4) (p_bits (p_fr s c q 1) 4)) r 3)) := by
  unfold f_X3_meantElsewhere
  obtain ⟨G, hG⟩ : ∃ G : Nat → Nat, G = fun q => p_al (p_bits (p_fr s c q 5) 4) (p_bits (p_fr s c q 1) 4) := ⟨_, rfl⟩
  have hG1 : ∀ q, q < 3 → f_X3_goneAlone N st (nI c) (nI q) = some (nI (G q)) := fun q hq => by rw [hG]; exact q_alone N hN hn hs hc hq
  have hG2 : ∀ q, G q < 16 := fun q => by
    have := p_al_5 _ (p_bits_lt (p_fr s c q 5) 4) _ (p_bits_lt (p_fr s c q 1) 4)
    rw [hG]; dsimp only; omega
  rw [← hG]
  obtain ⟨e, he⟩ : ∃ e : Nat, e = 3 := ⟨_, rfl⟩
  obtain ⟨z, hz⟩ : ∃ z : Nat, z = 0 := ⟨_, rfl⟩
  have e0 : wk_loop (fun k6 : Int32 → Int32 → Int32 → Int32 → Option Int32 => B_X3_meantElsewhere_6 N st k6) (fun _ _ _ _ => none) N (nI c) (nI r) (15 : Int32) (0 : Int32) = wk_loop (fun k6 : Int32 → Int32 → Int32 → Int32 → Option Int32 => B_X3_meantElsewhere_6 N st k6) (fun _ _ _ _ => none) N (nI c) (nI r) (nI (p_an G r z)) (nI z) := by rw [hz]; rfl
  rw [e0]
  refine p_run (σ := Unit) (W := fun m i _ => wk_loop (fun k6 : Int32 → Int32 → Int32 → Int32 → Option Int32 => B_X3_meantElsewhere_6 N st k6) (fun _ _ _ _ => none) m (nI c) (nI r) (nI (p_an G r i)) (nI i)) (fun _ _ => True) (fun A => A = some (nI (p_an G r 3))) e ?_ ?_ 3 N z () (by omega) (by omega) trivial
  · intro m i _ hi _
    refine ⟨(), ?_, trivial⟩
    show B_X3_meantElsewhere_6 N st _ (nI c) (nI r) _ (nI i) = _
    have es : p_an G r (i + 1) = if i = r then p_an G r i else p_an G r i &&& G i := rfl
    rw [B_X3_meantElsewhere_6, if_neg (show ¬ (3 : Int32) ≤ nI i from nI_ge (b := 3) (by omega) (by omega)), es]
    by_cases q : i = r
    · rw [if_pos (by rw [q]), if_pos q, p_nm, nI_1]
    · rw [if_neg (fun w => q ((p_nh i (by omega) r (by omega)).mp w)), if_neg q, hG1 i (by omega), p_b1, p_nm, p_nm, nI_1, p_and4 _ (p_an_lt G r i) _ (hG2 i)]
  · intro m _ _
    subst he
    show B_X3_meantElsewhere_6 N st _ (nI c) (nI r) _ (nI 3) = _
    rw [B_X3_meantElsewhere_6, if_pos (by decide)]
theorem p_an3 : ∀ a, a < 16 → ∀ b, b < 16 → (a = 0 ∨ a = 1 ∨ a = 2 ∨ a = 4 ∨ a = 8) → (b = 0 ∨ b = 1 ∨ b = 2 ∨ b = 4 ∨ b = 8) → (15 &&& a) &&& b = if a = b then a else 0 := by
  intro a _ b _ u v
  rcases u with rfl | rfl | rfl | rfl | rfl <;> rcases v with rfl | rfl | rfl | rfl | rfl <;> decide
/-- the check's bits: hole by hole -/
def p_fl (G : Nat → Nat) (r h : Nat) : Bool := decide ((0 = r ∨ G 0 = 2 ^ h) ∧ (1 = r ∨ G 1 = 2 ^ h) ∧ (2 = r ∨ G 2 = 2 ^ h))
theorem p_fl_1 (G : Nat → Nat) (r h : Nat) : (p_fl G r h = true) ↔ ∀ q, q < 3 → (q = r ∨ G q = 2 ^ h) := by
  unfold p_fl
  rw [decide_eq_true_iff]
  refine ⟨fun w q hq => ?_, fun w => ⟨w 0 (by decide), w 1 (by decide), w 2 (by decide)⟩⟩
  rcases (show q = 0 ∨ q = 1 ∨ q = 2 by omega) with rfl | rfl | rfl
  · exact w.1
  · exact w.2.1
  · exact w.2.2
theorem p_fl_b (G : Nat → Nat) {r : Nat} (hr : r < 3) (hG : ∀ q, G q = 0 ∨ G q = 1 ∨ G q = 2 ∨ G q = 4 ∨ G q = 8) : p_bits (p_fl G r) 4 = p_an G r 3 := by
  have two : ∀ a b : Nat, a < 3 → b < 3 → a ≠ r → b ≠ r → (∀ q, q < 3 → q ≠ r → q = a ∨ q = b) → p_bits (p_fl G r) 4 = if G a = G b then G a else 0 := by
    intro a b ha hb har hbr hab
    have e : ∀ h, (p_fl G r h = true) ↔ (G a = 2 ^ h ∧ G b = 2 ^ h) := fun h => by
      rw [p_fl_1]
      exact ⟨fun w => ⟨(w a ha).resolve_left har, (w b hb).resolve_left hbr⟩, fun w q hq => by
        by_cases hqr : q = r
        · exact Or.inl hqr
        · rcases hab q hq hqr with x | x
          · rw [x]; exact Or.inr w.1
          · rw [x]; exact Or.inr w.2⟩
    have u := hG a
    have v := hG b
    show ((((0 + (if p_fl G r 0 then 2 ^ 0 else 0)) + (if p_fl G r 1 then 2 ^ 1 else 0)) + (if p_fl G r 2 then 2 ^ 2 else 0)) + (if p_fl G r 3 then 2 ^ 3 else 0)) = _
    simp only [e]
    rcases u with u | u | u | u | u <;> rcases v with v | v | v | v | v <;> simp [u, v]
  have lt : ∀ q, G q < 16 := fun q => by have := hG q; omega
  rcases (show r = 0 ∨ r = 1 ∨ r = 2 by omega) with rfl | rfl | rfl
  · rw [two 1 2 (by decide) (by decide) (by decide) (by decide) (fun q h1 h2 => by omega)]
    exact (p_an3 _ (lt 1) _ (lt 2) (hG 1) (hG 2)).symm
  · rw [two 0 2 (by decide) (by decide) (by decide) (by decide) (fun q h1 h2 => by omega)]
    exact (p_an3 _ (lt 0) _ (lt 2) (hG 0) (hG 2)).symm
  · rw [two 0 1 (by decide) (by decide) (by decide) (by decide) (fun q h1 h2 => by omega)]
    exact (p_an3 _ (lt 0) _ (lt 1) (hG 0) (hG 1)).symm
