/-! PURE: the text's items -/
def p_nx1 (T : Nat → Nat) (L q : Nat) : Nat := q + 1 + p_fg T L (q + 1)
def p_ats (T : Nat → Nat) (L : Nat) : Nat → Nat → Nat | 0, q => q | k + 1, q => p_ats T L k (p_nx1 T L q)
def p_okn (T : Nat → Nat) (L : Nat) : Nat → Nat → Prop
  | 0, _ => True
  | k + 1, q => p_fg T L (q + 1) ≠ 0 ∧ (p_nx1 T L q < L ∧ T (p_nx1 T L q) = if k = 0 then 59 else 44) ∧ p_okn T L k (p_nx1 T L q)
def p_nth (T : Nat → Nat) (L s j : Nat) : Nat := p_vl T L (p_ats T L j s + 1)
def p_kd (b : Nat) : Nat := if b = 118 then 0 else if b = 100 then 1 else if b = 109 then 2 else if b = 111 then 3 else 4
def p_many (k : Nat) : Nat := if k = 2 then 2 else if k = 3 then 4 else 3
def p_cn (T : Nat → Nat) (L s k : Nat) : Nat := if k = 2 then 5 else p_nth T L s 0
def p_rn (T : Nat → Nat) (L s k : Nat) : Nat := if k = 3 then p_nth T L s 1 else 0
def p_vn (T : Nat → Nat) (L s k : Nat) : Nat := if k = 2 then p_nth T L s 0 else if k = 3 then p_nth T L s 2 else p_nth T L s 1
def p_hn (T : Nat → Nat) (L s k : Nat) : Nat := p_nth T L s (p_many k - 1)
def p_lw (k : Nat) : Nat := if k = 0 then 1 else if k = 2 then 2 else 0
def p_hg (k : Nat) : Nat := if k = 1 then 12 else if k = 3 then 1 else 5
def p_told (T : Nat → Nat) (L s k : Nat) : Prop := p_cn T L s k ≤ 5 ∧ p_rn T L s k < 4 ∧ p_lw k ≤ p_vn T L s k ∧ p_vn T L s k ≤ p_hg k
/-- an item begins at a place -/
def p_IT (T : Nat → Nat) (L s : Nat) : Prop := p_kd (T s) < 4 ∧ p_okn T L (p_many (p_kd (T s))) s ∧ p_told T L s (p_kd (T s))
def p_nxt (T : Nat → Nat) (L s : Nat) : Nat := p_ats T L (p_many (p_kd (T s))) s + 1
theorem p_b8 {a1 a2 a3 a4 a5 a6 a7 a8 δ : Type} (a : a1) (b : a2) (c : a3) (d : a4) (e : a5) (f : a6) (g : a7) (h : a8) (k : a1 → a2 → a3 → a4 → a5 → a6 → a7 → a8 → Option δ) : wk_b8 (some (a, b, c, d, e, f, g, h)) k = k a b c d e f g h := rfl
abbrev p_rdW (N L : Nat) (tb : Nat → Int32) (m : Nat) : Int32 → Int32 → Int32 → Int32 → Int32 → Int32 → (Nat → Int32) → Int32 → Int32 → Int32 → Option (Bool × Int32 × Int32 × Int32 × Int32 × Int32 × Int32 × (Nat → Int32)) :=
  wk_loop (fun k33 : Int32 → Int32 → Int32 → Int32 → Int32 → Int32 → (Nat → Int32) → Int32 → Int32 → Int32 → Option (Bool × Int32 × Int32 × Int32 × Int32 × Int32 × Int32 × (Nat → Int32)) => B_X9_read_33 N (nI L) tb k33) (fun _ _ _ _ _ _ _ _ _ _ => none) m
theorem p_rdW_s (N L : Nat) (tb : Nat → Int32) (m : Nat) (a b c d e f : Int32) (g : Nat → Int32) (x y z : Int32) : p_rdW N L tb (m + 1) a b c d e f g x y z = B_X9_read_33 N (nI L) tb (p_rdW N L tb m) a b c d e f g x y z := rfl
/-- the class's numbers of an item -/
theorem p_rdl (N : Nat) (hN : 41 ≤ N) {L : Nat} (hL : L ≤ 200) {tb : Nat → Int32} {T : Nat → Nat} (hT : ∀ k, k < L → T k < 256 ∧ tb k = nI (T k)) (bh kd cy rk vl hr : Int32) {m : Nat} (hm : m ≤ 4) : ∀ (k M i q : Nat) (nm : Nat → Int32), i + k = m → k < M → q < L →
    (p_okn T L k q → ∃ nm', p_rdW N L tb M bh kd cy rk vl hr nm (nI m) (nI (q + 1)) (nI i) =
      (wk_b4 (f_X9_tellNumbers N kd nm' cy rk vl hr) (fun (o7_0 : Int32) (o7_1 : Int32) (o7_2 : Int32) (o7_3 : Int32) => wk_b1 (f_X9_isTold N kd o7_0 o7_1 o7_2 o7_3) (fun (r8 : Bool) => some (r8, nI (p_ats T L k q + 1), kd, o7_0, o7_1, o7_2, o7_3, nm')))) ∧
      (∀ j, j < i → nm' j = nm j) ∧ ∀ j, j < k → nm' (i + j) = nI (p_nth T L q j)) ∧
    (¬ p_okn T L k q → ∃ nm', p_rdW N L tb M bh kd cy rk vl hr nm (nI m) (nI (q + 1)) (nI i) = some (false, bh, kd, cy, rk, vl, hr, nm')) := by
  intro k
  induction k with
  | zero =>
    intro M i q nm h1 h2 h3
    obtain ⟨n, rfl⟩ : ∃ n, M = n + 1 := ⟨M - 1, by omega⟩
    refine ⟨fun _ => ⟨nm, ?_, fun _ _ => rfl, fun j hj => absurd hj (by omega)⟩, fun h => absurd trivial h⟩
    rw [p_rdW_s, B_X9_read_33, if_pos (nI_le (by omega) (by omega))]
    rfl
  | succ k ih =>
    intro M i q nm h1 h2 h3
    obtain ⟨n, rfl⟩ : ∃ n, M = n + 1 := ⟨M - 1, by omega⟩
    have hf := p_fg_le T L (q + 1)
    have e1 : ∀ (c : Nat), p_rdW N L tb (n + 1) bh kd cy rk vl hr nm (nI m) (nI (q + 1)) (nI i) = B_X9_read_68 N (nI L) tb (p_rdW N L tb n) bh kd cy rk vl hr (upd nm i (nI (p_vl T L (q + 1)))) (nI m) (nI (p_nx1 T L q)) (nI i) (nI (p_fg T L (q + 1))) (nI (if k = 0 then 59 else 44)) := by
      intro c
      rw [p_rdW_s, B_X9_read_33, if_neg (nI_ge (by omega) (by omega)), p_rdn N hN hL hT nm (by omega) (by omega), p_b2, p_nm, nI_add, nI_1]
      by_cases a : k = 0
      · rw [if_pos (nI_le (by omega) (by omega)), if_pos a]; rfl
      · rw [if_neg (nI_ge (by omega) (by omega)), if_neg a]; rfl
    rw [e1 0]
    by_cases a : p_fg T L (q + 1) = 0
    · refine ⟨fun h => absurd a h.1, fun _ => ?_⟩
      rw [B_X9_read_68, a, if_pos (show nI 0 = 0 from rfl)]
      exact ⟨_, rfl⟩
    · by_cases b : p_nx1 T L q < L ∧ T (p_nx1 T L q) = if k = 0 then 59 else 44
      · have e2 : B_X9_read_68 N (nI L) tb (p_rdW N L tb n) bh kd cy rk vl hr (upd nm i (nI (p_vl T L (q + 1)))) (nI m) (nI (p_nx1 T L q)) (nI i) (nI (p_fg T L (q + 1))) (nI (if k = 0 then 59 else 44)) = p_rdW N L tb n bh kd cy rk vl hr (upd nm i (nI (p_vl T L (q + 1)))) (nI m) (nI (p_nx1 T L q + 1)) (nI (i + 1)) := by
          rw [B_X9_read_68, if_neg (nI_ne0 (by omega) (by omega)), p_byteAt N hL hT (by omega), p_b1, if_pos b.1, b.2, if_pos rfl, p_nm, p_nm, nI_1, nI_1]
        rw [e2]
        obtain ⟨h4, h5⟩ := ih n (i + 1) (p_nx1 T L q) (upd nm i (nI (p_vl T L (q + 1)))) (by omega) (by omega) b.1
        refine ⟨fun h => ?_, fun h => h5 (fun c => h ⟨a, b, c⟩)⟩
        obtain ⟨nm', g1, g2, g3⟩ := h4 h.2.2
        refine ⟨nm', g1, fun j hj => by rw [g2 j (by omega), pk_un (by omega)], fun j hj => ?_⟩
        by_cases hj0 : j = 0
        · subst hj0
          rw [Nat.add_zero, g2 i (by omega), pk_us]
          rfl
        · obtain ⟨j', rfl⟩ : ∃ j', j = j' + 1 := ⟨j - 1, by omega⟩
          have := g3 j' (by omega)
          rw [show i + (j' + 1) = i + 1 + j' by omega, this]
          rfl
      · refine ⟨fun h => absurd h.2.1 b, fun _ => ?_⟩
        rw [B_X9_read_68, if_neg (nI_ne0 (by omega) (by omega)), p_byteAt N hL hT (by unfold p_nx1; omega), p_b1]
        by_cases c : p_nx1 T L q < L
        · rw [if_pos c, if_neg]
          · exact ⟨_, rfl⟩
          · intro d
            have h256 := (hT _ c).1
            exact b ⟨c, (nI_eq (by omega) (by split <;> omega)).mp d⟩
        · rw [if_neg c, if_neg]
          · exact ⟨_, rfl⟩
          · intro d
            by_cases a0 : k = 0
            · rw [if_pos a0] at d; exact absurd d (by decide)
            · rw [if_neg a0] at d; exact absurd d (by decide)
/-- the numbers told -/
theorem p_tell (N : Nat) {T : Nat → Nat} {L s k : Nat} (hk : k < 4) {nm : Nat → Int32} (hn : ∀ j, j < p_many k → nm j = nI (p_nth T L s j)) (cy rk vl hr : Int32) :
    f_X9_tellNumbers N (nI k) nm cy rk vl hr = some (nI (p_cn T L s k), nI (p_rn T L s k), nI (p_vn T L s k), nI (p_hn T L s k)) := by
  have g0 : f_X6_get N 4 nm (0 : Int32) = some (nm 0) := p_get (k := 0) (by omega) (by omega)
  have g1 : f_X6_get N 4 nm (1 : Int32) = some (nm 1) := p_get (k := 1) (by omega) (by omega)
  have g2 : f_X6_get N 4 nm (2 : Int32) = some (nm 2) := p_get (k := 2) (by omega) (by omega)
  have g3 : f_X6_get N 4 nm (3 : Int32) = some (nm 3) := p_get (k := 3) (by omega) (by omega)
  unfold f_X9_tellNumbers p_hn p_cn p_rn p_vn
  rcases (show k = 0 ∨ k = 1 ∨ k = 2 ∨ k = 3 by omega) with rfl | rfl | rfl | rfl
  · rw [if_neg (by decide), B_X9_tellNumbers_13, if_neg (by decide), B_X9_tellNumbers_27, if_pos rfl, g0, p_b1, B_X9_tellNumbers_45, if_pos rfl, B_X9_tellNumbers_65, if_pos rfl, if_pos rfl, B_X9_tellNumbers_90, g1, p_b1, show f_X9_numbersOf N (nI 0) = some 3 from rfl, p_b1, show (3 : Int32) - 1 = 2 by decide, g2, p_b1, hn 0 (by decide), hn 1 (by decide), hn 2 (by decide)]
    rfl
  · rw [if_neg (by decide), B_X9_tellNumbers_13, if_neg (by decide), B_X9_tellNumbers_27, if_pos rfl, g0, p_b1, B_X9_tellNumbers_45, if_pos rfl, B_X9_tellNumbers_65, if_pos rfl, if_pos rfl, B_X9_tellNumbers_90, g1, p_b1, show f_X9_numbersOf N (nI 1) = some 3 from rfl, p_b1, show (3 : Int32) - 1 = 2 by decide, g2, p_b1, hn 0 (by decide), hn 1 (by decide), hn 2 (by decide)]
    rfl
  · rw [if_pos (by decide), B_X9_tellNumbers_13, if_neg (by decide), B_X9_tellNumbers_27, if_neg (by decide), B_X9_tellNumbers_45, if_pos rfl, B_X9_tellNumbers_65, if_neg (by decide), B_X9_tellNumbers_90, g0, p_b1, show f_X9_numbersOf N (nI 2) = some 2 from rfl, p_b1, show (2 : Int32) - 1 = 1 by decide, g1, p_b1, hn 0 (by decide), hn 1 (by decide)]
    rfl
  · rw [if_neg (by decide), B_X9_tellNumbers_13, if_pos (by decide), B_X9_tellNumbers_27, if_pos rfl, g0, p_b1, B_X9_tellNumbers_45, if_neg (by decide), g1, p_b1, B_X9_tellNumbers_65, if_pos rfl, if_neg (by decide), B_X9_tellNumbers_90, g2, p_b1, show f_X9_numbersOf N (nI 3) = some 4 from rfl, p_b1, show (4 : Int32) - 1 = 3 by decide, g3, p_b1, hn 0 (by decide), hn 1 (by decide), hn 2 (by decide), hn 3 (by decide)]
    rfl
theorem p_low9 (N : Nat) {k : Nat} (hk : k < 4) : f_X9_lowest N (nI k) = some (nI (p_lw k)) := by
  rcases (show k = 0 ∨ k = 1 ∨ k = 2 ∨ k = 3 by omega) with rfl | rfl | rfl | rfl <;> rfl
theorem p_high9 (N : Nat) {k : Nat} (hk : k < 4) : f_X9_highest N (nI k) = some (nI (p_hg k)) := by
  rcases (show k = 0 ∨ k = 1 ∨ k = 2 ∨ k = 3 by omega) with rfl | rfl | rfl | rfl <;> rfl
theorem p_lohi {k : Nat} : p_lw k ≤ 2 ∧ p_hg k ≤ 12 := by
  unfold p_lw p_hg
  constructor
  · split <;> (try split) <;> omega
  · split <;> (try split) <;> omega
theorem p_isTold9 (N : Nat) {k c r v h : Nat} (hk : k < 4) (hc : c < 1000) (hr : r < 1000) (hv : v < 1000) (hh : h < 1000) :
    (c ≤ 5 ∧ r < 4 ∧ p_lw k ≤ v ∧ v ≤ p_hg k → f_X9_isTold N (nI k) (nI c) (nI r) (nI v) (nI h) = some true) ∧ (¬ (c ≤ 5 ∧ r < 4 ∧ p_lw k ≤ v ∧ v ≤ p_hg k) → f_X9_isTold N (nI k) (nI c) (nI r) (nI v) (nI h) = some false) := by
  have hlh := p_lohi (k := k)
  have fd : ¬ wk_bI true = 0 := by decide
  have fe : wk_bI false = 0 := rfl
  have hca : f_X10_isCountyOrAll N (nI c) = some (decide (c ≤ 5)) := by
    unfold f_X10_isCountyOrAll
    simp only [p_isCounty, nI_toInt (show c < 2 ^ 31 by omega), p_b1]
    by_cases a : c = 5
    · subst a; exact if_pos (show nI 5 = 5 from rfl)
    · rw [if_neg (show ¬ nI c = 5 from fun d => a ((nI_eq (b := 5) (by omega) (by omega)).mp d))]
      by_cases b : c ≤ 4
      · rw [decide_eq_true (by omega), if_neg fd, decide_eq_true (by omega)]
      · rw [decide_eq_false (by omega), if_pos fe, decide_eq_false (by omega)]
  unfold f_X9_isTold
  rw [hca, p_b1]
  by_cases a : c ≤ 5
  · rw [decide_eq_true a, if_neg fd]
    by_cases b : r < 4
    · rw [if_neg (show ¬ (4 : Int32) ≤ nI r from nI_ge (b := 4) b (by omega)), p_isHour, p_b1, nI_toInt (by omega), decide_eq_true (by omega), if_neg fd, p_low9 N hk, p_b1]
      by_cases d : p_lw k ≤ v
      · rw [if_neg (nI_nlt d (by omega)), p_high9 N hk, p_b1]
        by_cases e : v ≤ p_hg k
        · rw [if_neg (nI_nlt e (by omega))]; exact ⟨fun _ => rfl, fun f => absurd ⟨a, b, d, e⟩ f⟩
        · rw [if_pos (nI_lt (by omega) (by omega))]; exact ⟨fun f => absurd f.2.2.2 e, fun _ => rfl⟩
      · rw [if_pos (nI_lt (by omega) (by omega))]; exact ⟨fun f => absurd f.2.2.1 d, fun _ => rfl⟩
    · rw [if_pos (show (4 : Int32) ≤ nI r from nI_le (a := 4) (by omega) (by omega))]; exact ⟨fun f => absurd f.2.1 b, fun _ => rfl⟩
  · rw [decide_eq_false a, if_pos fe]; exact ⟨fun f => absurd f.1 a, fun _ => rfl⟩
theorem p_kind9 (N : Nat) {b : Nat} (hb : b < 256) : f_X9_kindOf N (nI b) = some (if p_kd b < 4 then nI (p_kd b) else -4) := by
  unfold f_X9_kindOf p_kd
  simp only [show (100 : Int32) = nI 100 from rfl, show (109 : Int32) = nI 109 from rfl, show (111 : Int32) = nI 111 from rfl, show (118 : Int32) = nI 118 from rfl, nI_eq (show b < 2 ^ 31 by omega) (show 100 < 2 ^ 31 by omega), nI_eq (show b < 2 ^ 31 by omega) (show 109 < 2 ^ 31 by omega), nI_eq (show b < 2 ^ 31 by omega) (show 111 < 2 ^ 31 by omega), nI_eq (show b < 2 ^ 31 by omega) (show 118 < 2 ^ 31 by omega)]
  by_cases a : b = 118
  · subst a; rfl
  · by_cases a1 : b = 100
    · subst a1; rfl
    · by_cases a2 : b = 109
      · subst a2; rfl
      · by_cases a3 : b = 111
        · subst a3; rfl
        · simp only [if_neg a, if_neg a1, if_neg a2, if_neg a3]; rfl
theorem p_nth_lt (T : Nat → Nat) (L s j : Nat) : p_nth T L s j < 1000 := p_vl_lt _ _ _
/-- the class's item at a place -/
theorem p_read (N : Nat) (hN : 41 ≤ N) {L : Nat} (hL : L ≤ 200) {tb : Nat → Int32} {T : Nat → Nat} (hT : ∀ k, k < L → T k < 256 ∧ tb k = nI (T k)) (bh kd cy rk vl hr : Int32) (nm : Nat → Int32) {s : Nat} (hs : s < L) :
    (p_IT T L s → ∃ nm', f_X9_read N (nI L) tb bh kd cy rk vl hr nm (nI s) = some (true, nI (p_nxt T L s), nI (p_kd (T s)), nI (p_cn T L s (p_kd (T s))), nI (p_rn T L s (p_kd (T s))), nI (p_vn T L s (p_kd (T s))), nI (p_hn T L s (p_kd (T s))), nm')) ∧
    (¬ p_IT T L s → ∃ b' k' c' r' v' h' nm', f_X9_read N (nI L) tb bh kd cy rk vl hr nm (nI s) = some (false, b', k', c', r', v', h', nm')) := by
  have hk4 : p_kd (T s) ≤ 4 := by unfold p_kd; split <;> (try split) <;> (try split) <;> (try split) <;> omega
  unfold f_X9_read
  rw [p_byteAt N hL hT (by omega), p_b1, if_pos hs, p_kind9 N (hT s hs).1, p_b1]
  by_cases a : p_kd (T s) < 4
  · rw [if_pos a]
    have hnum : f_X9_numbersOf N (nI (p_kd (T s))) = some (nI (p_many (p_kd (T s)))) := by
      rcases (show p_kd (T s) = 0 ∨ p_kd (T s) = 1 ∨ p_kd (T s) = 2 ∨ p_kd (T s) = 3 by omega) with h | h | h | h <;> rw [h] <;> rfl
    have hm : 2 ≤ p_many (p_kd (T s)) ∧ p_many (p_kd (T s)) ≤ 4 := by unfold p_many; split <;> (try split) <;> omega
    rw [hnum, p_b1, if_neg (nI_ne0 (by omega) (by omega)), p_nm, nI_1, show (0 : Int32) = nI 0 from rfl]
    obtain ⟨h1, h2⟩ := p_rdl N hN hL hT bh (nI (p_kd (T s))) cy rk vl hr hm.2 (p_many (p_kd (T s))) N 0 s nm (by omega) (by omega) hs
    by_cases b : p_okn T L (p_many (p_kd (T s))) s
    · obtain ⟨nm', e1, -, e2⟩ := h1 b
      have e3 := p_tell N (T := T) (L := L) (s := s) a (nm := nm') (fun j hj => by have := e2 j hj; rwa [Nat.zero_add] at this) cy rk vl hr
      rw [e3, p_b4] at e1
      have hcn : p_cn T L s (p_kd (T s)) < 1000 := by unfold p_cn; split; omega; exact p_nth_lt _ _ _ _
      have hrn : p_rn T L s (p_kd (T s)) < 1000 := by unfold p_rn; split; exact p_nth_lt _ _ _ _; omega
      have hvn : p_vn T L s (p_kd (T s)) < 1000 := by unfold p_vn; split; exact p_nth_lt _ _ _ _; split; exact p_nth_lt _ _ _ _; exact p_nth_lt _ _ _ _
      obtain ⟨t1, t2⟩ := p_isTold9 N a hcn hrn hvn (p_nth_lt T L s (p_many (p_kd (T s)) - 1))
      by_cases c : p_told T L s (p_kd (T s))
      · have e4 := t1 c
        rw [show p_hn T L s (p_kd (T s)) = p_nth T L s (p_many (p_kd (T s)) - 1) from rfl, e4, p_b1] at e1
        exact ⟨fun _ => ⟨nm', e1⟩, fun d => absurd ⟨a, b, c⟩ d⟩
      · have e4 := t2 c
        rw [show p_hn T L s (p_kd (T s)) = p_nth T L s (p_many (p_kd (T s)) - 1) from rfl, e4, p_b1] at e1
        exact ⟨fun d => absurd d.2.2 c, fun _ => ⟨_, _, _, _, _, _, nm', e1⟩⟩
    · obtain ⟨nm', e1⟩ := h2 b
      exact ⟨fun c => absurd c.2.1 b, fun _ => ⟨_, _, _, _, _, _, _, e1⟩⟩
  · rw [if_neg a, show f_X9_numbersOf N (-4) = some 0 from rfl, p_b1, if_pos rfl]
    exact ⟨fun c => absurd c.1 a, fun _ => ⟨_, _, _, _, _, _, _, rfl⟩⟩
