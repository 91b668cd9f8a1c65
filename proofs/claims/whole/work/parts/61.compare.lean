/-! PURE: the class compares each pair once -/
def p_str2 (t : Nat) (dv dl : Int32) : Nat := if dv < 0 ∨ dl < 0 ∨ dv = dl then t else 0
theorem q_compare (N : Nat) (hN : 41 ≤ N) {Ld Ll Vd Vl : Nat} {ls vs : Int32} {ld ll vd vl : Nat → Int32} {al sg : Nat → Int32} {a b na nb m n : Nat} {x y : Int64} (hls : ls = nI nb) (hvs : vs = nI na) (ha : a < na) (hb : b < nb) (hna : na ≤ 12) (hnb : nb ≤ 8) (hLd : nb ≤ Ld) (hLd2 : Ld ≤ 2000) (hVd : na ≤ Vd) (hVd2 : Vd ≤ 2000) (hLl : 8 * nb ≤ Ll) (hLl2 : Ll ≤ 2000) (hVl : 8 * na ≤ Vl) (hVl2 : Vl ≤ 2000) (hx : p_name x m) (hy : p_name y n) (lx : p_ltrs vl a x) (ly : p_ltrs ll b y) :
    f_X5_compare N Ld Ll Vd Vl ls ld ll vs vd vl al sg (nI a) (nI b) = some (upd al (8 * a + b) (nI (p_alk x y m n)), upd sg (8 * a + b) (nI (p_str2 (p_alk x y m n) (vd a) (ld b)))) := by
  subst hls; subst hvs
  have has : ∀ k j : Nat, j < k → k < 2 ^ 31 → f_X2_has N (nI k) (nI j) = some true := fun k j h hk => by
    unfold f_X2_has
    rw [if_neg (nI_pos (by omega)), if_neg (nI_ge h hk)]
  have hmx := hx.1
  have hny := hy.1
  have hpair : (nI a * (8 : Int32)) + nI b = nI (8 * a + b) := by rw [show (8 : Int32) = nI 8 from rfl, pk_mul, nI_add, Nat.mul_comm]
  have c92 : ∀ (t : Nat) (s0 : Int32), B_X5_compare_92 N Ld Ll Vd Vl (nI nb) ld ll (nI na) vd vl al sg (nI a) (nI b) (nI t) s0 = some (upd al (8 * a + b) (nI t), upd sg (8 * a + b) (if s0 = 0 then 0 else nI t)) := fun t s0 => by
    unfold B_X5_compare_92 f_X5_pair B_X5_compare_128
    rw [hpair, p_b1, p_set (by omega) (by omega), p_b1, p_b1]
    by_cases q : s0 = 0
    · rw [if_pos q, if_pos q, p_set (by omega) (by omega), p_b1]
    · rw [if_neg q, if_neg q, p_set (by omega) (by omega), p_b1]
  have c57 : ∀ t : Nat, B_X5_compare_57 N Ld Ll Vd Vl (nI nb) ld ll (nI na) vd vl al sg (nI a) (nI b) (nI t) = some (upd al (8 * a + b) (nI t), upd sg (8 * a + b) (nI (p_str2 t (vd a) (ld b)))) := fun t => by
    unfold B_X5_compare_57 f_X5_isDayUntold f_X2_dayOf p_str2
    rw [p_get (show a < Vd by omega) hVd2, p_get (show b < Ld by omega) hLd2, p_b1, p_b1, p_b1, p_b1, p_b1]
    by_cases q1 : vd a < 0
    · rw [if_pos q1, if_pos (Or.inl q1), p_b1, if_neg (show ¬ wk_bI true = 0 from by decide), c92, if_neg (by decide)]
    · rw [if_neg q1]
      by_cases q2 : 0 ≤ ld b
      · have q2' : ¬ ld b < 0 := fun w => by rw [p_toInt_lt] at w; rw [p_toInt_le] at q2; omega
        rw [if_pos q2, p_b1, if_pos (show wk_bI false = 0 from rfl), p_b1]
        by_cases q3 : vd a = ld b
        · rw [if_pos q3, c92, if_neg (by decide), if_pos (Or.inr (Or.inr q3))]
        · rw [if_neg q3, c92, if_pos rfl, if_neg (by rintro (w | w | w) <;> contradiction)]
          rfl
      · have q2' : ld b < 0 := by rw [p_toInt_le] at q2; rw [p_toInt_lt]; omega
        rw [if_neg q2, p_b1, if_neg (show ¬ wk_bI true = 0 from by decide), c92, if_neg (by decide), if_pos (Or.inr (Or.inl q2'))]
  unfold f_X5_compare f_X5_hasVoter f_X5_hasListed
  rw [has na a ha (by omega), p_b1, p_b1, if_neg (show ¬ wk_bI true = 0 from by decide), has nb b hb (by omega), p_b1, p_b1, if_neg (show ¬ wk_bI true = 0 from by decide), q_len N hN hx lx (by omega) hVl2, p_b1, q_len N hN hy ly (by omega) hLl2, p_b1, p_nm]
  have emax : (if nI m < nI n then nI n else nI m) = nI (if m < n then n else m) := by
    by_cases w : m < n
    · rw [if_pos (nI_lt w (by omega)), if_pos w]
    · rw [if_neg (nI_nlt (by omega) (by omega)), if_neg w]
  have hmx8 : (if m < n then n else m) ≤ 8 := by by_cases w : m < n <;> simp [w] <;> omega
  have hc := p_cnt_le (p_eqs x y) 8
  rw [emax]
  by_cases w : 1 ≤ (if m < n then n else m)
  · rw [if_pos (show (1 : Int32) ≤ nI _ from nI_le (a := 1) w (by omega)), q_same N hN lx ly (by omega) hVl2 (by omega) hLl2, p_b1, wk_dv, if_neg (fun u => by have := (p_nI0 (by omega)).mp u; omega), show (100 : Int32) = nI 100 from rfl, pk_mul, pk_div (by omega) (by omega) (by omega)]
    exact c57 _
  · rw [if_neg (show ¬ (1 : Int32) ≤ nI _ from nI_ge (b := 1) (by omega) (by omega)), show (0 : Int32) = nI 0 from rfl, c57 0]
    have : p_alk x y m n = 0 := by unfold p_alk; rw [show (if m < n then n else m) = 0 by omega, Nat.div_zero]
    rw [this]
