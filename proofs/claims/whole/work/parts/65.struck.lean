/-! PURE: struck as whom -/
def p_ok (dv dl : Int32) : Prop := dv < 0 ∨ dl < 0 ∨ dv = dl
theorem p_alk_le (x y : Int64) (m n : Nat) : p_alk x y m n ≤ 800 := by
  unfold p_alk
  have := p_cnt_le (p_eqs x y) 8
  exact Nat.le_trans (Nat.div_le_self _ _) (by omega)
/-- what one voter's pairs hold -/
theorem p_pairs (N : Nat) (hN : 41 ≤ N) {th : Int32} {al : Nat → Int32} {lim ls : Int32} {ld ll sg : Nat → Int32} {vlim vs : Int32} {vc vd vl : Nat → Int32} {ul uv un : Int32} {uld : Nat → Int32} {uln : Nat → Int64} {uvc uvd : Nat → Int32} {uvn : Nat → Int64} {na nb : Nat} (hR : RRoll th al lim ls ld ll sg vlim vs vc vd vl ul uv un uld uln uvc uvd uvn na nb) {a : Nat} (ha : a < na) :
    ∃ t : Nat → Nat, ∀ b, b < nb → t b ≤ 800 ∧ f_X11_likeOf N uln uvn (nI a) (nI b) = some (nI (t b)) ∧ al (8 * a + b) = nI (t b) ∧ (p_ok (uvd a) (uld b) → sg (8 * a + b) = nI (t b)) ∧ (¬ p_ok (uvd a) (uld b) → sg (8 * a + b) = nI 0) := by
  obtain ⟨hb, ha2, -, -, -, -, -, -, -, -, hL, hV, hp⟩ := hR
  have h : ∀ b : Nat, ∃ t : Nat, b < nb → t ≤ 800 ∧ f_X11_likeOf N uln uvn (nI a) (nI b) = some (nI t) ∧ al (8 * a + b) = nI t ∧ (p_ok (uvd a) (uld b) → sg (8 * a + b) = nI t) ∧ (¬ p_ok (uvd a) (uld b) → sg (8 * a + b) = nI 0) := fun b => by
    by_cases hbn : b < nb
    · obtain ⟨m, n, h1, h2, h3, h4⟩ := hp a ha b hbn
      refine ⟨p_alk (uvn a) (uln b) m n, fun _ => ⟨p_alk_le _ _ _ _, q_likeOf N hN (by omega) (by omega) h1 h2, h3, fun w => ?_, fun w => ?_⟩⟩
      · rw [h4, (hV a ha).1, (hL b hbn).1]; unfold p_str2; rw [if_pos (show (uvd a < 0 ∨ uld b < 0 ∨ uvd a = uld b) from w)]
      · rw [h4, (hV a ha).1, (hL b hbn).1]; unfold p_str2; rw [if_neg (show ¬ (uvd a < 0 ∨ uld b < 0 ∨ uvd a = uld b) from w)]
    · exact ⟨0, fun q => (hbn q).elim⟩
  exact ⟨fun b => Classical.choose (h b), fun b => Classical.choose_spec (h b)⟩
theorem p_strikes1 (N : Nat) {un : Int32} {uld uvd : Nat → Int32} {uln uvn : Nat → Int64} {a b t : Nat} (ha : a < 12) (hb : b < 8) (h : f_X11_likeOf N uln uvn (nI a) (nI b) = some (nI t)) : (p_ok (uvd a) (uld b) ∧ ¬ nI t < un → f_X11_strikes1 N un uld uln uvd uvn (nI a) (nI b) = some true) ∧ (¬ (p_ok (uvd a) (uld b) ∧ ¬ nI t < un) → f_X11_strikes1 N un uld uln uvd uvn (nI a) (nI b) = some false) := by
  have c38 : ∀ s0 : Int32, B_X11_strikes1_38 N un uld uln uvd uvn (nI a) (nI b) s0 = if nI t < un then some false else if s0 = 0 then some true else some false := fun s0 => by
    unfold B_X11_strikes1_38
    rw [h, p_b1]
  have e : f_X11_strikes1 N un uld uln uvd uvn (nI a) (nI b) = if nI t < un then some false else if (uvd a < 0 ∨ uld b < 0 ∨ uvd a = uld b) then some true else some false := by
    unfold f_X11_strikes1
    rw [p_ck (by omega) (by omega), p_ck (by omega) (by omega), p_ck (by omega) (by omega), p_ck (by omega) (by omega), nI_clamp (by omega), nI_clamp (by omega), c38, c38]
    by_cases q1 : uvd a < 0
    · rw [if_pos q1, if_pos rfl, if_pos (Or.inl q1)]
    · rw [if_neg q1]
      by_cases q2 : uld b < 0
      · rw [if_pos q2, if_pos rfl, if_pos (Or.inr (Or.inl q2))]
      · rw [if_neg q2]
        by_cases q3 : uvd a = uld b
        · rw [if_pos q3, if_pos rfl, if_pos (Or.inr (Or.inr q3))]
        · rw [if_neg q3, if_neg (show ¬ (1 : Int32) = 0 by decide), if_neg (show ¬ (uvd a < 0 ∨ uld b < 0 ∨ uvd a = uld b) by rintro (w | w | w) <;> contradiction)]
  rw [e]
  constructor
  · rintro ⟨w1, w2⟩
    rw [if_neg w2, if_pos (show (uvd a < 0 ∨ uld b < 0 ∨ uvd a = uld b) from w1)]
  · intro w
    by_cases w2 : nI t < un
    · rw [if_pos w2]
    · rw [if_neg w2, if_neg (show ¬ (uvd a < 0 ∨ uld b < 0 ∨ uvd a = uld b) from fun w1 => w ⟨w1, w2⟩)]
