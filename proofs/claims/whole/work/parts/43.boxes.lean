/-! PURE: boxes -/
def RBox (hp sp uh us : Nat → Int32) : Prop := ∀ c, c < 5 → (hp c = uh c ∧ ∃ v, v ≤ 500 ∧ hp c = nI v) ∧ (sp c = us c ∧ ∃ v, 1 ≤ v ∧ v ≤ 50 ∧ sp c = nI v)
theorem RBox.hp {hp sp uh us : Nat → Int32} (h : RBox hp sp uh us) (c v : Nat) (hv : v ≤ 500) : RBox (upd hp c (nI v)) sp (upd uh c (nI v)) us := by
  intro k hk
  refine ⟨?_, (h k hk).2⟩
  by_cases e : k = c
  · subst e; rw [pk_us, pk_us]; exact ⟨rfl, v, hv, rfl⟩
  · rw [pk_un e, pk_un e]; exact (h k hk).1
theorem RBox.sp {hp sp uh us : Nat → Int32} (h : RBox hp sp uh us) (c v : Nat) (h1 : 1 ≤ v) (hv : v ≤ 50) : RBox hp (upd sp c (nI v)) uh (upd us c (nI v)) := by
  intro k hk
  refine ⟨(h k hk).1, ?_⟩
  by_cases e : k = c
  · subst e; rw [pk_us, pk_us]; exact ⟨rfl, v, h1, hv, rfl⟩
  · rw [pk_un e, pk_un e]; exact (h k hk).2
theorem q_boxes (N : Nat) {hp sp uh us : Nat → Int32} (hR : RBox hp sp uh us) (x y z : Int32) : ∃ r o1 o2 p1 p2, f_X10_boxes N hp sp x y z = some (r, o1, o2) ∧ f_X11_boxes N uh us x y z = some (r, p1, p2) ∧ RBox o1 o2 p1 p2 := by
  have hbad : ∃ r o1 o2 p1 p2, some ((-1 : Int32), hp, sp) = some (r, o1, o2) ∧ some ((-1 : Int32), uh, us) = some (r, p1, p2) ∧ RBox o1 o2 p1 p2 := ⟨_, _, _, _, _, rfl, rfl, hR⟩
  unfold f_X10_boxes f_X11_boxes B_X11_boxes_39 B_X11_boxes_66 f_X7_changeHeaps f_X7_changeSpeed
  simp only [p_isCounty, p_isWhat, p_inI, p_in, p_i2l, p_b1, p_bI, decide_eq_false_iff_not, p_toInt_lt, p_toInt_le, show (0 : Int32).toInt = 0 from rfl, show (1 : Int32).toInt = 1 from rfl, show (2 : Int32).toInt = 2 from rfl, show (50 : Int32).toInt = 50 from rfl, show (500 : Int32).toInt = 500 from rfl, show (0 : Int64).toInt = 0 from rfl, show (1 : Int64).toInt = 1 from rfl, show (4 : Int64).toInt = 4 from rfl, show (50 : Int64).toInt = 50 from rfl, show (500 : Int64).toInt = 500 from rfl]
  by_cases a : 0 ≤ x.toInt ∧ x.toInt ≤ 4
  · simp only [if_neg (not_not_intro a)]
    obtain ⟨c, hc, rfl⟩ := p_of (n := 4) a.1 (by omega)
    by_cases b : 0 ≤ y.toInt ∧ y.toInt ≤ 1
    · simp only [if_neg (show ¬ ¬ (0 ≤ y.toInt ∧ y.toInt < 2) by omega), if_neg (show ¬ ¬ (0 ≤ y.toInt ∧ y.toInt ≤ 1) by omega)]
      by_cases d : y = 0
      · subst d
        simp only [if_true, show (0 : Int32).toInt = 0 from rfl]
        by_cases e : 0 ≤ z.toInt ∧ z.toInt ≤ 500
        · simp only [if_neg (show ¬ z.toInt < 0 by omega), if_pos e.2, if_neg (not_not_intro e)]
          obtain ⟨v, hv, rfl⟩ := p_of (n := 500) e.1 (by omega)
          rw [p_get (by omega) (by omega), p_b1, p_set (by omega) (by omega), p_b1, p_b2, p_ck (by omega) (by omega), p_ck (by omega) (by omega), nI_clamp (by omega), ((hR c (by omega)).1).1]
          exact ⟨_, _, _, _, _, rfl, rfl, hR.hp c v hv⟩
        · simp only [if_pos e]
          by_cases f : z.toInt < 0
          · rw [if_pos f]; exact hbad
          · rw [if_neg f, if_neg (by omega)]; exact hbad
      · have hy : y.toInt = 1 := by
          have : y.toInt ≠ 0 := fun q => d (Int32.toInt_inj.mp (by rw [q]; rfl))
          omega
        simp only [if_neg d, hy]
        by_cases e : 1 ≤ z.toInt ∧ z.toInt ≤ 50
        · simp only [if_neg (show ¬ z.toInt < 1 by omega), if_pos e.2, if_neg (not_not_intro e)]
          obtain ⟨v, hv, rfl⟩ := p_of (n := 50) (by omega) e.2
          rw [nI_toInt (by omega)] at e
          rw [p_get (by omega) (by omega), p_b1, p_set (by omega) (by omega), p_b1, p_b2, p_ck (by omega) (by omega), p_ck (by omega) (by omega), nI_clamp (by omega), ((hR c (by omega)).2).1]
          exact ⟨_, _, _, _, _, rfl, rfl, hR.sp c v (by omega) hv⟩
        · simp only [if_pos e]
          by_cases f : z.toInt < 1
          · rw [if_pos f]; exact hbad
          · rw [if_neg f, if_neg (by omega)]; exact hbad
    · simp only [if_pos (show ¬ (0 ≤ y.toInt ∧ y.toInt < 2) by omega), if_pos (show ¬ (0 ≤ y.toInt ∧ y.toInt ≤ 1) by omega)]; exact hbad
  · simp only [if_pos a]; exact hbad
