/-! PURE: winner -/
def p_str (c : Nat → Nat) (h i : Nat) : Prop := 0 < c h ∧ ∀ g, g < i → g ≠ h → c g < c h
def p_isw (c : Nat → Nat) (v : Int32) : Prop := (∃ h, h < 4 ∧ v = nI h ∧ p_str c h 4) ∨ (v = -4 ∧ ∀ h, h < 4 → ¬ p_str c h 4)
def p_isb (c : Nat → Nat) (h i b : Nat) : Prop := (∀ g, g < i → g ≠ h → c g ≤ b) ∧ (b = 0 ∨ ∃ g, g < i ∧ g ≠ h ∧ c g = b)
theorem p_isw_1 {c : Nat → Nat} {v w : Int32} (h1 : p_isw c v) (h2 : p_isw c w) : v = w := by
  rcases h1 with ⟨h, a, rfl, b⟩ | ⟨rfl, b⟩
  · rcases h2 with ⟨g, a', rfl, b'⟩ | ⟨rfl, b'⟩
    · by_cases q : h = g
      · rw [q]
      · have := b.2 g a' (fun e => q e.symm)
        have := b'.2 h a q
        omega
    · exact (b' h a b).elim
  · rcases h2 with ⟨g, a', rfl, b'⟩ | ⟨rfl, b'⟩
    · exact (b g a' b').elim
    · rfl
theorem p_isb_s {c : Nat → Nat} {h b : Nat} (hb : p_isb c h 4 b) : b < c h ↔ p_str c h 4 := by
  constructor
  · intro q
    exact ⟨by omega, fun g hg hgh => by have := hb.1 g hg hgh; omega⟩
  · intro q
    rcases hb.2 with e | ⟨g, hg, hgh, e⟩
    · have := q.1; omega
    · have := q.2 g hg hgh; omega
theorem p_lead (N : Nat) (hN : 41 ≤ N) {c : Nat → Nat} (hc : ∀ g, c g ≤ 40) {h : Nat} (hh : h < 4) : ∃ b, b ≤ 40 ∧ p_isb c h 4 b ∧ f_X10_leadOf N (nI h) (nI (p_pk c)) = some (nI (c h) - nI b) := by
  unfold f_X10_leadOf
  obtain ⟨e, he⟩ : ∃ e : Nat, e = 4 := ⟨_, rfl⟩
  rw [show (0 : Int32) = nI 0 from rfl]
  refine p_run (σ := Nat) (W := fun m i b => wk_loop (fun k4 : Int32 → Int32 → Int32 → Int32 → Option Int32 => B_X10_leadOf_4 N k4) (fun _ _ _ _ => none) m (nI h) (nI (p_pk c)) (nI b) (nI i)) (fun i b => b ≤ 40 ∧ p_isb c h i b) (fun A => ∃ b, b ≤ 40 ∧ p_isb c h 4 b ∧ A = some (nI (c h) - nI b)) e ?_ ?_ 4 N 0 0 (by omega) (by omega) ⟨by omega, fun g hg => by omega, Or.inl rfl⟩
  · intro m i b hi hI
    have g : ¬ (4 : Int32) ≤ nI i := nI_ge (b := 4) (by omega) (by omega)
    by_cases q : i = h
    · refine ⟨b, ?_, hI.1, fun g hg hgh => hI.2.1 g (by omega) hgh, ?_⟩
      · show B_X10_leadOf_4 N _ (nI h) _ _ (nI i) = _
        rw [B_X10_leadOf_4, if_neg g, if_pos (by rw [q]), p_nm, nI_1]
      · rcases hI.2.2 with e1 | ⟨g, g1, g2, g3⟩
        · exact Or.inl e1
        · exact Or.inr ⟨g, by omega, g2, g3⟩
    · have q' : ¬ nI i = nI h := fun w => q ((p_nh i (by omega) h hh).mp w)
      have hci := hc i
      refine ⟨if b < c i then c i else b, ?_, ?_, ?_, ?_⟩
      · show B_X10_leadOf_4 N _ (nI h) _ _ (nI i) = _
        rw [B_X10_leadOf_4, if_neg g, if_neg q', p_for N c (fun g => by have := hc g; omega) (by omega), p_b1, p_nm, p_nm, nI_1]
        by_cases w : b < c i
        · rw [if_pos w, if_pos (nI_lt w (by omega))]
        · rw [if_neg w, if_neg (nI_nlt (by omega) (by omega))]
      · have := hI.1
        by_cases w : b < c i
        · rw [if_pos w]; omega
        · rw [if_neg w]; omega
      · intro g hg hgh
        by_cases e1 : g = i
        · rw [e1]
          by_cases w : b < c i
          · rw [if_pos w]; omega
          · rw [if_neg w]; omega
        · have := hI.2.1 g (by omega) hgh
          by_cases w : b < c i
          · rw [if_pos w]; omega
          · rw [if_neg w]; omega
      · by_cases w : b < c i
        · rw [if_pos w]
          exact Or.inr ⟨i, by omega, q, rfl⟩
        · rw [if_neg w]
          rcases hI.2.2 with e1 | ⟨g, g1, g2, g3⟩
          · exact Or.inl e1
          · exact Or.inr ⟨g, by omega, g2, g3⟩
  · intro m b hI
    subst he
    refine ⟨b, hI.1, hI.2, ?_⟩
    show B_X10_leadOf_4 N _ (nI h) _ _ (nI 4) = _
    rw [B_X10_leadOf_4, if_pos (by decide), p_for N c (fun g => by have := hc g; omega) hh, p_b1]
theorem p_won (N : Nat) (hN : 41 ≤ N) {c : Nat → Nat} (hc : ∀ g, c g ≤ 40) : ∃ v, p_isw c v ∧ f_X10_winnerOf N (nI (p_pk c)) = some v := by
  unfold f_X10_winnerOf
  obtain ⟨e, he⟩ : ∃ e : Nat, e = 4 := ⟨_, rfl⟩
  rw [show (0 : Int32) = nI 0 from rfl]
  refine p_runx (σ := Unit) (W := fun m i _ => wk_loop (fun k2 : Int32 → Int32 → Option Int32 => B_X10_winnerOf_2 N k2) (fun _ _ => none) m (nI (p_pk c)) (nI i)) (fun i _ => ∀ g, g < i → ¬ p_str c g 4) (fun A => ∃ v, p_isw c v ∧ A = some v) e ?_ ?_ 4 N 0 () (by omega) (by omega) (fun g hg => by omega)
  · intro m i _ hi hI
    have g : ¬ (4 : Int32) ≤ nI i := nI_ge (b := 4) (by omega) (by omega)
    obtain ⟨b, hb, hb2, e1⟩ := p_lead N hN hc (h := i) (by omega)
    have hci := hc i
    have hle : (nI (c i) - nI b ≤ 0) ↔ ¬ b < c i := by
      rw [p_toInt_le, pk_sub_toInt (by omega) (by omega), show (0 : Int32).toInt = 0 from rfl]
      omega
    by_cases q : b < c i
    · left
      refine ⟨nI i, Or.inl ⟨i, by omega, rfl, (p_isb_s hb2).mp q⟩, ?_⟩
      show B_X10_winnerOf_2 N _ _ (nI i) = _
      rw [B_X10_winnerOf_2, if_neg g, e1, p_b1, if_neg (fun w => hle.mp w q)]
    · right
      refine ⟨(), ?_, fun g' hg' => ?_⟩
      · show B_X10_winnerOf_2 N _ _ (nI i) = _
        rw [B_X10_winnerOf_2, if_neg g, e1, p_b1, if_pos (hle.mpr q), p_nm, nI_1]
      · by_cases w : g' = i
        · subst w
          exact fun s => q ((p_isb_s hb2).mpr s)
        · exact hI g' (by omega)
  · intro m _ hI
    subst he
    refine ⟨-4, Or.inr ⟨rfl, hI⟩, ?_⟩
    show B_X10_winnerOf_2 N _ _ (nI 4) = _
    rw [B_X10_winnerOf_2, if_pos (by decide)]
/-- the check's: the one who has most -/
theorem p_most (N : Nat) (hN : 41 ≤ N) {c : Nat → Nat} (hc : ∀ g, c g ≤ 40) {uf : Nat → Int32} (hf : ∀ g, g < 4 → uf g = nI (c g)) : ∃ v, p_isw c v ∧ f_X11_most N uf = some v := by
  unfold f_X11_most
  obtain ⟨e, he⟩ : ∃ e : Nat, e = 4 := ⟨_, rfl⟩
  rw [show (0 : Int32) = nI 0 from rfl]
  refine p_run (σ := Int32) (W := fun m i v => wk_loop (fun k5 : Int32 → Int32 → Option Int32 => B_X11_most_5 N uf k5) (fun _ _ => none) m v (nI i)) (fun i v => (∃ h, h < i ∧ v = nI h ∧ p_str c h 4) ∨ (v = -4 ∧ ∀ h, h < i → ¬ p_str c h 4)) (fun A => ∃ v, p_isw c v ∧ A = some v) e ?_ ?_ 4 N 0 (-4) (by omega) (by omega) (Or.inr ⟨rfl, fun g hg => by omega⟩)
  · intro m i v hi hI
    have g : ¬ (4 : Int32) ≤ nI i := nI_ge (b := 4) (by omega) (by omega)
    have hci := hc i
    have inner : ∀ (k5 : Int32 → Int32 → Option Int32) (fl : Int32), (¬ fl = 0 ↔ 0 < c i) → ∃ b : Bool, (b = true ↔ p_str c i 4) ∧ wk_loop (fun k28 : Int32 → Int32 → Int32 → Int32 → Option Int32 => B_X11_most_28 N uf k5 k28) (fun _ _ _ _ => none) N v (nI i) fl (nI 0) = k5 (if b then nI i else v) (nI (i + 1)) := by
      intro k5 fl hfl
      refine p_run (σ := Int32) (W := fun m j f => wk_loop (fun k28 : Int32 → Int32 → Int32 → Int32 → Option Int32 => B_X11_most_28 N uf k5 k28) (fun _ _ _ _ => none) m v (nI i) f (nI j)) (fun j f => ¬ f = 0 ↔ p_str c i j) (fun A => ∃ b : Bool, (b = true ↔ p_str c i 4) ∧ A = k5 (if b then nI i else v) (nI (i + 1))) e ?_ ?_ 4 N 0 fl (by omega) (by omega) (hfl.trans ⟨fun a => ⟨a, fun g hg => by omega⟩, fun a => a.1⟩)
      · intro m j f hj hF
        have gj : ¬ (4 : Int32) ≤ nI j := nI_ge (b := 4) (by omega) (by omega)
        have hcj := hc j
        by_cases q0 : f = 0
        · refine ⟨0, ?_, fun a => (a rfl).elim, fun a => (hF.mpr ⟨a.1, fun g hg hgh => a.2 g (by omega) hgh⟩ q0).elim⟩
          show B_X11_most_28 N uf k5 _ v (nI i) f (nI j) = _
          rw [B_X11_most_28, if_neg gj, if_pos q0, p_nm, nI_1]
        · have hS := hF.mp q0
          by_cases q1 : j = i
          · refine ⟨1, ?_, fun _ => ⟨hS.1, fun g hg hgh => hS.2 g (by omega) hgh⟩, fun _ => by decide⟩
            show B_X11_most_28 N uf k5 _ v (nI i) f (nI j) = _
            rw [B_X11_most_28, if_neg gj, if_neg q0, if_pos (by rw [q1]), p_nm, nI_1]
          · have q1' : ¬ nI j = nI i := fun w => q1 ((p_nh j (by omega) i (by omega)).mp w)
            by_cases q2 : c i ≤ c j
            · refine ⟨0, ?_, fun a => (a rfl).elim, fun a => ?_⟩
              · show B_X11_most_28 N uf k5 _ v (nI i) f (nI j) = _
                rw [B_X11_most_28, if_neg gj, if_neg q0, if_neg q1', p_ck (by omega) (by omega), p_ck (by omega) (by omega), nI_clamp (by omega), nI_clamp (by omega), hf i (by omega), hf j (by omega), if_pos (nI_le q2 (by omega)), p_nm, nI_1]
              · have := a.2 j (by omega) q1
                omega
            · refine ⟨1, ?_, fun _ => ⟨hS.1, fun g hg hgh => ?_⟩, fun _ => by decide⟩
              · show B_X11_most_28 N uf k5 _ v (nI i) f (nI j) = _
                rw [B_X11_most_28, if_neg gj, if_neg q0, if_neg q1', p_ck (by omega) (by omega), p_ck (by omega) (by omega), nI_clamp (by omega), nI_clamp (by omega), hf i (by omega), hf j (by omega), if_neg (nI_ge (by omega) (by omega)), p_nm, nI_1]
              · by_cases w : g = j
                · rw [w]; omega
                · exact hS.2 g (by omega) hgh
      · intro m f hF
        subst he
        refine ⟨!decide (f = 0), ?_, ?_⟩
        · rw [← hF]; simp
        · show B_X11_most_28 N uf k5 _ v (nI i) f (nI 4) = _
          by_cases q0 : f = 0
          · rw [B_X11_most_28, if_pos (by decide), if_pos q0, p_nm, nI_1]; simp [q0]
          · rw [B_X11_most_28, if_pos (by decide), if_neg q0, p_nm, nI_1]; simp [q0]
    have step : ∀ k5 : Int32 → Int32 → Option Int32, ∃ b : Bool, (b = true ↔ p_str c i 4) ∧ B_X11_most_5 N uf k5 v (nI i) = k5 (if b then nI i else v) (nI (i + 1)) := by
      intro k5
      rw [B_X11_most_5, if_neg g, p_ck (by omega) (by omega), nI_clamp (by omega), hf i (by omega)]
      by_cases q : c i = 0
      · rw [if_pos (show nI (c i) ≤ (0 : Int32) from by rw [q]; decide)]
        exact inner k5 0 ⟨fun a => (a rfl).elim, fun a => by omega⟩
      · rw [if_neg (show ¬ nI (c i) ≤ (0 : Int32) from nI_ge (b := c i) (show 0 < c i by omega) (by omega))]
        exact inner k5 1 ⟨fun _ => by omega, fun _ => by decide⟩
    obtain ⟨b, hb, e1⟩ := step (fun a b => wk_loop (fun k5 : Int32 → Int32 → Option Int32 => B_X11_most_5 N uf k5) (fun _ _ => none) m a b)
    refine ⟨if b then nI i else v, e1, ?_⟩
    by_cases q : b = true
    · left
      rw [if_pos q]
      exact ⟨i, by omega, rfl, hb.mp q⟩
    · rw [if_neg q]
      rcases hI with ⟨h, h1, h2, h3⟩ | ⟨h1, h2⟩
      · exact Or.inl ⟨h, by omega, h2, h3⟩
      · refine Or.inr ⟨h1, fun h hh => ?_⟩
        by_cases w : h = i
        · rw [w]; exact fun s => q (hb.mpr s)
        · exact h2 h (by omega)
  · intro m v hI
    subst he
    refine ⟨v, hI, ?_⟩
    show B_X11_most_5 N uf _ v (nI 4) = _
    rw [B_X11_most_5, if_pos (by decide)]
/-- all four counts, one by one, in the check's row -/
theorem q_winner (N : Nat) (hN : 41 ≤ N) {sz it : Int32} {co hr kd rk vl uh ul ur uv uw : Nat → Int32} {n : Nat} (hR : ROrd sz co hr kd rk vl it uh ul ur uv uw n) {pz : Int32} {pc st cd ct hs : Nat → Int32} {k : Nat} (hP : RPile pz pc st cd ct hs 0 k) (dm ss uf : Nat → Int32) (x y z : Int32) :
    ∃ r od os of, f_X10_winner N sz co hr kd rk vl pz pc st dm ss x y z = some (r, od, os) ∧ f_X11_winner N it cd ct hs uh ul ur uv uw uf x y z = some (r, of) := by
  unfold f_X10_winner f_X11_winner f_X8_readIn
  simp only [p_isRace, p_isHour, p_mhour, p_inI, p_b1, p_bI, decide_eq_false_iff_not, show (0 : Int64).toInt = 0 from rfl, show (2 : Int64).toInt = 2 from rfl]
  by_cases a : 0 ≤ x.toInt ∧ x.toInt ≤ 2
  · by_cases b : 0 ≤ y.toInt ∧ y.toInt ≤ 999
    · simp only [if_neg (not_not_intro a), if_neg (not_not_intro b)]
      obtain ⟨j, hj, rfl⟩ := p_of (n := 2) a.1 a.2
      obtain ⟨od, os, e1, hD⟩ := q_readIn N hN hR dm ss y z
      obtain ⟨f, f1, f2, f3⟩ := q_cnt N hN hR hP hD (r := j) (by omega) 5
      obtain ⟨v, hv, e2⟩ := p_won N hN f1
      rw [e1, p_b2, p_b2, f2, p_b1, e2, p_b1]
      have hm : ∃ of, wk_loop (fun k24 : (Nat → Int32) → Int32 → Int32 → Int32 → Int32 → Option (Int32 × (Nat → Int32)) => B_X11_winner_24 N it cd ct hs uh ul ur uv uw k24) (fun _ _ _ _ _ => none) N uf (nI j) y z (0 : Int32) = some (v, of) := by
        obtain ⟨e, he⟩ : ∃ e : Nat, e = 4 := ⟨_, rfl⟩
        rw [show (0 : Int32) = nI 0 from rfl]
        refine p_run (σ := Nat → Int32) (W := fun m i s => wk_loop (fun k24 : (Nat → Int32) → Int32 → Int32 → Int32 → Int32 → Option (Int32 × (Nat → Int32)) => B_X11_winner_24 N it cd ct hs uh ul ur uv uw k24) (fun _ _ _ _ _ => none) m s (nI j) y z (nI i)) (fun i s => ∀ g, g < i → s g = nI (f g)) (fun A => ∃ of, A = some (v, of)) e ?_ ?_ 4 N 0 uf (by omega) (by omega) (fun g hg => by omega)
        · intro m i s hi hI
          have g : ¬ (4 : Int32) ≤ nI i := nI_ge (b := 4) (by omega) (by omega)
          refine ⟨upd s i (nI (f i)), ?_, fun g' hg' => ?_⟩
          · show B_X11_winner_24 N it cd ct hs uh ul ur uv uw _ s (nI j) y z (nI i) = _
            rw [B_X11_winner_24, if_neg g, f3 i, p_b1, p_ck (by omega) (by omega), p_nm, nI_1, nI_clamp (by omega)]
          · by_cases w : g' = i
            · subst w; rw [pk_us]
            · rw [pk_un w]; exact hI g' (by omega)
        · intro m s hI
          subst he
          obtain ⟨v', hv', e3⟩ := p_most N hN f1 hI
          refine ⟨s, ?_⟩
          show B_X11_winner_24 N it cd ct hs uh ul ur uv uw _ s (nI j) y z (nI 4) = _
          rw [B_X11_winner_24, if_pos (by decide), e3, p_b1, p_isw_1 hv' hv]
      obtain ⟨of, e4⟩ := hm
      exact ⟨_, _, _, of, rfl, e4⟩
    · simp only [if_neg (not_not_intro a), if_pos b]; exact ⟨_, _, _, _, rfl, rfl⟩
  · simp only [if_pos a]; exact ⟨_, _, _, _, rfl, rfl⟩
