/-! PURE: least -/
def p_off (c : Nat → Nat) (h own : Nat) : Nat → Nat | 0 => 0 | g + 1 => p_off c h own g + (if g = h then 0 else c g + 1 - own)
theorem p_off_s (c : Nat → Nat) (h own g : Nat) : p_off c h own (g + 1) = p_off c h own g + (if g = h then 0 else c g + 1 - own) := rfl
theorem p_off_le {c : Nat → Nat} (hc : ∀ g, c g ≤ 40) (h own : Nat) : ∀ g, p_off c h own g ≤ 41 * g := by
  intro g
  induction g with
  | zero => exact Nat.le_refl 0
  | succ g ih => rw [p_off_s]; have := hc g; split <;> omega
abbrev p_Wn (c : Nat → Nat) (h k i : Nat) : Prop := 1 ≤ c h + i ∧ c h + i ≤ k ∧ p_off c h (c h + i) 4 ≤ i
/-- the class: does one win with so many changed -/
theorem p_winsWith (N : Nat) (hN : 41 ≤ N) {c : Nat → Nat} (hc : ∀ g, c g ≤ 40) {h k i : Nat} (hh : h < 4) (hk : k ≤ 40) (hi : i ≤ 100) : f_X8_winsWith N (nI k) (nI h) (nI (p_pk c)) (nI i) = some (decide (p_Wn c h k i)) := by
  unfold f_X8_winsWith f_X8_cards f_X3_size
  have hch := hc h
  rw [p_for N c (fun g => by have := hc g; omega) hh, p_b1, p_nm, nI_add]
  by_cases a : 1 ≤ c h + i
  · rw [if_neg (show ¬ nI (c h + i) < (1 : Int32) from nI_nlt (b := 1) a (by omega)), p_b1, p_b1]
    by_cases b : c h + i ≤ k
    · rw [if_pos (nI_le b (by omega))]
      obtain ⟨e, he⟩ : ∃ e : Nat, e = 4 := ⟨_, rfl⟩
      obtain ⟨z, hz⟩ : ∃ z : Nat, z = 0 := ⟨_, rfl⟩
      rw [show wk_loop (fun k32 : Int32 → Int32 → Int32 → Int32 → Int32 → Int32 → Option Bool => B_X8_winsWith_32 N (nI k) k32) (fun _ _ _ _ _ _ => none) N (nI h) (nI (p_pk c)) (nI i) (nI (c h + i)) (0 : Int32) (0 : Int32) = wk_loop (fun k32 : Int32 → Int32 → Int32 → Int32 → Int32 → Int32 → Option Bool => B_X8_winsWith_32 N (nI k) k32) (fun _ _ _ _ _ _ => none) N (nI h) (nI (p_pk c)) (nI i) (nI (c h + i)) (nI z) (nI z) by rw [hz]; rfl]
      refine p_run (σ := Nat)
        (W := fun m g s => wk_loop (fun k32 : Int32 → Int32 → Int32 → Int32 → Int32 → Int32 → Option Bool => B_X8_winsWith_32 N (nI k) k32) (fun _ _ _ _ _ _ => none) m (nI h) (nI (p_pk c)) (nI i) (nI (c h + i)) (nI s) (nI g))
        (fun g s => s = p_off c h (c h + i) g)
        (fun B => B = some (decide (p_Wn c h k i))) e ?_ ?_ e N z z (by omega) (by omega) (by subst hz; rfl)
      · intro m g s hg hI
        have g4 : ¬ (4 : Int32) ≤ nI g := nI_ge (b := 4) (by omega) (by omega)
        have hcg := hc g
        by_cases d : g = h
        · refine ⟨s, ?_, by rw [p_off_s, if_pos d, hI]; rfl⟩
          show B_X8_winsWith_32 N (nI k) _ (nI h) (nI (p_pk c)) (nI i) (nI (c h + i)) (nI s) (nI g) = _
          rw [B_X8_winsWith_32, if_neg g4, if_pos (by rw [d]), p_nm, nI_1]
        · refine ⟨s + (c g + 1 - (c h + i)), ?_, by rw [p_off_s, if_neg d, hI]⟩
          show B_X8_winsWith_32 N (nI k) _ (nI h) (nI (p_pk c)) (nI i) (nI (c h + i)) (nI s) (nI g) = _
          rw [B_X8_winsWith_32, if_neg g4, if_neg (fun q => d ((nI_eq (by omega) (by omega)).mp q)), p_for N c (fun g => by have := hc g; omega) (by omega), p_b1, p_nm, p_nm, nI_1]
          have e1 : (if (0 : Int32) < (nI (c g) - (nI (c h + i) - (1 : Int32))) then (nI (c g) - (nI (c h + i) - (1 : Int32))) else (0 : Int32)) = nI (c g + 1 - (c h + i)) := by
            rw [show (1 : Int32) = nI 1 from rfl, pk_sub a]
            by_cases f : c h + i - 1 < c g
            · rw [if_pos (by rw [p_toInt_lt, pk_sub_toInt (by omega) (by omega), show (0 : Int32).toInt = 0 from rfl]; omega), pk_sub (by omega)]
              congr 1; omega
            · rw [if_neg (by rw [p_toInt_lt, pk_sub_toInt (by omega) (by omega), show (0 : Int32).toInt = 0 from rfl]; omega), show c g + 1 - (c h + i) = 0 by omega]; rfl
          rw [e1, nI_add]
      · intro m s hI
        rw [he] at hI
        have hle := p_off_le hc h (c h + i) 4
        show B_X8_winsWith_32 N (nI k) _ (nI h) (nI (p_pk c)) (nI i) (nI (c h + i)) (nI s) (nI e) = _
        rw [B_X8_winsWith_32, if_pos (show (4 : Int32) ≤ nI e by rw [he]; decide), hI]
        by_cases f : p_off c h (c h + i) 4 ≤ i
        · rw [if_neg (nI_nlt f (by omega)), decide_eq_true ⟨a, b, f⟩]
        · rw [if_pos (nI_lt (by omega) (by omega)), decide_eq_false (fun q => f q.2.2)]
    · rw [if_neg (nI_ge (by omega) (by omega)), decide_eq_false (fun q => b q.2.1)]
  · rw [if_pos (show nI (c h + i) < (1 : Int32) from nI_lt (b := 1) (by omega) (by omega)), decide_eq_false (fun q => a q.1)]
/-- the least of them, coded -/
def p_lst (c : Nat → Nat) (h k : Nat) (r : Int32) : Prop := (r = -4 ∧ ∀ i, ¬ p_Wn c h k i) ∨ ∃ i, r = nI i ∧ p_Wn c h k i ∧ ∀ j, j < i → ¬ p_Wn c h k j
theorem p_lst_t (c : Nat → Nat) (h k : Nat) : ∃ r, p_lst c h k r := by
  by_cases a : ∃ i, p_Wn c h k i
  · obtain ⟨i, h1, h2⟩ := pk_least (fun i => p_Wn c h k i) a
    exact ⟨nI i, Or.inr ⟨i, rfl, h1, h2⟩⟩
  · exact ⟨-4, Or.inl ⟨rfl, fun i hi => a ⟨i, hi⟩⟩⟩
theorem p_lst_f {c : Nat → Nat} {h k : Nat} {r : Int32} (hr : p_lst c h k r) {i : Nat} (hi : p_Wn c h k i) (hj : ∀ j, j < i → ¬ p_Wn c h k j) : r = nI i := by
  rcases hr with ⟨-, q⟩ | ⟨i', rfl, q1, q2⟩
  · exact absurd hi (q i)
  · have : i' = i := by
      refine Classical.byContradiction (fun ne => ?_)
      by_cases d : i' < i
      · exact hj i' d q1
      · exact q2 i (by omega) hi
    rw [this]
theorem p_lst_n {c : Nat → Nat} {h k : Nat} {r : Int32} (hr : p_lst c h k r) (hn : ∀ i, ¬ p_Wn c h k i) : r = -4 := by
  rcases hr with ⟨q, -⟩ | ⟨i', -, q1, -⟩
  · exact q
  · exact absurd q1 (hn i')
theorem p_few (N : Nat) (hN : 101 ≤ N) {c : Nat → Nat} (hc : ∀ g, c g ≤ 40) {h k : Nat} (hh : h < 4) (hk : k ≤ 40) {r : Int32} (hr : p_lst c h k r) (pc st od os : Nat → Int32) : wk_loop (fun k10 : Int32 → Int32 → Int32 → Option Int32 => B_X8_fewestChanged_10 N (nI k) pc st od os k10) (fun _ _ _ => none) N (nI h) (nI (p_pk c)) (0 : Int32) = some r := by
  obtain ⟨z, hz⟩ : ∃ z : Nat, z = 0 := ⟨_, rfl⟩
  rw [show (0 : Int32) = nI z by rw [hz]; rfl]
  refine p_runx (σ := Unit)
    (W := fun m i _ => wk_loop (fun k10 : Int32 → Int32 → Int32 → Option Int32 => B_X8_fewestChanged_10 N (nI k) pc st od os k10) (fun _ _ _ => none) m (nI h) (nI (p_pk c)) (nI i))
    (fun i _ => ∀ j, j < i → ¬ p_Wn c h k j)
    (fun B => B = some r) (k + 1) ?_ ?_ (k + 1) N z () (by omega) (by omega) (fun j hj => absurd hj (by omega))
  · intro m i _ hi hI
    have e1 : ∀ k10 : Int32 → Int32 → Int32 → Option Int32, B_X8_fewestChanged_10 N (nI k) pc st od os k10 (nI h) (nI (p_pk c)) (nI i) = if wk_bI (decide (p_Wn c h k i)) = 0 then k10 (nI h) (nI (p_pk c)) (nI (i + 1)) else some (nI i) := by
      intro k10
      rw [B_X8_fewestChanged_10, f_X8_cards, f_X3_size, p_b1, p_b1, if_neg (nI_nlt (by omega) (by omega)), p_winsWith N (by omega) hc hh hk (by omega), p_b1, p_nm, nI_1]
    by_cases a : p_Wn c h k i
    · left
      show B_X8_fewestChanged_10 N (nI k) pc st od os _ (nI h) (nI (p_pk c)) (nI i) = _
      rw [e1, decide_eq_true a, if_neg (show ¬ wk_bI true = 0 by decide), p_lst_f hr a hI]
    · right
      refine ⟨(), ?_, fun j hj => ?_⟩
      · show B_X8_fewestChanged_10 N (nI k) pc st od os _ (nI h) (nI (p_pk c)) (nI i) = _
        rw [e1, decide_eq_false a, if_pos (show wk_bI false = 0 from rfl)]
      · by_cases d : j = i
        · subst d; exact a
        · exact hI j (by omega)
  · intro m _ hI
    show B_X8_fewestChanged_10 N (nI k) pc st od os _ (nI h) (nI (p_pk c)) (nI (k + 1)) = _
    rw [B_X8_fewestChanged_10, f_X8_cards, f_X3_size, p_b1, p_b1, if_pos (nI_lt (by omega) (by omega)), p_lst_n hr]
    intro i hi
    by_cases d : i < k + 1
    · exact hI i d hi
    · have := hi.2.1; omega
/-- the check's least -/
theorem p_least11 (N : Nat) (hN : 101 ≤ N) {c : Nat → Nat} (hc : ∀ g, c g ≤ 40) {h k : Nat} (hh : h < 4) (hk : k ≤ 40) {r : Int32} (hr : p_lst c h k r) (it : Int32) {cd : Nat → Int32} (hcd : cd 0 = nI k) (ct hs uh ul ur uv uw : Nat → Int32) {uf : Nat → Int32} (hf : ∀ g, g < 4 → uf g = nI (c g)) :
    wk_loop (fun k68 : (Nat → Int32) → Int32 → Int32 → Option (Int32 × (Nat → Int32)) => B_X11_least_68 N it cd ct hs uh ul ur uv uw k68) (fun _ _ _ => none) N uf (nI h) (0 : Int32) = some (r, uf) := by
  obtain ⟨z, hz⟩ : ∃ z : Nat, z = 0 := ⟨_, rfl⟩
  have hz0 : nI z = 0 := by rw [hz]; rfl
  rw [show wk_loop (fun k68 : (Nat → Int32) → Int32 → Int32 → Option (Int32 × (Nat → Int32)) => B_X11_least_68 N it cd ct hs uh ul ur uv uw k68) (fun _ _ _ => none) N uf (nI h) (0 : Int32) = wk_loop (fun k68 : (Nat → Int32) → Int32 → Int32 → Option (Int32 × (Nat → Int32)) => B_X11_least_68 N it cd ct hs uh ul ur uv uw k68) (fun _ _ _ => none) N uf (nI h) (nI z) by rw [hz0]]
  have hch := hc h
  refine p_runx (σ := Unit)
    (W := fun m i _ => wk_loop (fun k68 : (Nat → Int32) → Int32 → Int32 → Option (Int32 × (Nat → Int32)) => B_X11_least_68 N it cd ct hs uh ul ur uv uw k68) (fun _ _ _ => none) m uf (nI h) (nI i))
    (fun i _ => ∀ j, j < i → ¬ p_Wn c h k j)
    (fun B => B = some (r, uf)) (k + 1) ?_ ?_ (k + 1) N z () (by omega) (by omega) (fun j hj => absurd hj (by omega))
  · intro m i _ hi hI
    obtain ⟨k68, hk68⟩ : ∃ q, q = wk_loop (fun k68 : (Nat → Int32) → Int32 → Int32 → Option (Int32 × (Nat → Int32)) => B_X11_least_68 N it cd ct hs uh ul ur uv uw k68) (fun _ _ _ => none) m := ⟨_, rfl⟩
    have e0 : wk_loop (fun k68 : (Nat → Int32) → Int32 → Int32 → Option (Int32 × (Nat → Int32)) => B_X11_least_68 N it cd ct hs uh ul ur uv uw k68) (fun _ _ _ => none) (m + 1) uf (nI h) (nI i) = B_X11_least_68 N it cd ct hs uh ul ur uv uw k68 uf (nI h) (nI i) := by rw [hk68]; rfl
    show wk_loop (fun k68 : (Nat → Int32) → Int32 → Int32 → Option (Int32 × (Nat → Int32)) => B_X11_least_68 N it cd ct hs uh ul ur uv uw k68) (fun _ _ _ => none) (m + 1) uf (nI h) (nI i) = _ ∨ ∃ s' : Unit, wk_loop (fun k68 : (Nat → Int32) → Int32 → Int32 → Option (Int32 × (Nat → Int32)) => B_X11_least_68 N it cd ct hs uh ul ur uv uw k68) (fun _ _ _ => none) (m + 1) uf (nI h) (nI i) = wk_loop (fun k68 : (Nat → Int32) → Int32 → Int32 → Option (Int32 × (Nat → Int32)) => B_X11_least_68 N it cd ct hs uh ul ur uv uw k68) (fun _ _ _ => none) m uf (nI h) (nI (i + 1)) ∧ _
    rw [e0, ← hk68, B_X11_least_68, p_ck0, p_ck hh (by omega), p_cl0, nI_clamp (by omega), hcd, hf h hh]
    by_cases a : k < c h + i
    · left
      rw [if_pos (by rw [p_toInt_lt, pk_sub_toInt (by omega) (by omega), nI_toInt (by omega)]; omega), p_lst_n hr]
      intro j hj
      by_cases d : j < i
      · exact hI j d hj
      · have := hj.2.1; omega
    · rw [if_neg (by rw [p_toInt_lt, pk_sub_toInt (by omega) (by omega), nI_toInt (by omega)]; omega), p_ck hh (by omega), p_nm, nI_add]
      have hle := p_off_le hc h (c h + i) 4
      -- the others' surplus
      have h103 : wk_loop (fun k103 : (Nat → Int32) → Int32 → Int32 → Int32 → Int32 → Int32 → Option (Int32 × (Nat → Int32)) => B_X11_least_103 N it cd ct hs uh ul ur uv uw k68 k103) (fun _ _ _ _ _ _ => none) N uf (nI h) (nI i) (nI (c h + i)) (0 : Int32) (0 : Int32) = if p_Wn c h k i then some (nI i, uf) else k68 uf (nI h) (nI (i + 1)) := by
        obtain ⟨e, he⟩ : ∃ e : Nat, e = 4 := ⟨_, rfl⟩
        rw [show wk_loop (fun k103 : (Nat → Int32) → Int32 → Int32 → Int32 → Int32 → Int32 → Option (Int32 × (Nat → Int32)) => B_X11_least_103 N it cd ct hs uh ul ur uv uw k68 k103) (fun _ _ _ _ _ _ => none) N uf (nI h) (nI i) (nI (c h + i)) (0 : Int32) (0 : Int32) = wk_loop (fun k103 : (Nat → Int32) → Int32 → Int32 → Int32 → Int32 → Int32 → Option (Int32 × (Nat → Int32)) => B_X11_least_103 N it cd ct hs uh ul ur uv uw k68 k103) (fun _ _ _ _ _ _ => none) N uf (nI h) (nI i) (nI (c h + i)) (nI z) (nI z) by rw [hz0]]
        refine p_run (σ := Nat)
          (W := fun m g s => wk_loop (fun k103 : (Nat → Int32) → Int32 → Int32 → Int32 → Int32 → Int32 → Option (Int32 × (Nat → Int32)) => B_X11_least_103 N it cd ct hs uh ul ur uv uw k68 k103) (fun _ _ _ _ _ _ => none) m uf (nI h) (nI i) (nI (c h + i)) (nI s) (nI g))
          (fun g s => s = p_off c h (c h + i) g)
          (fun B => B = if p_Wn c h k i then some (nI i, uf) else k68 uf (nI h) (nI (i + 1))) e ?_ ?_ e N z z (by omega) (by omega) (by subst hz; rfl)
        · intro m g s hg hI2
          have g4 : ¬ (4 : Int32) ≤ nI g := nI_ge (b := 4) (by omega) (by omega)
          have hcg := hc g
          by_cases d : g = h
          · refine ⟨s, ?_, by rw [p_off_s, if_pos d, hI2]; rfl⟩
            show B_X11_least_103 N it cd ct hs uh ul ur uv uw k68 _ uf (nI h) (nI i) (nI (c h + i)) (nI s) (nI g) = _
            rw [B_X11_least_103, if_neg g4, if_pos (by rw [d]), p_nm, p_nm, nI_1, Int32.add_zero]
          · have nd : ¬ nI g = nI h := fun q => d ((nI_eq (by omega) (by omega)).mp q)
            by_cases f : c g < c h + i
            · refine ⟨s, ?_, by rw [p_off_s, if_neg d, hI2, show c g + 1 - (c h + i) = 0 by omega]; rfl⟩
              show B_X11_least_103 N it cd ct hs uh ul ur uv uw k68 _ uf (nI h) (nI i) (nI (c h + i)) (nI s) (nI g) = _
              rw [B_X11_least_103, if_neg g4, if_neg nd, p_ck (by omega) (by omega), nI_clamp (by omega), hf g (by omega), if_pos (nI_lt f (by omega)), p_nm, p_nm, nI_1, Int32.add_zero]
            · refine ⟨s + (c g + 1 - (c h + i)), ?_, by rw [p_off_s, if_neg d, hI2]⟩
              show B_X11_least_103 N it cd ct hs uh ul ur uv uw k68 _ uf (nI h) (nI i) (nI (c h + i)) (nI s) (nI g) = _
              rw [B_X11_least_103, if_neg g4, if_neg nd, p_ck (by omega) (by omega), nI_clamp (by omega), hf g (by omega), if_neg (nI_nlt (by omega) (by omega)), p_ck (by omega) (by omega), pk_sub (by omega), nI_1, nI_add, p_nm, p_nm, nI_1, show c g - (c h + i) + 1 = c g + 1 - (c h + i) by omega]
        · intro m s hI2
          rw [he] at hI2
          show B_X11_least_103 N it cd ct hs uh ul ur uv uw k68 _ uf (nI h) (nI i) (nI (c h + i)) (nI s) (nI e) = _
          rw [B_X11_least_103, if_pos (show (4 : Int32) ≤ nI e by rw [he]; decide), hI2, p_nm, nI_1]
          by_cases d : c h + i = 0
          · rw [if_pos (show nI (c h + i) ≤ 0 by rw [d]; decide), if_neg (fun q => by have := q.1; omega)]
          · rw [if_neg (nI_nle (by omega) (by omega))]
            by_cases f : p_off c h (c h + i) 4 ≤ i
            · rw [if_neg (nI_nlt f (by omega)), if_pos ⟨by omega, by omega, f⟩]
            · rw [if_pos (nI_lt (by omega) (by omega)), if_neg (fun q => f q.2.2)]
      rw [h103]
      by_cases d : p_Wn c h k i
      · left; rw [if_pos d, p_lst_f hr d hI]
      · right
        refine ⟨(), by rw [if_neg d], fun j hj => ?_⟩
        by_cases f : j = i
        · subst f; exact d
        · exact hI j (by omega)
  · intro m _ hI
    show B_X11_least_68 N it cd ct hs uh ul ur uv uw _ uf (nI h) (nI (k + 1)) = _
    rw [B_X11_least_68, p_ck0, p_ck hh (by omega), p_cl0, nI_clamp (by omega), hcd, hf h hh, if_pos (by rw [p_toInt_lt, pk_sub_toInt (by omega) (by omega), nI_toInt (by omega)]; omega), p_lst_n hr]
    intro j hj
    by_cases d : j < k + 1
    · exact hI j d hj
    · have := hj.2.1; omega
theorem q_least (N : Nat) (hN : 101 ≤ N) {sz it : Int32} {co hr kd rk vl uh ul ur uv uw : Nat → Int32} {n : Nat} (hR : ROrd sz co hr kd rk vl it uh ul ur uv uw n) {pz : Int32} {pc st cd ct hs : Nat → Int32} {k : Nat} (hP : RPile pz pc st cd ct hs 0 k) (dm ss uf : Nat → Int32) (x y z : Int32) :
    ∃ r od os of, f_X10_least N sz co hr kd rk vl pz pc st dm ss x y z = some (r, od, os) ∧ f_X11_least N it cd ct hs uh ul ur uv uw uf x y z = some (r, of) := by
  unfold f_X10_least f_X11_least f_X8_readIn
  simp only [p_isRace, p_isHole, p_isHour, p_mhour, p_inI, p_b1, p_bI, decide_eq_false_iff_not, show (0 : Int64).toInt = 0 from rfl, show (2 : Int64).toInt = 2 from rfl, show (3 : Int64).toInt = 3 from rfl]
  by_cases a : 0 ≤ x.toInt ∧ x.toInt ≤ 2
  · by_cases b : 0 ≤ y.toInt ∧ y.toInt ≤ 3
    · by_cases c : 0 ≤ z.toInt ∧ z.toInt ≤ 999
      · simp only [if_neg (not_not_intro a), if_neg (not_not_intro b), if_neg (not_not_intro c)]
        obtain ⟨j, hj, rfl⟩ := p_of (n := 2) a.1 a.2
        obtain ⟨h, hh, rfl⟩ := p_of (n := 3) b.1 b.2
        obtain ⟨od, os, e1, hD⟩ := q_readIn N (by omega) hR dm ss z 0
        obtain ⟨f, f1, f2, f3⟩ := q_cnt N (by omega) hR hP hD (r := j) (by omega) 5
        obtain ⟨r, hr'⟩ := p_lst_t f h k
        obtain ⟨hk, rfl, hcd, -, -⟩ := hP
        unfold f_X8_fewestChanged
        rw [e1, p_b2, p_b2, f2, p_b1, p_few N hN f1 (by omega) hk hr', p_b1]
        obtain ⟨e, he⟩ : ∃ e : Nat, e = 4 := ⟨_, rfl⟩
        obtain ⟨q0, hq0⟩ : ∃ z : Nat, z = 0 := ⟨_, rfl⟩
        have hz0 : nI q0 = 0 := by rw [hq0]; rfl
        have h36 : ∃ uf', wk_loop (fun k36 : (Nat → Int32) → Int32 → Int32 → Int32 → Int32 → Option (Int32 × (Nat → Int32)) => B_X11_least_36 N it cd ct hs uh ul ur uv uw k36) (fun _ _ _ _ _ => none) N uf (nI j) (nI h) z (0 : Int32) = some (r, uf') := by
          rw [show wk_loop (fun k36 : (Nat → Int32) → Int32 → Int32 → Int32 → Int32 → Option (Int32 × (Nat → Int32)) => B_X11_least_36 N it cd ct hs uh ul ur uv uw k36) (fun _ _ _ _ _ => none) N uf (nI j) (nI h) z (0 : Int32) = wk_loop (fun k36 : (Nat → Int32) → Int32 → Int32 → Int32 → Int32 → Option (Int32 × (Nat → Int32)) => B_X11_least_36 N it cd ct hs uh ul ur uv uw k36) (fun _ _ _ _ _ => none) N uf (nI j) (nI h) z (nI q0) by rw [hz0]]
          refine p_run (σ := Nat → Int32)
            (W := fun m i s => wk_loop (fun k36 : (Nat → Int32) → Int32 → Int32 → Int32 → Int32 → Option (Int32 × (Nat → Int32)) => B_X11_least_36 N it cd ct hs uh ul ur uv uw k36) (fun _ _ _ _ _ => none) m s (nI j) (nI h) z (nI i))
            (fun i s => ∀ g, g < i → s g = nI (f g))
            (fun B => ∃ uf', B = some (r, uf')) e ?_ ?_ e N q0 uf (by omega) (by omega) (fun g hg => absurd hg (by omega))
          · intro m i s hi hI
            refine ⟨upd s i (nI (f i)), ?_, fun g hg => ?_⟩
            · show B_X11_least_36 N it cd ct hs uh ul ur uv uw _ s (nI j) (nI h) z (nI i) = _
              rw [B_X11_least_36, if_neg (show ¬ (4 : Int32) ≤ nI i from nI_ge (b := 4) (by omega) (by omega)), f3 i, p_b1, p_ck (by omega) (by omega), nI_clamp (by omega), p_nm, nI_1]
            · by_cases d : g = i
              · subst d; exact pk_us
              · rw [pk_un d]; exact hI g (by omega)
          · intro m s hI
            show ∃ uf', B_X11_least_36 N it cd ct hs uh ul ur uv uw _ s (nI j) (nI h) z (nI e) = _
            rw [B_X11_least_36, if_pos (show (4 : Int32) ≤ nI e by rw [he]; decide)]
            exact ⟨s, p_least11 N hN f1 (by omega) hk hr' it hcd ct hs uh ul ur uv uw (fun g hg => hI g (by omega))⟩
        obtain ⟨uf', e2⟩ := h36
        rw [e2]
        exact ⟨_, _, _, _, rfl, rfl⟩
      · simp only [if_neg (not_not_intro a), if_neg (not_not_intro b), if_pos c]; exact ⟨_, _, _, _, rfl, rfl⟩
    · simp only [if_neg (not_not_intro a), if_pos b]; exact ⟨_, _, _, _, rfl, rfl⟩
  · simp only [if_pos a]; exact ⟨_, _, _, _, rfl, rfl⟩
