/-! PURE: mixtures added up; byRule -/
def p_tp (ct : Nat → Int32) (vt : Nat → Nat → Int32) (d : Nat → Nat) (n g : Nat) : Nat → Nat | 0 => 0 | k + 1 => p_tp ct vt d n g k + p_cnt (p_sel ct (nI k) (vt (d k)) g) n
theorem p_tp_s (ct : Nat → Int32) (vt : Nat → Nat → Int32) (d : Nat → Nat) (n g k : Nat) : p_tp ct vt d n g (k + 1) = p_tp ct vt d n g k + p_cnt (p_sel ct (nI k) (vt (d k)) g) n := rfl
theorem p_tp_0 (ct : Nat → Int32) (vt : Nat → Nat → Int32) (d : Nat → Nat) (g : Nat) : ∀ k, p_tp ct vt d 0 g k = 0
  | 0 => rfl
  | k + 1 => by rw [p_tp_s, p_tp_0 ct vt d g k]; rfl
/-- one card more: it counts in its own county alone -/
theorem p_tp_n {ct : Nat → Int32} (vt : Nat → Nat → Int32) (d : Nat → Nat) {n c : Nat} (hc : c < 5) (e : ct n = nI c) (g : Nat) : ∀ k, k ≤ 5 → p_tp ct vt d (n + 1) g k = p_tp ct vt d n g k + (if c < k ∧ vt (d c) n = nI g then 1 else 0)
  | 0, _ => by rw [if_neg (by omega)]; rfl
  | k + 1, hk => by
    rw [p_tp_s, p_tp_s, p_tp_n vt d hc e g k (by omega), p_cnt_s]
    have hs : (p_sel ct (nI k) (vt (d k)) g n = true) ↔ (c = k ∧ vt (d c) n = nI g) := by
      constructor
      · intro w
        obtain ⟨w1, w2⟩ := of_decide_eq_true w
        rcases w1 with w1 | w1
        · exact (p_n55 k (by omega) w1).elim
        · have q : c = k := (p_n5 c hc k (by omega)).mp (e.symm.trans w1)
          subst q
          exact ⟨rfl, w2⟩
      · rintro ⟨rfl, w2⟩
        exact decide_eq_true ⟨Or.inr e, w2⟩
    by_cases q : c = k ∧ vt (d c) n = nI g
    · rw [if_neg (show ¬ (c < k ∧ vt (d c) n = nI g) from fun w => by omega), if_pos (hs.mpr q), if_pos (show c < k + 1 ∧ vt (d c) n = nI g from ⟨by omega, q.2⟩)]
      omega
    · rw [if_neg (fun w => q (hs.mp w))]
      by_cases w : c < k ∧ vt (d c) n = nI g
      · rw [if_pos w, if_pos (show c < k + 1 ∧ vt (d c) n = nI g from ⟨by omega, w.2⟩)]
        omega
      · rw [if_neg w, if_neg (show ¬ (c < k + 1 ∧ vt (d c) n = nI g) from fun x => by
          by_cases y : c = k
          · exact q ⟨y, x.2⟩
          · exact w ⟨by omega, x.2⟩)]
        omega
theorem p_tp_le {ct : Nat → Int32} (vt : Nat → Nat → Int32) (d : Nat → Nat) (g : Nat) {k : Nat} (hk : k ≤ 5) : ∀ n, (∀ j, j < n → ∃ c, c < 5 ∧ ct j = nI c) → p_tp ct vt d n g k ≤ n
  | 0, _ => by rw [p_tp_0]; omega
  | n + 1, h => by
    obtain ⟨c, hc, e⟩ := h n (by omega)
    have := p_tp_le vt d g hk n (fun j hj => h j (by omega))
    rw [p_tp_n vt d hc e g k hk]
    by_cases q : c < k ∧ vt (d c) n = nI g
    · rw [if_pos q]; omega
    · rw [if_neg q]; omega
/-- one rule everywhere: all cards -/
theorem p_tp_all {ct : Nat → Int32} (vt : Nat → Nat → Int32) (l g : Nat) : ∀ n, (∀ j, j < n → ∃ c, c < 5 ∧ ct j = nI c) → p_tp ct vt (fun _ => l) n g 5 = p_cnt (p_sel ct 5 (vt l) g) n
  | 0, _ => by rw [p_tp_0]; rfl
  | n + 1, h => by
    obtain ⟨c, hc, e⟩ := h n (by omega)
    rw [p_tp_n vt _ hc e g 5 (by omega), p_tp_all vt l g n (fun j hj => h j (by omega)), p_cnt_s]
    by_cases q : vt l n = nI g
    · rw [if_pos ⟨hc, q⟩, if_pos (show p_sel ct 5 (vt l) g n = true from decide_eq_true ⟨Or.inl rfl, q⟩)]
    · rw [if_neg (fun w => q w.2), if_neg (fun w => q (of_decide_eq_true w).2)]
def p_dg (m c : Nat) : Nat := m / 2 ^ (3 * c) % 8
theorem p_shm : ∀ c, c < 5 → ((((3 : Int32) * nI c) &&& 31).toBitVec.smod 32).toNat = 3 * c := by decide
theorem p_dig {m c : Nat} (hm : m < 2 ^ 31) (hc : c < 5) : (nI m >>> (((3 : Int32) * nI c) &&& 31)) &&& (7 : Int32) = nI (p_dg m c) := by
  rw [pk_shrN hm _ (3 * c) (p_shm c hc), show (7 : Int32) = nI 7 from rfl, pk_andN (show m / 2 ^ (3 * c) < 2 ^ 32 from Nat.lt_of_le_of_lt (Nat.div_le_self _ _) (by omega)) 3 (by decide)]
  rfl
theorem q_mixes (N : Nat) (hN : 121 ≤ N) {ct : Nat → Int32} {n : Nat} {vt : Nat → Nat → Int32} {o : Nat → Int32} (ho : ∀ cy, cy < 5 → ∀ l, 1 ≤ l → l ≤ 5 → ∀ h, h < 4 → o (24 * cy + 4 * l + h) = nI (p_cnt (p_sel ct (nI cy) (vt l) h) n)) {m : Nat} (hm : m < 2 ^ 31) (hd : ∀ c, c < 5 → 1 ≤ p_dg m c ∧ p_dg m c ≤ 5) (uf : Nat → Int32) :
    ∃ s, f_X11_mixes N o uf (nI m) = some s ∧ ∀ g, g < 4 → s g = nI (p_tp ct vt (p_dg m) n g 5) := by
  unfold f_X11_mixes
  obtain ⟨e, he⟩ : ∃ e : Nat, e = 4 := ⟨_, rfl⟩
  obtain ⟨z, hz⟩ : ∃ z : Nat, z = 0 := ⟨_, rfl⟩
  have ez : (0 : Int32) = nI z := by rw [hz]; rfl
  rw [ez]
  refine p_run (σ := Nat → Int32) (W := fun k i s => wk_loop (fun k2 : (Nat → Int32) → Int32 → Int32 → Option (Nat → Int32) => B_X11_mixes_2 N o k2) (fun _ _ _ => none) k s (nI m) (nI i)) (fun i s => ∀ g, g < i → s g = nI (p_tp ct vt (p_dg m) n g 5)) (fun A => ∃ s, A = some s ∧ ∀ g, g < 4 → s g = nI (p_tp ct vt (p_dg m) n g 5)) e ?_ ?_ 4 N z uf (by omega) (by omega) (fun j hj => by omega)
  · intro k i s hi hI
    have inner : ∀ k2 : (Nat → Int32) → Int32 → Int32 → Option (Nat → Int32), ∃ s', wk_loop (fun k16 : (Nat → Int32) → Int32 → Int32 → Int32 → Option (Nat → Int32) => B_X11_mixes_16 N o k2 k16) (fun _ _ _ _ => none) N (upd s i (nI z)) (nI m) (nI i) (nI z) = k2 s' (nI m) (nI (i + 1)) ∧ ∀ g, g < i + 1 → s' g = nI (p_tp ct vt (p_dg m) n g 5) := by
      intro k2
      obtain ⟨e5, he5⟩ : ∃ e : Nat, e = 5 := ⟨_, rfl⟩
      refine p_run (σ := Nat → Int32) (W := fun k j s => wk_loop (fun k16 : (Nat → Int32) → Int32 → Int32 → Int32 → Option (Nat → Int32) => B_X11_mixes_16 N o k2 k16) (fun _ _ _ _ => none) k s (nI m) (nI i) (nI j)) (fun j s => s i = nI (p_tp ct vt (p_dg m) n i j) ∧ ∀ g, g < i → s g = nI (p_tp ct vt (p_dg m) n g 5)) (fun A => ∃ s', A = k2 s' (nI m) (nI (i + 1)) ∧ ∀ g, g < i + 1 → s' g = nI (p_tp ct vt (p_dg m) n g 5)) e5 ?_ ?_ 5 N z _ (by omega) (by omega) ⟨by rw [pk_us, hz]; rfl, fun g hg => by rw [pk_un (by omega)]; exact hI g hg⟩
      · rintro k j s hj ⟨hJ1, hJ2⟩
        have gj : ¬ (5 : Int32) ≤ nI j := nI_ge (b := 5) (by omega) (by omega)
        obtain ⟨d1, d2⟩ := hd j (by omega)
        have ei : (((24 : Int32) * nI j) + ((4 : Int32) * nI (p_dg m j))) + nI i = nI (24 * j + 4 * p_dg m j + i) := by
          rw [show (24 : Int32) = nI 24 from rfl, show (4 : Int32) = nI 4 from rfl, pk_mul, pk_mul, nI_add, nI_add]
        refine ⟨upd s i (nI (p_tp ct vt (p_dg m) n i (j + 1))), ?_, by rw [pk_us], fun g hg => by rw [pk_un (by omega)]; exact hJ2 g hg⟩
        show B_X11_mixes_16 N o k2 _ s (nI m) (nI i) (nI j) = _
        rw [B_X11_mixes_16, if_neg gj, p_ck (by omega) (by omega), p_dig hm (by omega), ei, p_ck (by omega) (by omega), p_ck (by omega) (by omega), p_nm, nI_1, nI_clamp (by omega), nI_clamp (by omega), hJ1, ho j (by omega) _ d1 d2 i (by omega), nI_add, p_tp_s]
      · rintro k s ⟨hJ1, hJ2⟩
        refine ⟨s, ?_, fun g hg => ?_⟩
        · show B_X11_mixes_16 N o k2 _ s (nI m) (nI i) (nI e5) = _
          rw [B_X11_mixes_16, if_pos (show (5 : Int32) ≤ nI e5 from nI_le (a := 5) (by omega) (by omega)), p_nm, nI_1]
        · by_cases w : g = i
          · rw [w, hJ1, he5]
          · exact hJ2 g (by omega)
    obtain ⟨s', e1, e2⟩ := inner (fun a b c => wk_loop (fun k2 : (Nat → Int32) → Int32 → Int32 → Option (Nat → Int32) => B_X11_mixes_2 N o k2) (fun _ _ _ => none) k a b c)
    refine ⟨s', ?_, e2⟩
    show B_X11_mixes_2 N o _ s (nI m) (nI i) = _
    rw [B_X11_mixes_2, if_neg (show ¬ (4 : Int32) ≤ nI i from nI_ge (b := 4) (by omega) (by omega)), p_ck (by omega) (by omega), nI_clamp (by omega), ez]
    exact e1
  · intro k s hI
    refine ⟨s, ?_, fun g hg => hI g (by omega)⟩
    show B_X11_mixes_2 N o _ s (nI m) (nI e) = _
    rw [B_X11_mixes_2, if_pos (show (4 : Int32) ≤ nI e from nI_le (a := 4) (by omega) (by omega))]
theorem p_same : ∀ l, l < 6 → ∀ c, c < 5 → p_dg (l * 4681) c = l := by decide
theorem p_tp_d {ct : Nat → Int32} {vt : Nat → Nat → Int32} {d d' : Nat → Nat} {n g : Nat} : ∀ k, (∀ c, c < k → d c = d' c) → p_tp ct vt d n g k = p_tp ct vt d' n g k
  | 0, _ => rfl
  | k + 1, h => by rw [p_tp_s, p_tp_s, h k (by omega), p_tp_d k (fun c hc => h c (by omega))]
/-- the check's counts, for a rule everywhere -/
theorem q_byM (N : Nat) (hN : 121 ≤ N) {cd ct hs : Nat → Int32} {n : Nat} (hn : n ≤ 40) (hcd : cd 0 = nI n) (hct : ∀ k, k < n → ∃ c, c < 5 ∧ ct k = nI c) {r : Nat} (hr : r < 3) {vt : Nat → Nat → Int32} (hv : ∀ l c, c < n → f_X11_votes N hs (nI c) (nI r) (nI l) (0 : Int32) = some (vt l c) ∧ (vt l c = -4 ∨ ∃ h, h < 4 ∧ vt l c = nI h)) (ub uf : Nat → Int32) {l : Nat} (h1 : 1 ≤ l) (h5 : l ≤ 5) :
    ∃ v ob of, f_X11_byRule N cd ct hs ub uf (nI r) (nI l) = some (v, ob, of) ∧ p_isw (fun g => p_cnt (p_sel ct 5 (vt l) g) n) v ∧ ∀ cy, cy < 5 → ∀ l, 1 ≤ l → l ≤ 5 → ∀ h, h < 4 → ob (24 * cy + 4 * l + h) = nI (p_cnt (p_sel ct (nI cy) (vt l) h) n) := by
  obtain ⟨o, e1, ho⟩ := q_counts N hN hn hcd hct hv ub
  obtain ⟨s, e2, hs2⟩ := q_mixes N hN ho (m := l * 4681) (by omega) (fun c hc => by rw [p_same l (by omega) c hc]; exact ⟨h1, h5⟩) uf
  obtain ⟨v, hv2, e3⟩ := p_most N (by omega) (c := fun g => p_cnt (p_sel ct 5 (vt l) g) n) (fun g => Nat.le_trans (p_cnt_le _ _) hn) (uf := s) (fun g hg => by rw [hs2 g hg, ← p_tp_all vt l g n hct, p_tp_d 5 (fun c hc => p_same l (by omega) c hc)])
  refine ⟨v, o, s, ?_, hv2, ho⟩
  unfold f_X11_byRule
  simp only [p_inI, p_b1, p_bI, decide_eq_false_iff_not, show (0 : Int64).toInt = 0 from rfl, show (1 : Int64).toInt = 1 from rfl, show (2 : Int64).toInt = 2 from rfl, show (5 : Int64).toInt = 5 from rfl]
  rw [if_neg (not_not_intro (by rw [nI_toInt (by omega)]; omega)), if_neg (not_not_intro (by rw [nI_toInt (by omega)]; omega)), e1, p_b1, show (4681 : Int32) = nI 4681 from rfl, pk_mul, e2, p_b1, e3, p_b1]
theorem p_isRule (N : Nat) (x : Int32) : f_X10_isRule N x = some (decide (1 ≤ x.toInt ∧ x.toInt ≤ 5)) := by
  unfold f_X10_isRule
  simp only [p_toInt_lt, show (1 : Int32).toInt = 1 from rfl, show (5 : Int32).toInt = 5 from rfl]
  by_cases a : x.toInt < 1
  · rw [if_pos a, decide_eq_false (by omega)]
  · rw [if_neg a]
    by_cases b : 5 < x.toInt
    · rw [if_pos b, decide_eq_false (by omega)]
    · rw [if_neg b, decide_eq_true (by omega)]
theorem q_byRule (N : Nat) (hN : 121 ≤ N) {pz : Int32} {pc st cd ct hs : Nat → Int32} {k : Nat} (hP : RPile pz pc st cd ct hs 0 k) (dm ss ub uf : Nat → Int32) (x y : Int32) :
    ∃ r od os ob of, f_X10_byRule N pz pc st dm ss x y = some (r, od, os) ∧ f_X11_byRule N cd ct hs ub uf x y = some (r, ob, of) := by
  by_cases a : 0 ≤ x.toInt ∧ x.toInt ≤ 2
  · by_cases b : 1 ≤ y.toInt ∧ y.toInt ≤ 5
    · obtain ⟨r, hr, rfl⟩ := p_of (n := 2) a.1 a.2
      obtain ⟨l, hl, rfl⟩ := p_of (n := 5) (by omega) b.2
      have hl1 : 1 ≤ l := by have := b.1; rw [nI_toInt (by omega)] at this; omega
      obtain ⟨vt, hv⟩ := p_vtr N (by omega) hP (r := r) (by omega)
      obtain ⟨hk, rfl, hcd, hco, -⟩ := hP
      have hct : ∀ j, j < k → ∃ c, c < 5 ∧ ct j = nI c := fun j hj => by
        obtain ⟨q, c, hc, q2⟩ := hco j hj
        rw [Nat.mul_zero, Nat.zero_add] at q
        exact ⟨c, hc, q.symm.trans q2⟩
      have hpc : ∀ j, j < k → pc j = ct j := fun j hj => by
        obtain ⟨q, -⟩ := hco j hj
        rw [Nat.mul_zero, Nat.zero_add] at q
        exact q
      obtain ⟨v, ob, of, e1, hv1, -⟩ := q_byM N hN hk hcd hct (r := r) (by omega) (fun l c hc => (hv l c hc).2) ub uf hl1 hl
      obtain ⟨od, os, e2, hD⟩ := q_readBy N (by omega) dm ss (nI l)
      have e3 := q_sum N (by omega) hk (fun c hc => (hv l c hc).1 od os hD) (fun c hc => (hv l c hc).2.2) 5
      obtain ⟨w, hw, e4⟩ := p_won N (by omega) (c := fun g => p_cnt (p_sel pc 5 (vt l) g) k) (fun g => Nat.le_trans (p_cnt_le _ _) hk)
      have ew : w = v := by
        refine p_isw_1 hw ?_
        have : (fun g => p_cnt (p_sel pc 5 (vt l) g) k) = fun g => p_cnt (p_sel ct 5 (vt l) g) k := by
          funext g
          exact p_cnt_c fun j hj => by unfold p_sel; rw [hpc j hj]
        rw [this]; exact hv1
      subst ew
      refine ⟨w, od, os, ob, of, ?_, e1⟩
      unfold f_X10_byRule
      simp only [p_isRace, p_isRule, p_b1, p_bI, decide_eq_false_iff_not]
      rw [if_neg (not_not_intro a), if_neg (not_not_intro b), e2, p_b2, e3, p_b1, e4, p_b1]
    · unfold f_X10_byRule f_X11_byRule
      simp only [p_isRace, p_isRule, p_inI, p_b1, p_bI, decide_eq_false_iff_not, show (0 : Int64).toInt = 0 from rfl, show (1 : Int64).toInt = 1 from rfl, show (2 : Int64).toInt = 2 from rfl, show (5 : Int64).toInt = 5 from rfl, if_neg (not_not_intro a), if_pos b]
      exact ⟨_, _, _, _, _, rfl, rfl⟩
  · unfold f_X10_byRule f_X11_byRule
    simp only [p_isRace, p_isRule, p_inI, p_b1, p_bI, decide_eq_false_iff_not, show (0 : Int64).toInt = 0 from rfl, show (1 : Int64).toInt = 1 from rfl, show (2 : Int64).toInt = 2 from rfl, show (5 : Int64).toInt = 5 from rfl, if_pos a]
    exact ⟨_, _, _, _, _, rfl, rfl⟩
