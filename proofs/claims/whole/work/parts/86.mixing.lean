/-! PURE: mixtures tried one by one -/
def p_mx (c : Nat → Nat) (h : Nat) : Nat → Nat | 0 => 0 | g + 1 => if g = h then p_mx c h g else max (p_mx c h g) (c g)
theorem p_mx_s (c : Nat → Nat) (h g : Nat) : p_mx c h (g + 1) = if g = h then p_mx c h g else max (p_mx c h g) (c g) := rfl
theorem p_mx_isb (c : Nat → Nat) (h : Nat) : ∀ i, p_isb c h i (p_mx c h i) := by
  intro i
  induction i with
  | zero => exact ⟨fun g hg => absurd hg (by omega), Or.inl rfl⟩
  | succ i ih =>
    obtain ⟨h1, h2⟩ := ih
    rw [p_mx_s]
    by_cases a : i = h
    · rw [if_pos a]
      refine ⟨fun g hg hgh => h1 g (by omega) hgh, ?_⟩
      rcases h2 with q | ⟨g, q1, q2, q3⟩
      · exact Or.inl q
      · exact Or.inr ⟨g, by omega, q2, q3⟩
    · rw [if_neg a]
      refine ⟨fun g hg hgh => ?_, ?_⟩
      · by_cases b : g = i
        · subst b; exact Nat.le_max_right _ _
        · exact Nat.le_trans (h1 g (by omega) hgh) (Nat.le_max_left _ _)
      · by_cases b : p_mx c h i ≤ c i
        · rw [Nat.max_eq_right b]; exact Or.inr ⟨i, by omega, a, rfl⟩
        · rw [Nat.max_eq_left (by omega)]
          rcases h2 with q | ⟨g, q1, q2, q3⟩
          · exact Or.inl q
          · exact Or.inr ⟨g, by omega, q2, q3⟩
theorem p_isb_u {c : Nat → Nat} {h i b b' : Nat} (h1 : p_isb c h i b) (h2 : p_isb c h i b') : b = b' := by
  obtain ⟨a1, a2⟩ := h1
  obtain ⟨b1, b2⟩ := h2
  have e1 : b ≤ b' := by
    rcases a2 with q | ⟨g, q1, q2, q3⟩
    · omega
    · have := b1 g q1 q2; omega
  have e2 : b' ≤ b := by
    rcases b2 with q | ⟨g, q1, q2, q3⟩
    · omega
    · have := a1 g q1 q2; omega
  omega
def p_ldI (c : Nat → Nat) (h : Nat) : Int := (c h : Int) - (p_mx c h 4 : Int)
theorem p_mx_le {c : Nat → Nat} (hc : ∀ g, c g ≤ 40) (h : Nat) : ∀ i, p_mx c h i ≤ 40 := by
  intro i
  induction i with
  | zero => exact Nat.zero_le _
  | succ i ih => rw [p_mx_s]; have := hc i; split <;> omega
theorem p_lead2 (N : Nat) (hN : 41 ≤ N) {c : Nat → Nat} (hc : ∀ g, c g ≤ 40) {h : Nat} (hh : h < 4) : ∃ v, f_X10_leadOf N (nI h) (nI (p_pk c)) = some v ∧ v.toInt = p_ldI c h := by
  obtain ⟨b, hb, hi, e⟩ := p_lead N hN hc hh
  refine ⟨_, e, ?_⟩
  have := hc h
  rw [pk_sub_toInt (by omega) (by omega), p_isb_u hi (p_mx_isb c h 4)]
  rfl
/-- who wins in some mixture -/
def RMw (T : (Nat → Nat) → Nat → Nat) (V : (Nat → Nat) → Prop) (w : Int32) : Prop := ∃ b, b < 16 ∧ w = nI b ∧ ∀ h, h < 4 → (b.testBit h = true ↔ ∃ d, V d ∧ p_str (T d) h 4)
/-- the greatest lead -/
def RMl (T : (Nat → Nat) → Nat → Nat) (V : (Nat → Nat) → Prop) (h : Nat) (ld : Int32) : Prop := (ld = -1000 ∧ ∀ d, ¬ V d) ∨ ((∃ d, V d ∧ ld.toInt = p_ldI (T d) h) ∧ ∀ d, V d → p_ldI (T d) h ≤ ld.toInt)
def p_tn (T : (Nat → Nat) → Nat → Nat) (std : Int32) (d : Nat → Nat) : Prop := ∃ h, h < 4 ∧ p_str (T d) h 4 ∧ nI h ≠ std
abbrev p_kle (a b : Nat) : Prop := p_pc8 a < p_pc8 b ∨ (p_pc8 a = p_pc8 b ∧ a ≤ b)
theorem p_kle_r (a : Nat) : p_kle a a := Or.inr ⟨rfl, Nat.le_refl a⟩
theorem p_kle_t {a b c : Nat} (h1 : p_kle a b) (h2 : p_kle b c) : p_kle a c := by unfold p_kle at *; omega
theorem p_kle_n {a b : Nat} (h : ¬ p_kle a b) : p_kle b a := by unfold p_kle at *; omega
theorem p_kle_a {a b : Nat} (h1 : p_kle a b) (h2 : p_kle b a) : a = b := by unfold p_kle at *; omega
/-- the counties that leave the base -/
def p_lv (base : Nat) (d : Nat → Nat) : Nat := p_bits (fun c => decide (d c ≠ base)) 5
theorem p_bits_c {f g : Nat → Bool} : ∀ k, (∀ c, c < k → f c = g c) → p_bits f k = p_bits g k := by
  intro k
  induction k with
  | zero => intro _; rfl
  | succ k ih => intro h; rw [p_bits_s, p_bits_s, ih (fun c hc => h c (by omega)), h k (by omega)]
theorem p_lv_c {base : Nat} {d d' : Nat → Nat} (h : ∀ c, c < 5 → d c = d' c) : p_lv base d = p_lv base d' := p_bits_c 5 (fun c hc => by rw [h c hc])
theorem p_lv_lt (base : Nat) (d : Nat → Nat) : p_lv base d < 32 := p_bits_lt _ 5
/-- the fewest -/
def RMf (T : (Nat → Nat) → Nat → Nat) (V : (Nat → Nat) → Prop) (base : Nat) (std fw : Int32) : Prop := (fw = -4 ∧ ∀ d, V d → ¬ p_tn T std d) ∨ ∃ d, V d ∧ p_tn T std d ∧ fw = nI (p_lv base d) ∧ ∀ d', V d' → p_tn T std d' → p_kle (p_lv base d) (p_lv base d')
def RMx (T : (Nat → Nat) → Nat → Nat) (V : (Nat → Nat) → Prop) (h base : Nat) (std w ld fw : Int32) : Prop := RMw T V w ∧ RMl T V h ld ∧ RMf T V base std fw
theorem RMx.of {T : (Nat → Nat) → Nat → Nat} {V V' : (Nat → Nat) → Prop} {h base : Nat} {std w ld fw : Int32} (H : RMx T V h base std w ld fw) (hV : ∀ d, V d ↔ V' d) : RMx T V' h base std w ld fw := by
  have : V = V' := funext (fun d => propext (hV d))
  rw [← this]; exact H
theorem p_fewer (N : Nat) {a b : Nat} (ha : a < 32) (hb : b < 32) : f_X0_isFewer N (nI a) (nI b) = some (decide (¬ p_kle a b)) := by
  have h1 := p_pc8_le a
  have h2 := p_pc8_le b
  unfold f_X0_isFewer
  rw [if_neg (fun q => by
    have := congrArg Int32.toInt q
    rw [nI_toInt (by omega), show (-4 : Int32).toInt = -4 from rfl] at this
    omega), show f_J6_bitCount_0f7a4 N (nI b) = f_J6_bitCount_0f7a4 0 (nI b) from rfl, p_bc8 b (by omega), p_b1, show f_J6_bitCount_0f7a4 N (nI a) = f_J6_bitCount_0f7a4 0 (nI a) from rfl, p_bc8 a (by omega), p_b1, p_nm]
  have es : (nI (p_pc8 b) - nI (p_pc8 a)).toInt = (p_pc8 b : Int) - p_pc8 a := pk_sub_toInt (by omega) (by omega)
  by_cases c : p_pc8 b < p_pc8 a
  · rw [if_pos (by rw [p_toInt_lt, es, show (0 : Int32).toInt = 0 from rfl]; omega), decide_eq_true (by unfold p_kle; omega)]
  · rw [if_neg (by rw [p_toInt_lt, es, show (0 : Int32).toInt = 0 from rfl]; omega)]
    by_cases d : p_pc8 b = p_pc8 a
    · rw [if_pos (Int32.toInt_inj.mp (by rw [es, show (0 : Int32).toInt = 0 from rfl]; omega))]
      by_cases e : a ≤ b
      · rw [if_pos (nI_le e (by omega)), decide_eq_false (by unfold p_kle; omega)]
      · rw [if_neg (nI_ge (by omega) (by omega)), decide_eq_true (by unfold p_kle; omega)]
    · rw [if_neg (fun q => by rw [← Int32.toInt_inj, es, show (0 : Int32).toInt = 0 from rfl] at q; omega), decide_eq_false (by unfold p_kle; omega)]
theorem p_fewer0 (N : Nat) (x : Int32) : f_X0_isFewer N (-4) x = some true := by
  unfold f_X0_isFewer
  rw [if_pos rfl]
theorem p_or4 : ∀ h, h < 4 → ∀ b, b < 16 → ∃ b', b' < 16 ∧ nI b ||| ((1 : Int32) <<< (nI h &&& 31)) = nI b' ∧ ∀ j, j < 4 → b'.testBit j = (b.testBit j || decide (j = h)) := by decide +kernel
theorem p_n44 : ∀ h, h < 4 → ¬ nI h = (-4 : Int32) := by decide
theorem p_str_u {c : Nat → Nat} {h g : Nat} (hh : h < 4) (hg : g < 4) (h1 : p_str c h 4) (h2 : p_str c g 4) : h = g := by
  refine Classical.byContradiction (fun ne => ?_)
  have a := h1.2 g hg (fun q => ne q.symm)
  have b := h2.2 h hh ne
  omega
theorem p_weigh (N : Nat) (hN : 121 ≤ N) {T : (Nat → Nat) → Nat → Nat} (hT : ∀ d h, T d h ≤ 40) (hTc : ∀ d d', (∀ c, c < 5 → d c = d' c) → T d = T d') {V : (Nat → Nat) → Prop} {fv base : Nat} (hfv : fv < 4) {std w ld fw : Int32} (hR : RMx T V fv base std w ld fw) (d0 : Nat → Nat) :
    ∃ w' ld' fw', f_X0_weigh N (nI fv) std w ld fw (nI (p_lv base d0)) (nI (p_pk (T d0))) = some (w', ld', fw') ∧ RMx T (fun d => V d ∨ ∀ c, c < 5 → d c = d0 c) fv base std w' ld' fw' := by
  obtain ⟨⟨b, hb, rfl, hW⟩, hL, hF⟩ := hR
  obtain ⟨r1, e1, hr1⟩ := p_lead2 N (by omega) (c := T d0) (hT d0) hfv
  obtain ⟨r2, hw2, e2⟩ := p_won N (by omega) (c := T d0) (hT d0)
  have hnew : V d0 ∨ ∀ c, c < 5 → d0 c = d0 c := Or.inr (fun _ _ => rfl)
  have hT0 := hT d0 fv
  have hm0 := p_mx_le (c := T d0) (hT d0) fv 4
  -- the lead
  have hL' : RMl T (fun d => V d ∨ ∀ c, c < 5 → d c = d0 c) fv (if ld < r1 then r1 else ld) := by
    right
    rcases hL with ⟨rfl, hn⟩ | ⟨⟨d, hd, hd2⟩, hmax⟩
    · rw [if_pos (by rw [p_toInt_lt, hr1, show (-1000 : Int32).toInt = -1000 from rfl]; unfold p_ldI; omega)]
      refine ⟨⟨d0, hnew, hr1⟩, fun d hd => ?_⟩
      rcases hd with hd | hd
      · exact absurd hd (hn d)
      · rw [hTc d d0 hd, hr1]; exact Int.le_refl _
    · by_cases a : ld < r1
      · rw [if_pos a]
        rw [p_toInt_lt] at a
        refine ⟨⟨d0, hnew, hr1⟩, fun d' hd' => ?_⟩
        rcases hd' with hd' | hd'
        · have := hmax d' hd'; omega
        · rw [hTc d' d0 hd', hr1]; exact Int.le_refl _
      · rw [if_neg a]
        rw [p_toInt_lt] at a
        refine ⟨⟨d, Or.inl hd, hd2⟩, fun d' hd' => ?_⟩
        rcases hd' with hd' | hd'
        · exact hmax d' hd'
        · rw [hTc d' d0 hd', ← hr1]; omega
  -- the winners
  have hWsame : (∀ h, h < 4 → ¬ p_str (T d0) h 4) → RMw T (fun d => V d ∨ ∀ c, c < 5 → d c = d0 c) (nI b) := by
    intro hn
    refine ⟨b, hb, rfl, fun h hh => ?_⟩
    rw [hW h hh]
    constructor
    · rintro ⟨d, q1, q2⟩; exact ⟨d, Or.inl q1, q2⟩
    · rintro ⟨d, q1 | q1, q2⟩
      · exact ⟨d, q1, q2⟩
      · rw [hTc d d0 q1] at q2; exact absurd q2 (hn h hh)
  have hFsame : ¬ p_tn T std d0 → RMf T (fun d => V d ∨ ∀ c, c < 5 → d c = d0 c) base std fw := by
    intro hn
    have hn' : ∀ d : Nat → Nat, (∀ c, c < 5 → d c = d0 c) → ¬ p_tn T std d := by
      intro d hd q
      unfold p_tn at q
      rw [hTc d d0 hd] at q
      exact hn q
    rcases hF with ⟨q1, q2⟩ | ⟨d, q1, q2, q3, q4⟩
    · refine Or.inl ⟨q1, fun d hd => ?_⟩
      rcases hd with hd | hd
      · exact q2 d hd
      · exact hn' d hd
    · refine Or.inr ⟨d, Or.inl q1, q2, q3, fun d' hd' ht => ?_⟩
      rcases hd' with hd' | hd'
      · exact q4 d' hd' ht
      · exact absurd ht (hn' d' hd')
  unfold f_X0_weigh
  rw [e1, p_b1, e2, p_b1]
  rcases hw2 with ⟨h0, hh0, rfl, hs0⟩ | ⟨rfl, hn0⟩
  · rw [if_neg (p_n44 h0 hh0)]
    obtain ⟨b', hb', eb, hbt⟩ := p_or4 h0 hh0 b hb
    have hW' : RMw T (fun d => V d ∨ ∀ c, c < 5 → d c = d0 c) (nI b') := by
      refine ⟨b', hb', rfl, fun h hh => ?_⟩
      rw [hbt h hh, Bool.or_eq_true, hW h hh, decide_eq_true_iff]
      constructor
      · rintro (⟨d, q1, q2⟩ | rfl)
        · exact ⟨d, Or.inl q1, q2⟩
        · exact ⟨d0, hnew, hs0⟩
      · rintro ⟨d, q1 | q1, q2⟩
        · exact Or.inl ⟨d, q1, q2⟩
        · rw [hTc d d0 q1] at q2; exact Or.inr (p_str_u hh hh0 q2 hs0)
    rw [eb]
    by_cases a : nI h0 = std
    · rw [if_pos a]
      refine ⟨_, _, _, rfl, hW', hL', hFsame ?_⟩
      rintro ⟨h, hh, hs, hne⟩
      exact hne (by rw [p_str_u hh hh0 hs hs0]; exact a)
    · rw [if_neg a]
      have htn : p_tn T std d0 := ⟨h0, hh0, hs0, a⟩
      rcases hF with ⟨rfl, q2⟩ | ⟨d, q1, q2, rfl, q4⟩
      · rw [p_fewer0, p_b1, if_neg (show ¬ wk_bI true = 0 by decide)]
        refine ⟨_, _, _, rfl, hW', hL', Or.inr ⟨d0, hnew, htn, rfl, fun d' hd' ht => ?_⟩⟩
        rcases hd' with hd' | hd'
        · exact absurd ht (q2 d' hd')
        · rw [p_lv_c hd']; exact p_kle_r _
      · rw [p_fewer N (p_lv_lt base d) (p_lv_lt base d0), p_b1]
        by_cases c : p_kle (p_lv base d) (p_lv base d0)
        · rw [decide_eq_false (not_not_intro c), if_pos (show wk_bI false = 0 from rfl)]
          refine ⟨_, _, _, rfl, hW', hL', Or.inr ⟨d, Or.inl q1, q2, rfl, fun d' hd' ht => ?_⟩⟩
          rcases hd' with hd' | hd'
          · exact q4 d' hd' ht
          · rw [p_lv_c hd']; exact c
        · rw [decide_eq_true c, if_neg (show ¬ wk_bI true = 0 by decide)]
          refine ⟨_, _, _, rfl, hW', hL', Or.inr ⟨d0, hnew, htn, rfl, fun d' hd' ht => ?_⟩⟩
          rcases hd' with hd' | hd'
          · exact p_kle_t (p_kle_n c) (q4 d' hd' ht)
          · rw [p_lv_c hd']; exact p_kle_r _
  · rw [if_pos rfl]
    refine ⟨_, _, _, rfl, hWsame hn0, hL', hFsame ?_⟩
    rintro ⟨h, hh, hs, -⟩
    exact hn0 h hh hs
/-- all that goes on from a county -/
def p_ext (C : Nat → Nat) (k : Nat) (d0 d : Nat → Nat) : Prop := (∀ c, c < k → d c = d0 c) ∧ ∀ c, k ≤ c → c < 5 → p_inR (C c) (d c)
def p_T (ct : Nat → Int32) (vt : Nat → Nat → Int32) (n : Nat) (d : Nat → Nat) (h : Nat) : Nat := p_tp ct vt d n h 5
def p_up (d : Nat → Nat) (k i : Nat) : Nat → Nat := fun c => if c = k then i else d c
abbrev p_mixW (N : Nat) (base fav std : Int32) (ch vo : Nat → Int32) (dep : Nat) : Int32 → Int32 → Int32 → Int32 → Int32 → Int32 → Option (Int32 × Int32 × Int32) :=
  wk_loop (fun krec : Int32 → Int32 → Int32 → Int32 → Int32 → Int32 → Option (Int32 × Int32 × Int32) => F_X0_mix N base fav std ch vo krec) (fun _ _ _ _ _ _ => none) dep
theorem p_mixW_s (N : Nat) (base fav std : Int32) (ch vo : Nat → Int32) (dep : Nat) (a b c x y z : Int32) : p_mixW N base fav std ch vo (dep + 1) a b c x y z = F_X0_mix N base fav std ch vo (p_mixW N base fav std ch vo dep) a b c x y z := rfl
theorem p_mix (N : Nat) (hN : 121 ≤ N) {ct : Nat → Int32} {vt : Nat → Nat → Int32} {n : Nat} (hT : ∀ d h, p_T ct vt n d h ≤ 40) {vo ch : Nat → Int32} (hV : RVotes ct vt n vo) {C : Nat → Nat} (hC : ∀ c, c < 5 → C c < 32 ∧ ch c = nI (C c)) {fv base : Nat} (hfv : fv < 4) (hbase : base ≤ 5) (std : Int32) :
    ∀ (j k dep : Nat) (d0 : Nat → Nat) (V : (Nat → Nat) → Prop) (w ld fw : Int32), k + j = 5 → j < dep → RMx (p_T ct vt n) V fv base std w ld fw →
      ∃ w' ld' fw', p_mixW N (nI base) (nI fv) std ch vo dep w ld fw (nI k) (nI (p_bits (fun c => decide (d0 c ≠ base)) k)) (nI (p_pk (fun h => p_tp ct vt d0 n h k))) = some (w', ld', fw') ∧ RMx (p_T ct vt n) (fun d => V d ∨ p_ext C k d0 d) fv base std w' ld' fw' := by
  have hTc : ∀ d d' : Nat → Nat, (∀ c, c < 5 → d c = d' c) → p_T ct vt n d = p_T ct vt n d' := fun d d' h => funext (fun g => p_tp_d 5 h)
  intro j
  induction j with
  | zero =>
    intro k dep d0 V w ld fw h1 h2 hR
    obtain ⟨dep', rfl⟩ : ∃ q, dep = q + 1 := ⟨dep - 1, by omega⟩
    have hk : k = 5 := by omega
    subst hk
    obtain ⟨w', ld', fw', e1, h3⟩ := p_weigh N hN hT hTc hfv hR d0
    refine ⟨w', ld', fw', ?_, h3.of (fun d => ?_)⟩
    · rw [p_mixW_s, F_X0_mix, if_neg (by decide)]
      have e2 : f_X0_weigh N (nI fv) std w ld fw (nI (p_bits (fun c => decide (d0 c ≠ base)) 5)) (nI (p_pk (fun h => p_tp ct vt d0 n h 5))) = some (w', ld', fw') := e1
      rw [e2, p_b3]
    · constructor
      · rintro (q | q)
        · exact Or.inl q
        · exact Or.inr ⟨q, fun c h1 h2 => absurd h1 (by omega)⟩
      · rintro (q | q)
        · exact Or.inl q
        · exact Or.inr q.1
  | succ j ih =>
    intro k dep d0 V w ld fw h1 h2 hR
    obtain ⟨dep', rfl⟩ : ∃ q, dep = q + 1 := ⟨dep - 1, by omega⟩
    have hk : k < 5 := by omega
    obtain ⟨c1, c2⟩ := hC k hk
    rw [p_mixW_s, F_X0_mix, if_pos (show nI k < (5 : Int32) from nI_lt (b := 5) hk (by omega))]
    obtain ⟨z, hz⟩ : ∃ z : Nat, z = 1 := ⟨_, rfl⟩
    obtain ⟨e, he⟩ : ∃ e : Nat, e = 6 := ⟨_, rfl⟩
    rw [show (1 : Int32) = nI z by rw [hz]; rfl]
    refine p_run (σ := Int32 × Int32 × Int32)
      (W := fun m i s => wk_loop (fun k15 : Int32 → Int32 → Int32 → Int32 → Int32 → Int32 → Int32 → Option (Int32 × Int32 × Int32) => B_X0_mix_15 N (nI base) (nI fv) std ch vo (p_mixW N (nI base) (nI fv) std ch vo dep') k15) (fun _ _ _ _ _ _ _ => none) m s.1 s.2.1 s.2.2 (nI k) (nI (p_bits (fun c => decide (d0 c ≠ base)) k)) (nI (p_pk (fun h => p_tp ct vt d0 n h k))) (nI i))
      (fun i s => 1 ≤ i ∧ RMx (p_T ct vt n) (fun d => V d ∨ (p_ext C k d0 d ∧ d k < i)) fv base std s.1 s.2.1 s.2.2)
      (fun A => ∃ w' ld' fw', A = some (w', ld', fw') ∧ RMx (p_T ct vt n) (fun d => V d ∨ p_ext C k d0 d) fv base std w' ld' fw') e ?_ ?_ (e - z) N z (w, ld, fw) (by omega) (by omega) ⟨by omega, hR.of (fun d => ?_)⟩
    · intro m i s hi hI
      obtain ⟨s1, s2, s3⟩ := s
      obtain ⟨i1, hI⟩ := hI
      dsimp only at hI
      have g : ¬ (5 : Int32) < nI i := nI_nlt (a := 5) (by omega) (by omega)
      have esub : nI i - (1 : Int32) = nI (i - 1) := by rw [show (1 : Int32) = nI 1 from rfl, pk_sub i1]
      cases hb : (C k).testBit (i - 1) with
      | false =>
        refine ⟨(s1, s2, s3), ?_, by omega, hI.of (fun d => ?_)⟩
        · show B_X0_mix_15 N (nI base) (nI fv) std ch vo _ _ s1 s2 s3 (nI k) (nI (p_bits (fun c => decide (d0 c ≠ base)) k)) (nI (p_pk (fun h => p_tp ct vt d0 n h k))) (nI i) = _
          rw [B_X0_mix_15, if_neg g, p_get hk (by omega), p_b1, c2, esub, p_has10 N (by omega) (by omega), p_b1, hb, if_pos (show wk_bI false = 0 from rfl), p_nm, nI_1]
        · constructor
          · rintro (q | ⟨q1, q2⟩)
            · exact Or.inl q
            · exact Or.inr ⟨q1, by omega⟩
          · rintro (q | ⟨q1, q2⟩)
            · exact Or.inl q
            · refine Or.inr ⟨q1, ?_⟩
              have := (q1.2 k (Nat.le_refl k) hk).2.2
              refine Classical.byContradiction (fun ne => ?_)
              have : d k = i := by omega
              have h3 := (q1.2 k (Nat.le_refl k) hk).2.2
              rw [this, hb] at h3
              cases h3
      | true =>
        obtain ⟨w', ld', fw', e1, hR'⟩ := ih (k + 1) dep' (p_up d0 k i) (fun d => V d ∨ (p_ext C k d0 d ∧ d k < i)) s1 s2 s3 (by omega) (by omega) hI
        have ebits : p_bits (fun c => decide (p_up d0 k i c ≠ base)) (k + 1) = p_bits (fun c => decide (d0 c ≠ base)) k + (if i = base then 0 else 2 ^ k) := by
          rw [p_bits_s, p_bits_c k (g := fun c => decide (d0 c ≠ base)) (fun c hc => by unfold p_up; rw [if_neg (by omega)])]
          congr 1
          unfold p_up
          rw [if_pos rfl]
          by_cases q : i = base
          · rw [if_neg (by rw [decide_eq_false (not_not_intro q)]; decide), if_pos q]
          · rw [if_pos (decide_eq_true q), if_neg q]
        have etp : (fun h => p_tp ct vt (p_up d0 k i) n h (k + 1)) = fun h => p_tp ct vt d0 n h k + p_cv ct vt n k i h := by
          funext h
          rw [p_tp_s, p_tp_d (d' := d0) k (fun c hc => by unfold p_up; rw [if_neg (by omega)])]
          unfold p_up p_cv
          rw [if_pos rfl]
        rw [ebits, etp] at e1
        have hlt := p_bits_lt (fun c => decide (d0 c ≠ base)) k
        refine ⟨(w', ld', fw'), ?_, by omega, hR'.of (fun d => ?_)⟩
        · show B_X0_mix_15 N (nI base) (nI fv) std ch vo _ _ s1 s2 s3 (nI k) (nI (p_bits (fun c => decide (d0 c ≠ base)) k)) (nI (p_pk (fun h => p_tp ct vt d0 n h k))) (nI i) = _
          rw [B_X0_mix_15, if_neg g, p_get hk (by omega), p_b1, c2, esub, p_has10 N (by omega) (by omega), p_b1, hb, if_neg (show ¬ wk_bI true = 0 by decide)]
          have e57 : ∀ (q : Nat) k15, q = p_bits (fun c => decide (d0 c ≠ base)) k + (if i = base then 0 else 2 ^ k) → B_X0_mix_57 N (nI base) (nI fv) std ch vo (p_mixW N (nI base) (nI fv) std ch vo dep') k15 s1 s2 s3 (nI k) (nI (p_bits (fun c => decide (d0 c ≠ base)) k)) (nI (p_pk (fun h => p_tp ct vt d0 n h k))) (nI i) (nI q) = k15 w' ld' fw' (nI k) (nI (p_bits (fun c => decide (d0 c ≠ base)) k)) (nI (p_pk (fun h => p_tp ct vt d0 n h k))) (nI (i + 1)) := by
            intro q k15 hq
            rw [B_X0_mix_57, p_place5 N k i1, p_b1, p_get (by omega) (by omega), p_b1, hV k hk i i1 (by omega), nI_add, p_pk_add, nI_1, hq, e1, p_b3, p_nm, nI_1]
          by_cases q : i = base
          · rw [if_pos (by rw [q])]
            exact e57 _ _ (by rw [if_pos q]; rfl)
          · rw [if_neg (fun w => q ((nI_eq (by omega) (by omega)).mp w)), p_cbit k hk _ hlt]
            exact e57 _ _ (by rw [if_neg q])
        · constructor
          · rintro ((q | ⟨q1, q2⟩) | ⟨q1, q2⟩)
            · exact Or.inl q
            · exact Or.inr ⟨q1, by omega⟩
            · have hdk : d k = i := by rw [q1 k (by omega)]; unfold p_up; rw [if_pos rfl]
              refine Or.inr ⟨⟨fun c hc => ?_, fun c hc1 hc2 => ?_⟩, by omega⟩
              · rw [q1 c (by omega)]; unfold p_up; rw [if_neg (by omega)]
              · by_cases q : c = k
                · subst q; rw [hdk]; exact ⟨i1, by omega, hb⟩
                · exact q2 c (by omega) hc2
          · rintro (q | ⟨q1, q2⟩)
            · exact Or.inl (Or.inl q)
            · by_cases q : d k = i
              · refine Or.inr ⟨fun c hc => ?_, fun c hc1 hc2 => q1.2 c (by omega) hc2⟩
                unfold p_up
                by_cases r : c = k
                · rw [if_pos r, r]; exact q
                · rw [if_neg r]; exact q1.1 c (by omega)
              · exact Or.inl (Or.inr ⟨q1, by omega⟩)
    · intro m s hI
      obtain ⟨s1, s2, s3⟩ := s
      refine ⟨s1, s2, s3, ?_, hI.2.of (fun d => ?_)⟩
      · show B_X0_mix_15 N (nI base) (nI fv) std ch vo _ _ s1 s2 s3 (nI k) (nI (p_bits (fun c => decide (d0 c ≠ base)) k)) (nI (p_pk (fun h => p_tp ct vt d0 n h k))) (nI e) = _
        rw [B_X0_mix_15, if_pos (show (5 : Int32) < nI e by rw [he]; decide)]
      · constructor
        · rintro (q | ⟨q1, q2⟩)
          · exact Or.inl q
          · exact Or.inr q1
        · rintro (q | q)
          · exact Or.inl q
          · exact Or.inr ⟨q, by have := (q.2 k (Nat.le_refl k) hk).2.1; omega⟩
    · constructor
      · intro q; exact Or.inl q
      · rintro (q | ⟨q1, q2⟩)
        · exact q
        · have := (q1.2 k (Nat.le_refl k) hk).1; omega
