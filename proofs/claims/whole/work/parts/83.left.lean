/-! PURE: table and left, from their begin to their end -/
/-- the class's begin -/
theorem p_wbeg (N : Nat) (hN : 1001 ≤ N) {A W : Nat → Nat} {cl : Nat → Int32} (hA : ∀ h, h < 1000 → A h < 32 ∧ cl h = nI (31 - A h)) {hp sp uhp us : Nat → Int32} (hW : RWork N W hp sp uhp us) {g t : Nat} (hg : g ≤ t) (ht : t ≤ 1000) (x3 x4 : Int32) (ah pl td : Nat → Int32) :
    ∃ ah' td' : Nat → Int32, (∀ c, c < 5 → ah' c = nI (p_yt A c g t) ∧ td' c = nI (W c)) ∧ f_X7_work N cl hp sp ah pl td (nI g) (nI t) x3 x4 = wk_loop (fun k50 : (Nat → Int32) → (Nat → Int32) → (Nat → Int32) → Int32 → Int32 → Int32 → Option ((Nat → Int32) × (Nat → Int32) × (Nat → Int32)) => B_X7_work_50 N cl hp sp k50) (fun _ _ _ _ _ _ => none) N ah' pl td' x3 x4 (nI g) := by
  unfold f_X7_work
  obtain ⟨e, he⟩ : ∃ e : Nat, e = 5 := ⟨_, rfl⟩
  obtain ⟨z, hz⟩ : ∃ z : Nat, z = 0 := ⟨_, rfl⟩
  rw [show (0 : Int32) = nI z by rw [hz]; rfl]
  refine p_run (σ := (Nat → Int32) × (Nat → Int32))
    (W := fun m q s => wk_loop (fun k3 : (Nat → Int32) → (Nat → Int32) → (Nat → Int32) → Int32 → Int32 → Int32 → Int32 → Int32 → Option ((Nat → Int32) × (Nat → Int32) × (Nat → Int32)) => B_X7_work_3 N cl hp sp k3) (fun _ _ _ _ _ _ _ _ => none) m s.1 pl s.2 (nI g) (nI t) x3 x4 (nI q))
    (fun q s => ∀ c, c < q → s.1 c = nI (p_yt A c g t) ∧ s.2 c = nI (W c))
    (fun B => ∃ ah' td' : Nat → Int32, (∀ c, c < 5 → ah' c = nI (p_yt A c g t) ∧ td' c = nI (W c)) ∧ B = wk_loop (fun k50 : (Nat → Int32) → (Nat → Int32) → (Nat → Int32) → Int32 → Int32 → Int32 → Option ((Nat → Int32) × (Nat → Int32) × (Nat → Int32)) => B_X7_work_50 N cl hp sp k50) (fun _ _ _ _ _ _ => none) N ah' pl td' x3 x4 (nI g)) e ?_ ?_ e N z (ah, td) (by omega) (by omega) (fun c h => absurd h (by omega))
  · intro m q s hq hI
    obtain ⟨s1, s2⟩ := s
    refine ⟨(upd s1 q (nI (p_yt A q g t)), upd s2 q (nI (W q))), ?_, fun c hc => ?_⟩
    · show B_X7_work_3 N cl hp sp _ s1 pl s2 (nI g) (nI t) x3 x4 (nI q) = _
      rw [B_X7_work_3, if_neg (show ¬ (5 : Int32) ≤ nI q from nI_ge (b := 5) (by omega) (by omega)), (hW q (by omega)).2.1, p_b1, p_set (by omega) (by omega), p_b1, p_openHours N hN hA (by omega) hg ht, p_b1, p_set (by omega) (by omega), p_b1, p_nm, nI_1]
    · dsimp only
      by_cases b : c = q
      · subst b; rw [pk_us, pk_us]; exact ⟨rfl, rfl⟩
      · rw [pk_un b, pk_un b]; exact hI c (by omega)
  · intro m s hI
    refine ⟨s.1, s.2, fun c hc => hI c (by omega), ?_⟩
    show B_X7_work_3 N cl hp sp _ s.1 pl s.2 (nI g) (nI t) x3 x4 (nI e) = _
    rw [B_X7_work_3, if_pos (show (5 : Int32) ≤ nI e by rw [he]; decide)]
/-- the check's begin -/
theorem p_tbeg (N : Nat) (hN : 1001 ≤ N) {A W : Nat → Nat} {cl : Nat → Int32} {it : Int32} {uh ul ur uv uw : Nat → Int32} (hO : ROpen N A cl it uh ul ur uv uw) {hp sp uhp us : Nat → Int32} (hW : RWork N W hp sp uhp us) {g t : Nat} (hg : g ≤ t) (ht : t ≤ 1000) (x3 x4 : Int32) (put rest yet : Nat → Int32) :
    ∃ put' rest' yet' : Nat → Int32, (∀ c, c < 5 → yet' c = nI (p_yt A c g t) ∧ rest' c = nI (W c)) ∧ f_X11_tables N it uhp uh ul ur us uv uw put rest yet (nI g) (nI t) x3 x4 = wk_loop (fun k110 : (Nat → Int32) → (Nat → Int32) → (Nat → Int32) → Int32 → Int32 → Int32 → Option ((Nat → Int32) × (Nat → Int32) × (Nat → Int32)) => B_X11_tables_110 N it uhp uh ul ur us uv uw k110) (fun _ _ _ _ _ _ => none) N put' rest' yet' x3 x4 (nI g) := by
  unfold f_X11_tables
  obtain ⟨e, he⟩ : ∃ e : Nat, e = 5 := ⟨_, rfl⟩
  obtain ⟨z, hz⟩ : ∃ z : Nat, z = 0 := ⟨_, rfl⟩
  have hz0 : nI z = 0 := by rw [hz]; rfl
  rw [← hz0]
  refine p_run (σ := (Nat → Int32) × (Nat → Int32) × (Nat → Int32))
    (W := fun m q s => wk_loop (fun k3 : (Nat → Int32) → (Nat → Int32) → (Nat → Int32) → Int32 → Int32 → Int32 → Int32 → Int32 → Option ((Nat → Int32) × (Nat → Int32) × (Nat → Int32)) => B_X11_tables_3 N it uhp uh ul ur us uv uw k3) (fun _ _ _ _ _ _ _ _ => none) m s.1 s.2.1 s.2.2 (nI g) (nI t) x3 x4 (nI q))
    (fun q s => ∀ c, c < q → s.2.1 c = nI (W c) ∧ s.2.2 c = nI 0)
    (fun B => ∃ put' rest' yet' : Nat → Int32, (∀ c, c < 5 → yet' c = nI (p_yt A c g t) ∧ rest' c = nI (W c)) ∧ B = wk_loop (fun k110 : (Nat → Int32) → (Nat → Int32) → (Nat → Int32) → Int32 → Int32 → Int32 → Option ((Nat → Int32) × (Nat → Int32) × (Nat → Int32)) => B_X11_tables_110 N it uhp uh ul ur us uv uw k110) (fun _ _ _ _ _ _ => none) N put' rest' yet' x3 x4 (nI g)) e ?_ ?_ e N z (put, rest, yet) (by omega) (by omega) (fun c h => absurd h (by omega))
  · intro m q s hq hI
    obtain ⟨s1, s2, s3⟩ := s
    refine ⟨(upd s1 q 0, upd s2 q (nI (W q)), upd s3 q 0), ?_, fun c hc => ?_⟩
    · show B_X11_tables_3 N it uhp uh ul ur us uv uw _ s1 s2 s3 (nI g) (nI t) x3 x4 (nI q) = _
      rw [B_X11_tables_3, if_neg (show ¬ (5 : Int32) ≤ nI q from nI_ge (b := 5) (by omega) (by omega)), (hW q (by omega)).2.2, p_b1, p_ck (by omega) (by omega), p_ck (by omega) (by omega), p_ck (by omega) (by omega), nI_clamp (by omega), p_nm, nI_1]
    · dsimp only
      by_cases b : c = q
      · subst b; rw [pk_us, pk_us]; exact ⟨rfl, rfl⟩
      · rw [pk_un b, pk_un b]; exact hI c (by omega)
  · intro m s hI
    obtain ⟨s1, s2, s3⟩ := s
    dsimp only at hI
    show ∃ put' rest' yet' : Nat → Int32, (∀ c, c < 5 → yet' c = nI (p_yt A c g t) ∧ rest' c = nI (W c)) ∧ B_X11_tables_3 N it uhp uh ul ur us uv uw _ s1 s2 s3 (nI g) (nI t) x3 x4 (nI e) = _
    rw [B_X11_tables_3, if_pos (show (5 : Int32) ≤ nI e by rw [he]; decide)]
    -- hour by hour
    refine p_run (σ := Nat → Int32)
      (W := fun m i s => wk_loop (fun k47 : (Nat → Int32) → (Nat → Int32) → (Nat → Int32) → Int32 → Int32 → Int32 → Int32 → Int32 → Option ((Nat → Int32) × (Nat → Int32) × (Nat → Int32)) => B_X11_tables_47 N it uhp uh ul ur us uv uw k47) (fun _ _ _ _ _ _ _ _ => none) m s1 s2 s (nI g) (nI t) x3 x4 (nI i))
      (fun i s => g ≤ i ∧ ∀ c, c < 5 → s c = nI (p_cnt (fun j => (A (g + j)).testBit c) (i - g)))
      (fun B => ∃ put' rest' yet' : Nat → Int32, (∀ c, c < 5 → yet' c = nI (p_yt A c g t) ∧ rest' c = nI (W c)) ∧ B = wk_loop (fun k110 : (Nat → Int32) → (Nat → Int32) → (Nat → Int32) → Int32 → Int32 → Int32 → Option ((Nat → Int32) × (Nat → Int32) × (Nat → Int32)) => B_X11_tables_110 N it uhp uh ul ur us uv uw k110) (fun _ _ _ _ _ _ => none) N put' rest' yet' x3 x4 (nI g)) t ?_ ?_ (t - g) N g s3 (by omega) (by omega) ⟨Nat.le_refl g, fun c hc => by rw [(hI c (by omega)).2, Nat.sub_self]; rfl⟩
    · intro m i s hi hI2
      obtain ⟨hgi, hs⟩ := hI2
      obtain ⟨a1, -, a3⟩ := hO i (by omega)
      have hcs : ∀ c, p_cnt (fun j => (A (g + j)).testBit c) (i + 1 - g) = p_cnt (fun j => (A (g + j)).testBit c) (i - g) + (if (A i).testBit c = true then 1 else 0) := by
        intro c
        rw [show i + 1 - g = i - g + 1 by omega, p_cnt_s, show g + (i - g) = i by omega]
      -- the counties of an hour
      obtain ⟨k47, hk47⟩ : ∃ q, q = wk_loop (fun k47 : (Nat → Int32) → (Nat → Int32) → (Nat → Int32) → Int32 → Int32 → Int32 → Int32 → Int32 → Option ((Nat → Int32) × (Nat → Int32) × (Nat → Int32)) => B_X11_tables_47 N it uhp uh ul ur us uv uw k47) (fun _ _ _ _ _ _ _ _ => none) m := ⟨_, rfl⟩
      have h64 : ∃ s' : Nat → Int32, (∀ c, c < 5 → s' c = nI (p_cnt (fun j => (A (g + j)).testBit c) (i + 1 - g))) ∧ wk_loop (fun k64 : (Nat → Int32) → (Nat → Int32) → (Nat → Int32) → Int32 → Int32 → Int32 → Int32 → Int32 → Int32 → Int32 → Option ((Nat → Int32) × (Nat → Int32) × (Nat → Int32)) => B_X11_tables_64 N it uhp uh ul ur us uv uw k47 k64) (fun _ _ _ _ _ _ _ _ _ _ => none) N s1 s2 s (nI g) (nI t) x3 x4 (nI i) (nI (A i)) (0 : Int32) = k47 s1 s2 s' (nI g) (nI t) x3 x4 (nI (i + 1)) := by
        rw [← hz0]
        refine p_run (σ := Nat → Int32)
          (W := fun m q s => wk_loop (fun k64 : (Nat → Int32) → (Nat → Int32) → (Nat → Int32) → Int32 → Int32 → Int32 → Int32 → Int32 → Int32 → Int32 → Option ((Nat → Int32) × (Nat → Int32) × (Nat → Int32)) => B_X11_tables_64 N it uhp uh ul ur us uv uw k47 k64) (fun _ _ _ _ _ _ _ _ _ _ => none) m s1 s2 s (nI g) (nI t) x3 x4 (nI i) (nI (A i)) (nI q))
          (fun q s => (∀ c, c < 5 → c < q → s c = nI (p_cnt (fun j => (A (g + j)).testBit c) (i + 1 - g))) ∧ ∀ c, c < 5 → q ≤ c → s c = nI (p_cnt (fun j => (A (g + j)).testBit c) (i - g)))
          (fun B => ∃ s' : Nat → Int32, (∀ c, c < 5 → s' c = nI (p_cnt (fun j => (A (g + j)).testBit c) (i + 1 - g))) ∧ B = k47 s1 s2 s' (nI g) (nI t) x3 x4 (nI (i + 1))) e ?_ ?_ e N z s (by omega) (by omega) ⟨fun c _ h => absurd h (by omega), fun c hc _ => hs c hc⟩
        · intro m q s' hq hI3
          obtain ⟨h1, h2⟩ := hI3
          have hq2 := h2 q (by omega) (Nat.le_refl q)
          refine ⟨upd s' q (nI (p_cnt (fun j => (A (g + j)).testBit q) (i + 1 - g))), ?_, fun c hc hcq => ?_, fun c hc hcq => by rw [pk_un (by omega)]; exact h2 c hc (by omega)⟩
          · show B_X11_tables_64 N it uhp uh ul ur us uv uw k47 _ s1 s2 s' (nI g) (nI t) x3 x4 (nI i) (nI (A i)) (nI q) = _
            rw [B_X11_tables_64, if_neg (show ¬ (5 : Int32) ≤ nI q from nI_ge (b := 5) (by omega) (by omega)), p_ck (by omega) (by omega), nI_clamp (by omega), p_has11 N (by omega) (by omega), p_b1, hq2, hcs q]
            cases hb : (A i).testBit q with
            | true => rw [if_neg (show ¬ wk_bI true = 0 by decide), B_X11_tables_93, p_ck (by omega) (by omega), nI_clamp (by omega), p_nm, nI_1, nI_1, if_pos rfl]
            | false => rw [if_pos (show wk_bI false = 0 from rfl), B_X11_tables_93, p_ck (by omega) (by omega), nI_clamp (by omega), p_nm, nI_1, Int32.add_zero, if_neg (by decide)]; rfl
          · by_cases b : c = q
            · subst b; exact pk_us
            · rw [pk_un b]; exact h1 c hc (by omega)
        · intro m s' hI3
          refine ⟨s', fun c hc => hI3.1 c hc (by omega), ?_⟩
          show B_X11_tables_64 N it uhp uh ul ur us uv uw k47 _ s1 s2 s' (nI g) (nI t) x3 x4 (nI i) (nI (A i)) (nI e) = _
          rw [B_X11_tables_64, if_pos (show (5 : Int32) ≤ nI e by rw [he]; decide), p_nm, nI_1]
      obtain ⟨s', hs', e1⟩ := h64
      refine ⟨s', ?_, by omega, hs'⟩
      show B_X11_tables_47 N it uhp uh ul ur us uv uw (wk_loop (fun k47 : (Nat → Int32) → (Nat → Int32) → (Nat → Int32) → Int32 → Int32 → Int32 → Int32 → Int32 → Option ((Nat → Int32) × (Nat → Int32) × (Nat → Int32)) => B_X11_tables_47 N it uhp uh ul ur us uv uw k47) (fun _ _ _ _ _ _ _ _ => none) m) s1 s2 s (nI g) (nI t) x3 x4 (nI i) = _
      rw [← hk47, B_X11_tables_47, if_neg (nI_ge hi (by omega)), a3, p_b1, e1]
    · intro m s hI2
      refine ⟨s1, s2, s, fun c hc => ⟨hI2.2 c hc, (hI c (by omega)).1⟩, ?_⟩
      show B_X11_tables_47 N it uhp uh ul ur us uv uw _ s1 s2 s (nI g) (nI t) x3 x4 (nI t) = _
      rw [B_X11_tables_47, if_pos (nI_le (Nat.le_refl t) (by omega))]
theorem p_tab (N : Nat) (hN : 1001 ≤ N) {A W : Nat → Nat} {cl : Nat → Int32} {it : Int32} {uh ul ur uv uw : Nat → Int32} (hO : ROpen N A cl it uh ul ur uv uw) {hp sp uhp us : Nat → Int32} (hW : RWork N W hp sp uhp us) {g t k e : Nat} (hge : g ≤ e) (het : e ≤ t) (ht : t ≤ 1000) (hk : k ≤ 20) {x4 : Int32} (hx4 : ∀ i, g ≤ i → i ≤ e → (x4 < nI i ↔ e ≤ i)) (ah pl td put rest yet : Nat → Int32) :
    ∃ ah' pl' td' put' rest' yet', f_X7_work N cl hp sp ah pl td (nI g) (nI t) (nI k) (nI e) = some (ah', pl', td') ∧ f_X11_tables N it uhp uh ul ur us uv uw put rest yet (nI g) (nI t) (nI k) x4 = some (put', rest', yet') ∧ (∀ c, c < 5 → ∃ r, r ≤ 600 ∧ td' c = nI r ∧ rest' c = nI r) ∧ (g < e → ∀ c, c < 5 → pl' c = put' c) := by
  have hA : ∀ h, h < 1000 → A h < 32 ∧ cl h = nI (31 - A h) := fun h hh => ⟨(hO h hh).1, (hO h hh).2.1⟩
  obtain ⟨ah0, td0, h0, e0⟩ := p_wbeg N hN hA hW (show g ≤ t by omega) ht (nI k) (nI e) ah pl td
  obtain ⟨put1, rest1, yet1, h1, e1⟩ := p_tbeg N hN hO hW (show g ≤ t by omega) ht (nI k) x4 put rest yet
  rw [e0, e1]
  refine p_sim (σ := (Nat → Int32) × (Nat → Int32) × (Nat → Int32)) (τ := (Nat → Int32) × (Nat → Int32) × (Nat → Int32))
    (W := fun m i s => wk_loop (fun k50 : (Nat → Int32) → (Nat → Int32) → (Nat → Int32) → Int32 → Int32 → Int32 → Option ((Nat → Int32) × (Nat → Int32) × (Nat → Int32)) => B_X7_work_50 N cl hp sp k50) (fun _ _ _ _ _ _ => none) m s.1 s.2.1 s.2.2 (nI k) (nI e) (nI i))
    (V := fun m i s => wk_loop (fun k110 : (Nat → Int32) → (Nat → Int32) → (Nat → Int32) → Int32 → Int32 → Int32 → Option ((Nat → Int32) × (Nat → Int32) × (Nat → Int32)) => B_X11_tables_110 N it uhp uh ul ur us uv uw k110) (fun _ _ _ _ _ _ => none) m s.1 s.2.1 s.2.2 (nI k) x4 (nI i))
    (fun i s s' => g ≤ i ∧ (∀ c, c < 5 → s.1 c = nI (p_yt A c i t) ∧ s'.2.2 c = nI (p_yt A c i t)) ∧ (∃ R : Nat → Nat, ∀ c, c < 5 → R c ≤ 600 ∧ s.2.2 c = nI (R c) ∧ s'.2.1 c = nI (R c)) ∧ (g < i → ∀ c, c < 5 → s.2.1 c = s'.1 c))
    (fun B C => ∃ ah' pl' td' put' rest' yet', B = some (ah', pl', td') ∧ C = some (put', rest', yet') ∧ (∀ c, c < 5 → ∃ r, r ≤ 600 ∧ td' c = nI r ∧ rest' c = nI r) ∧ (g < e → ∀ c, c < 5 → pl' c = put' c)) e ?_ ?_ (e - g) N N g (ah0, pl, td0) (put1, rest1, yet1) (by omega) (by omega) (by omega)
    ⟨Nat.le_refl g, fun c hc => ⟨(h0 c hc).1, (h1 c hc).1⟩, ⟨W, fun c hc => ⟨(hW c hc).1, (h0 c hc).2, (h1 c hc).2⟩⟩, fun h => absurd h (by omega)⟩
  · intro m m' i s s' hi hI
    obtain ⟨s1, s2, s3⟩ := s
    obtain ⟨t1, t2, t3⟩ := s'
    obtain ⟨i1, i2, ⟨R, i3⟩, -⟩ := hI
    dsimp only at i2 i3
    obtain ⟨ah', pl', td', put', rest', yet', R', g1, g2, g3, g4, g5⟩ := p_hour1 N hN hO (i := i) (t := t) (k := k) (by omega) ht hk uhp us (ah := s1) (pl := s2) (td := s3) (put := t1) (rest := t2) (yet := t3) (R := R) i2 i3 (x4 := x4) (fun h => by have := (hx4 i i1 (by omega)).mp h; omega) m'
    refine ⟨(ah', pl', td'), (put', rest', yet'), ?_, g2, by omega, g3, ⟨R', g4⟩, fun _ => g5⟩
    show B_X7_work_50 N cl hp sp _ s1 s2 s3 (nI k) (nI e) (nI i) = _
    rw [B_X7_work_50, if_neg (nI_ge hi (by omega)), g1, p_b3, p_nm, nI_1]
  · intro m m' s s' hI
    obtain ⟨s1, s2, s3⟩ := s
    obtain ⟨t1, t2, t3⟩ := s'
    obtain ⟨i1, i2, ⟨R, i3⟩, i4⟩ := hI
    refine ⟨s1, s2, s3, t1, t2, t3, ?_, ?_, fun c hc => ⟨R c, i3 c hc⟩, i4⟩
    · show B_X7_work_50 N cl hp sp _ s1 s2 s3 (nI k) (nI e) (nI e) = _
      rw [B_X7_work_50, if_pos (nI_le (Nat.le_refl e) (by omega))]
    · show B_X11_tables_110 N it uhp uh ul ur us uv uw _ t1 t2 t3 (nI k) x4 (nI e) = _
      rw [B_X11_tables_110, if_pos ((hx4 e hge (Nat.le_refl e)).mpr (Nat.le_refl e))]
theorem q_table (N : Nat) (hN : 1001 ≤ N) {A W : Nat → Nat} {cl : Nat → Int32} {it : Int32} {uh ul ur uv uw hp sp uhp us : Nat → Int32} (hO : ROpen N A cl it uh ul ur uv uw) (hW : RWork N W hp sp uhp us) (ah pl td put rest yet : Nat → Int32) (x y z w v : Int32) :
    ∃ r ah' pl' td' put' rest' yet', f_X10_table N cl hp sp ah pl td x y z w v = some (r, ah', pl', td') ∧ f_X11_table N it uhp uh ul ur us uv uw put rest yet x y z w v = some (r, put', rest', yet') := by
  have fd : ¬ wk_bI true = 0 := by decide
  have fe : wk_bI false = 0 := rfl
  unfold f_X10_table f_X11_table
  rw [p_isSpan10, p_isSpan11, p_b1, p_b1]
  by_cases a : (0 ≤ x.toInt ∧ x.toInt ≤ 999) ∧ x.toInt ≤ y.toInt ∧ y.toInt ≤ 1000
  · rw [decide_eq_true a, if_neg fd, if_neg fd, p_isHands, p_b1, p_inI, p_b1, show (1 : Int64).toInt = 1 from rfl, show (20 : Int64).toInt = 20 from rfl]
    by_cases b : 1 ≤ z.toInt ∧ z.toInt ≤ 20
    · rw [decide_eq_true b, if_neg fd, if_neg fd]
      obtain ⟨g, t, hg, hgt, ht, rfl, rfl⟩ := p_spanOf a
      have hgI : (nI g).toInt = g := nI_toInt (by omega)
      have htI : (nI t).toInt = t := nI_toInt (by omega)
      have et : (nI t - (1 : Int32)).toInt = (t : Int) - 1 := by
        rw [show (1 : Int32) = nI 1 from rfl, pk_sub_toInt (by omega) (by omega)]; rfl
      obtain ⟨k, hk, rfl⟩ := p_of (x := z) (n := 20) (by omega) b.2
      rw [p_in, p_b1, p_i2l, p_i2l, p_i2l, et, hgI]
      by_cases c : (g : Int) ≤ w.toInt ∧ w.toInt ≤ (t : Int) - 1
      · rw [decide_eq_true c, if_neg fd, if_neg (show ¬ w < nI g by rw [p_toInt_lt, hgI]; omega), if_neg (show ¬ nI t ≤ w by rw [p_toInt_le, htI]; omega), p_isCounty, p_b1, p_inI, p_b1, show (0 : Int64).toInt = 0 from rfl, show (4 : Int64).toInt = 4 from rfl]
        obtain ⟨h, hh, rfl⟩ := p_of (x := w) (n := 1000) (by omega) (by omega)
        have hhI : (nI h).toInt = h := nI_toInt (by omega)
        by_cases d : 0 ≤ v.toInt ∧ v.toInt ≤ 4
        · rw [decide_eq_true d, if_neg fd, if_neg fd]
          obtain ⟨c5, hc5, rfl⟩ := p_of (x := v) (n := 4) d.1 d.2
          obtain ⟨ah', pl', td', put', rest', yet', g1, g2, g3, g4⟩ := p_tab N hN hO hW (g := g) (t := t) (k := k) (e := h + 1) (by omega) (by omega) ht hk (x4 := nI h) (fun i h1 h2 => by rw [nI_ltI (by omega) (by omega)]; omega) ah pl td put rest yet
          rw [nI_1, g1, g2, p_b3, p_b3]
          unfold f_X7_placedIn
          rw [p_get (by omega) (by omega), p_b1, p_b1, p_ck (by omega) (by omega), nI_clamp (by omega), g4 (by omega) c5 (by omega)]
          exact ⟨_, _, _, _, _, _, _, rfl, rfl⟩
        · rw [decide_eq_false d, if_pos fe, if_pos fe]; exact ⟨_, _, _, _, _, _, _, rfl, rfl⟩
      · rw [decide_eq_false c, if_pos fe]
        by_cases d : w < nI g
        · rw [if_pos d]; exact ⟨_, _, _, _, _, _, _, rfl, rfl⟩
        · rw [if_neg d]
          rw [p_toInt_lt, hgI] at d
          rw [if_pos (show nI t ≤ w by rw [p_toInt_le, htI]; omega)]
          exact ⟨_, _, _, _, _, _, _, rfl, rfl⟩
    · rw [decide_eq_false b, if_pos fe, if_pos fe]; exact ⟨_, _, _, _, _, _, _, rfl, rfl⟩
  · rw [decide_eq_false a, if_pos fe, if_pos fe]; exact ⟨_, _, _, _, _, _, _, rfl, rfl⟩
theorem q_left (N : Nat) (hN : 1001 ≤ N) {A W : Nat → Nat} {cl : Nat → Int32} {it : Int32} {uh ul ur uv uw hp sp uhp us : Nat → Int32} (hO : ROpen N A cl it uh ul ur uv uw) (hW : RWork N W hp sp uhp us) (ah pl td put rest yet : Nat → Int32) (x y z : Int32) :
    ∃ r ah' pl' td' put' rest' yet', f_X10_left N cl hp sp ah pl td x y z = some (r, ah', pl', td') ∧ f_X11_left N it uhp uh ul ur us uv uw put rest yet x y z = some (r, put', rest', yet') := by
  have fd : ¬ wk_bI true = 0 := by decide
  have fe : wk_bI false = 0 := rfl
  unfold f_X10_left f_X11_left
  rw [p_isSpan10, p_isSpan11, p_b1, p_b1]
  by_cases a : (0 ≤ x.toInt ∧ x.toInt ≤ 999) ∧ x.toInt ≤ y.toInt ∧ y.toInt ≤ 1000
  · rw [decide_eq_true a, if_neg fd, if_neg fd, p_isHands, p_b1, p_inI, p_b1, show (1 : Int64).toInt = 1 from rfl, show (20 : Int64).toInt = 20 from rfl]
    by_cases b : 1 ≤ z.toInt ∧ z.toInt ≤ 20
    · rw [decide_eq_true b, if_neg fd, if_neg fd]
      obtain ⟨g, t, hg, hgt, ht, rfl, rfl⟩ := p_spanOf a
      have et : (nI t - (1 : Int32)).toInt = (t : Int) - 1 := by
        rw [show (1 : Int32) = nI 1 from rfl, pk_sub_toInt (by omega) (by omega)]; rfl
      obtain ⟨k, hk, rfl⟩ := p_of (x := z) (n := 20) (by omega) b.2
      obtain ⟨ah', pl', td', put', rest', yet', g1, g2, g3, g4⟩ := p_tab N hN hO hW (g := g) (t := t) (k := k) (e := t) hgt (Nat.le_refl t) ht hk (x4 := nI t - 1) (fun i h1 h2 => by rw [p_toInt_lt, et, nI_toInt (by omega)]; omega) ah pl td put rest yet
      rw [g1, g2, p_b3, p_b3]
      unfold f_X7_allTodo
      obtain ⟨e, he⟩ : ∃ e : Nat, e = 5 := ⟨_, rfl⟩
      obtain ⟨q0, hq0⟩ : ∃ z : Nat, z = 0 := ⟨_, rfl⟩
      have hz0 : nI q0 = 0 := by rw [hq0]; rfl
      rw [← hz0]
      have hs : ∃ r, wk_loop (fun k4 : Int32 → Int32 → Option Int32 => B_X7_allTodo_4 N td' k4) (fun _ _ => none) N (nI q0) (nI q0) = some r ∧ wk_loop (fun k38 : (Nat → Int32) → (Nat → Int32) → (Nat → Int32) → Int32 → Int32 → Option (Int32 × (Nat → Int32) × (Nat → Int32) × (Nat → Int32)) => B_X11_left_38 N it uhp uh ul ur us uv uw k38) (fun _ _ _ _ _ => none) N put' rest' yet' (nI q0) (nI q0) = some (r, put', rest', yet') := by
        refine p_sim (σ := Int32) (τ := Int32)
          (W := fun m i s => wk_loop (fun k4 : Int32 → Int32 → Option Int32 => B_X7_allTodo_4 N td' k4) (fun _ _ => none) m s (nI i))
          (V := fun m i s => wk_loop (fun k38 : (Nat → Int32) → (Nat → Int32) → (Nat → Int32) → Int32 → Int32 → Option (Int32 × (Nat → Int32) × (Nat → Int32) × (Nat → Int32)) => B_X11_left_38 N it uhp uh ul ur us uv uw k38) (fun _ _ _ _ _ => none) m put' rest' yet' s (nI i))
          (fun _ s s' => s = s') (fun B C => ∃ r, B = some r ∧ C = some (r, put', rest', yet')) e ?_ ?_ e N N q0 (nI q0) (nI q0) (by omega) (by omega) (by omega) rfl
        · intro m m' i s s' hi hI
          subst hI
          obtain ⟨r, hr, q1, q2⟩ := g3 i (by omega)
          have g5 : ¬ (5 : Int32) ≤ nI i := nI_ge (b := 5) (by omega) (by omega)
          refine ⟨s + nI r, s + nI r, ?_, ?_, rfl⟩
          · show B_X7_allTodo_4 N td' _ s (nI i) = _
            rw [B_X7_allTodo_4, if_neg g5, p_get (by omega) (by omega), p_b1, p_nm, p_nm, nI_1, q1]
          · show B_X11_left_38 N it uhp uh ul ur us uv uw _ put' rest' yet' s (nI i) = _
            rw [B_X11_left_38, if_neg g5, p_ck (by omega) (by omega), nI_clamp (by omega), p_nm, p_nm, nI_1, q2]
        · intro m m' s s' hI
          subst hI
          refine ⟨s, ?_, ?_⟩
          · show B_X7_allTodo_4 N td' _ s (nI e) = _
            rw [B_X7_allTodo_4, if_pos (show (5 : Int32) ≤ nI e by rw [he]; decide)]
          · show B_X11_left_38 N it uhp uh ul ur us uv uw _ put' rest' yet' s (nI e) = _
            rw [B_X11_left_38, if_pos (show (5 : Int32) ≤ nI e by rw [he]; decide)]
      obtain ⟨r, e5, e6⟩ := hs
      rw [e5, p_b1, e6]
      exact ⟨_, _, _, _, _, _, _, rfl, rfl⟩
    · rw [decide_eq_false b, if_pos fe, if_pos fe]; exact ⟨_, _, _, _, _, _, _, rfl, rfl⟩
  · rw [decide_eq_false a, if_pos fe, if_pos fe]; exact ⟨_, _, _, _, _, _, _, rfl, rfl⟩
