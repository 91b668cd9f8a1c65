/-! PURE: table, left -/
/-- in how many hours of what is left of a span a county is free -/
def p_yt (A : Nat → Nat) (c i t : Nat) : Nat := p_cnt (fun j => (A (i + j)).testBit c) (t - i)
theorem p_cnt_h (f : Nat → Bool) : ∀ n, p_cnt f (n + 1) = (if f 0 = true then 1 else 0) + p_cnt (fun j => f (j + 1)) n := by
  intro n
  induction n with
  | zero => show 0 + (if f 0 = true then 1 else 0) = _; rw [Nat.zero_add]; rfl
  | succ n ih => rw [p_cnt_s, ih, p_cnt_s]; omega
theorem p_yt_s (A : Nat → Nat) (c : Nat) {i t : Nat} (h : i < t) : p_yt A c i t = (if (A i).testBit c = true then 1 else 0) + p_yt A c (i + 1) t := by
  unfold p_yt
  rw [show t - i = (t - (i + 1)) + 1 by omega, p_cnt_h]
  have : (fun j => (A (i + (j + 1))).testBit c) = (fun j => (A (i + 1 + j)).testBit c) := funext (fun j => by rw [show i + (j + 1) = i + 1 + j by omega])
  rw [this]
  rfl
theorem p_yt_le (A : Nat → Nat) (c i t : Nat) : p_yt A c i t ≤ t - i := p_cnt_le _ _
/-- the class counts a county's hours -/
theorem p_openHours (N : Nat) (hN : 1001 ≤ N) {A : Nat → Nat} {cl : Nat → Int32} (hA : ∀ h, h < 1000 → A h < 32 ∧ cl h = nI (31 - A h)) {c g t : Nat} (hc : c < 5) (hg : g ≤ t) (ht : t ≤ 1000) : f_X7_openHours N cl (nI c) (nI g) (nI t) = some (nI (p_yt A c g t)) := by
  unfold f_X7_openHours
  rw [show (0 : Int32) = nI 0 from rfl]
  refine p_run (σ := Nat)
    (W := fun m i s => wk_loop (fun k6 : Int32 → Int32 → Int32 → Int32 → Option Int32 => B_X7_openHours_6 N cl k6) (fun _ _ _ _ => none) m (nI c) (nI t) (nI s) (nI i))
    (fun i s => g ≤ i ∧ s = p_cnt (fun j => (A (g + j)).testBit c) (i - g))
    (fun B => B = some (nI (p_yt A c g t))) t ?_ ?_ (t - g) N g 0 (by omega) (by omega) ⟨Nat.le_refl g, by rw [Nat.sub_self]; rfl⟩
  · intro m i s hi hI
    obtain ⟨h1, h2⟩ := hI
    have e : p_cnt (fun j => (A (g + j)).testBit c) (i + 1 - g) = s + (if (A i).testBit c = true then 1 else 0) := by
      rw [show i + 1 - g = i - g + 1 by omega, p_cnt_s, ← h2, show g + (i - g) = i by omega]
    refine ⟨s + (if (A i).testBit c = true then 1 else 0), ?_, by omega, e.symm⟩
    show B_X7_openHours_6 N cl _ (nI c) (nI t) (nI s) (nI i) = _
    rw [B_X7_openHours_6, if_neg (nI_ge hi (by omega)), p_isOpen N hA hc (by omega), p_b1]
    cases hb : (A i).testBit c with
    | true => rw [if_neg (show ¬ wk_bI true = 0 by decide), p_nm, p_nm, nI_1, nI_1, if_pos rfl]
    | false => rw [if_pos (show wk_bI false = 0 from rfl), p_nm, nI_1, if_neg (by decide)]; rfl
  · intro m s hI
    show B_X7_openHours_6 N cl _ (nI c) (nI t) (nI s) (nI t) = _
    rw [B_X7_openHours_6, if_pos (nI_le (Nat.le_refl t) (by omega)), hI.2]
    rfl
theorem p_m1 {y : Nat} (h : 1 ≤ y) : nI y + (-1 : Int32) = nI (y - 1) := by
  obtain ⟨n, rfl⟩ : ∃ n, y = n + 1 := ⟨y - 1, by omega⟩
  rw [pk_m1]; rfl
/-- an hour, from its begin to its end -/
theorem p_hour1 (N : Nat) (hN : 1001 ≤ N) {A : Nat → Nat} {cl : Nat → Int32} {it : Int32} {uh ul ur uv uw : Nat → Int32} (hO : ROpen N A cl it uh ul ur uv uw) {i t k : Nat} (hi : i < t) (ht : t ≤ 1000) (hk : k ≤ 20) (hp us : Nat → Int32) {ah pl td put rest yet : Nat → Int32} {R : Nat → Nat}
    (hY : ∀ c, c < 5 → ah c = nI (p_yt A c i t) ∧ yet c = nI (p_yt A c i t)) (hR : ∀ c, c < 5 → R c ≤ 600 ∧ td c = nI (R c) ∧ rest c = nI (R c)) {x4 : Int32} (hx4 : ¬ x4 < nI i) (m' : Nat) :
    ∃ (ah' pl' td' put' rest' yet' : Nat → Int32) (R' : Nat → Nat), f_X7_placeHands N cl ah pl td (nI i) (nI k) = some (ah', pl', td') ∧
      wk_loop (fun k110 : (Nat → Int32) → (Nat → Int32) → (Nat → Int32) → Int32 → Int32 → Int32 → Option ((Nat → Int32) × (Nat → Int32) × (Nat → Int32)) => B_X11_tables_110 N it hp uh ul ur us uv uw k110) (fun _ _ _ _ _ _ => none) (m' + 1) put rest yet (nI k) x4 (nI i) =
      wk_loop (fun k110 : (Nat → Int32) → (Nat → Int32) → (Nat → Int32) → Int32 → Int32 → Int32 → Option ((Nat → Int32) × (Nat → Int32) × (Nat → Int32)) => B_X11_tables_110 N it hp uh ul ur us uv uw k110) (fun _ _ _ _ _ _ => none) m' put' rest' yet' (nI k) x4 (nI (i + 1)) ∧
      (∀ c, c < 5 → ah' c = nI (p_yt A c (i + 1) t) ∧ yet' c = nI (p_yt A c (i + 1) t)) ∧ (∀ c, c < 5 → R' c ≤ 600 ∧ td' c = nI (R' c) ∧ rest' c = nI (R' c)) ∧ ∀ c, c < 5 → pl' c = put' c := by
  have hA : ∀ h, h < 1000 → A h < 32 ∧ cl h = nI (31 - A h) := fun h hh => ⟨(hO h hh).1, (hO h hh).2.1⟩
  obtain ⟨a1, a2, a3⟩ := hO i (by omega)
  obtain ⟨e, he⟩ : ∃ e : Nat, e = 5 := ⟨_, rfl⟩
  obtain ⟨z, hz⟩ : ∃ z : Nat, z = 0 := ⟨_, rfl⟩
  have hz0 : nI z = 0 := by rw [hz]; rfl
  have hytl : ∀ c, p_yt A c i t ≤ 1000 := fun c => Nat.le_trans (p_yt_le A c i t) (by omega)
  obtain ⟨k110, hk110⟩ : ∃ q, q = wk_loop (fun k110 : (Nat → Int32) → (Nat → Int32) → (Nat → Int32) → Int32 → Int32 → Int32 → Option ((Nat → Int32) × (Nat → Int32) × (Nat → Int32)) => B_X11_tables_110 N it hp uh ul ur us uv uw k110) (fun _ _ _ _ _ _ => none) m' := ⟨_, rfl⟩
  have e1 : wk_loop (fun k110 : (Nat → Int32) → (Nat → Int32) → (Nat → Int32) → Int32 → Int32 → Int32 → Option ((Nat → Int32) × (Nat → Int32) × (Nat → Int32)) => B_X11_tables_110 N it hp uh ul ur us uv uw k110) (fun _ _ _ _ _ _ => none) (m' + 1) put rest yet (nI k) x4 (nI i) = B_X11_tables_110 N it hp uh ul ur us uv uw k110 put rest yet (nI k) x4 (nI i) := by rw [hk110]; rfl
  rw [e1, ← hk110, B_X11_tables_110, if_neg hx4, a3, p_b1]
  -- the check's put is cleared
  have h131 : ∃ put0 : Nat → Int32, (∀ c, c < 5 → put0 c = nI 0) ∧ wk_loop (fun k131 : (Nat → Int32) → (Nat → Int32) → (Nat → Int32) → Int32 → Int32 → Int32 → Int32 → Int32 → Int32 → Option ((Nat → Int32) × (Nat → Int32) × (Nat → Int32)) => B_X11_tables_131 N it hp uh ul ur us uv uw k110 k131) (fun _ _ _ _ _ _ _ _ _ => none) N put rest yet (nI k) x4 (nI i) (nI (A i)) (nI k) (0 : Int32) = p_tbW N it hp uh ul ur us uv uw k110 N put0 rest yet (nI k) x4 (nI i) (nI (A i)) (nI k) (nI (A i)) := by
    rw [← hz0]
    refine p_run (σ := Nat → Int32)
      (W := fun m q s => wk_loop (fun k131 : (Nat → Int32) → (Nat → Int32) → (Nat → Int32) → Int32 → Int32 → Int32 → Int32 → Int32 → Int32 → Option ((Nat → Int32) × (Nat → Int32) × (Nat → Int32)) => B_X11_tables_131 N it hp uh ul ur us uv uw k110 k131) (fun _ _ _ _ _ _ _ _ _ => none) m s rest yet (nI k) x4 (nI i) (nI (A i)) (nI k) (nI q))
      (fun q s => ∀ c, c < q → s c = nI 0)
      (fun B => ∃ put0 : Nat → Int32, (∀ c, c < 5 → put0 c = nI 0) ∧ B = p_tbW N it hp uh ul ur us uv uw k110 N put0 rest yet (nI k) x4 (nI i) (nI (A i)) (nI k) (nI (A i))) e ?_ ?_ e N z put (by omega) (by omega) (fun c h => absurd h (by omega))
    · intro m q s hq hI
      refine ⟨upd s q 0, ?_, fun c hc => ?_⟩
      · show B_X11_tables_131 N it hp uh ul ur us uv uw k110 _ s rest yet (nI k) x4 (nI i) (nI (A i)) (nI k) (nI q) = _
        rw [B_X11_tables_131, if_neg (show ¬ (5 : Int32) ≤ nI q from nI_ge (b := 5) (by omega) (by omega)), p_ck (by omega) (by omega), nI_clamp (by omega), p_nm, nI_1]
      · by_cases b : c = q
        · subst b; exact pk_us
        · rw [pk_un b]; exact hI c (by omega)
    · intro m s hI
      refine ⟨s, fun c hc => hI c (by omega), ?_⟩
      show B_X11_tables_131 N it hp uh ul ur us uv uw k110 _ s rest yet (nI k) x4 (nI i) (nI (A i)) (nI k) (nI e) = _
      rw [B_X11_tables_131, if_pos (show (5 : Int32) ≤ nI e by rw [he]; decide)]
  obtain ⟨put0, hput0, e2⟩ := h131
  rw [e2]
  -- the class's placed is cleared
  obtain ⟨o0, f0, hf0⟩ := p_fill N (n := 5) (by omega) (by omega) pl 0
  unfold f_X7_placeHands
  rw [f0, p_b1]
  obtain ⟨F', put', pl', td', g1, g2, g3⟩ := p_core N (by omega) hA (h := i) (by omega) it hp uh ul ur us uv uw k110 (ah := ah) (rest := rest) (yet := yet) (Y := fun c => p_yt A c i t) (R := R) (fun c hc => ⟨hytl c, (hY c hc).1, (hY c hc).2⟩) (fun c hc => ⟨(hR c hc).1, (hR c hc).2.2⟩) (nI k) x4 (nI i) (nI (A i)) (p_pc5 (A i)) (A i) k 0 N N (fun _ => 0) put0 o0 td rfl a1 (fun c hc h => h) hk (by have := p_pc5_le (A i); omega) (by omega) (by have := p_pc5_le (A i); omega)
    (fun c hc => ⟨Nat.zero_le _, hput0 c hc, hf0 c hc, (hR c hc).2.1⟩) (fun c hc h => rfl) (fun c hc h h2 => by rw [h] at h2; cases h2)
  have g2' : wk_loop (fun k13 : (Nat → Int32) → (Nat → Int32) → (Nat → Int32) → Int32 → Int32 → Int32 → Option ((Nat → Int32) × (Nat → Int32) × (Nat → Int32)) => B_X7_placeHands_13 N cl k13) (fun _ _ _ _ _ _ => none) N ah o0 td (nI i) (nI k) (0 : Int32) = p_plK N cl ah pl' td' (nI i) := g2
  rw [g1, g2']
  -- the hours ahead
  have h92 : ∃ ah' : Nat → Int32, (∀ c, c < 5 → ah' c = nI (p_yt A c (i + 1) t)) ∧ p_plK N cl ah pl' td' (nI i) = some (ah', pl', td') := by
    show ∃ ah' : Nat → Int32, _ ∧ wk_loop (fun k92 : (Nat → Int32) → (Nat → Int32) → (Nat → Int32) → Int32 → Int32 → Option ((Nat → Int32) × (Nat → Int32) × (Nat → Int32)) => B_X7_placeHands_92 N cl k92) (fun _ _ _ _ _ => none) N ah pl' td' (nI i) (0 : Int32) = _
    rw [← hz0]
    refine p_run (σ := Nat → Int32)
      (W := fun m q s => wk_loop (fun k92 : (Nat → Int32) → (Nat → Int32) → (Nat → Int32) → Int32 → Int32 → Option ((Nat → Int32) × (Nat → Int32) × (Nat → Int32)) => B_X7_placeHands_92 N cl k92) (fun _ _ _ _ _ => none) m s pl' td' (nI i) (nI q))
      (fun q s => (∀ c, c < 5 → c < q → s c = nI (p_yt A c (i + 1) t)) ∧ ∀ c, c < 5 → q ≤ c → s c = nI (p_yt A c i t))
      (fun B => ∃ ah' : Nat → Int32, (∀ c, c < 5 → ah' c = nI (p_yt A c (i + 1) t)) ∧ B = some (ah', pl', td')) e ?_ ?_ e N z ah (by omega) (by omega) ⟨fun c _ h => absurd h (by omega), fun c hc _ => (hY c hc).1⟩
    · intro m q s hq hI
      obtain ⟨h1, h2⟩ := hI
      have g5 : ¬ (5 : Int32) ≤ nI q := nI_ge (b := 5) (by omega) (by omega)
      have hys := p_yt_s A q hi
      cases hb : (A i).testBit q with
      | true =>
        rw [hb, if_pos rfl] at hys
        refine ⟨upd s q (nI (p_yt A q (i + 1) t)), ?_, fun c hc hcq => ?_, fun c hc hcq => by rw [pk_un (by omega)]; exact h2 c hc (by omega)⟩
        · show B_X7_placeHands_92 N cl _ s pl' td' (nI i) (nI q) = _
          rw [B_X7_placeHands_92, if_neg g5, p_isOpen N hA (by omega) (by omega), p_b1, hb, if_neg (show ¬ wk_bI true = 0 by decide)]
          unfold f_X6_add
          rw [p_get (by omega) (by omega), p_b1, p_set (by omega) (by omega), p_b1, p_b1, p_nm, nI_1, h2 q (by omega) (Nat.le_refl q), p_m1 (by omega), hys, Nat.add_sub_cancel_left]
        · by_cases b : c = q
          · subst b; exact pk_us
          · rw [pk_un b]; exact h1 c hc (by omega)
      | false =>
        rw [hb, if_neg (by decide), Nat.zero_add] at hys
        refine ⟨s, ?_, fun c hc hcq => ?_, fun c hc hcq => h2 c hc (by omega)⟩
        · show B_X7_placeHands_92 N cl _ s pl' td' (nI i) (nI q) = _
          rw [B_X7_placeHands_92, if_neg g5, p_isOpen N hA (by omega) (by omega), p_b1, hb, if_pos (show wk_bI false = 0 from rfl), p_nm, nI_1]
        · by_cases b : c = q
          · subst b; rw [h2 c hc (Nat.le_refl c), hys]
          · exact h1 c hc (by omega)
    · intro m s hI
      refine ⟨s, fun c hc => hI.1 c hc (by omega), ?_⟩
      show B_X7_placeHands_92 N cl _ s pl' td' (nI i) (nI e) = _
      rw [B_X7_placeHands_92, if_pos (show (5 : Int32) ≤ nI e by rw [he]; decide)]
  obtain ⟨ah', hah', e3⟩ := h92
  rw [e3]
  -- the check's rest and yet
  have h280 : ∃ rest' yet' : Nat → Int32, (∀ c, c < 5 → rest' c = nI (R c - F' c) ∧ yet' c = nI (p_yt A c (i + 1) t)) ∧ p_tbK N it hp uh ul ur us uv uw k110 put' rest yet (nI k) x4 (nI i) (nI (A i)) = k110 put' rest' yet' (nI k) x4 (nI (i + 1)) := by
    show ∃ rest' yet' : Nat → Int32, _ ∧ wk_loop (fun k280 : (Nat → Int32) → (Nat → Int32) → (Nat → Int32) → Int32 → Int32 → Int32 → Int32 → Int32 → Option ((Nat → Int32) × (Nat → Int32) × (Nat → Int32)) => B_X11_tables_280 N it hp uh ul ur us uv uw k110 k280) (fun _ _ _ _ _ _ _ _ => none) N put' rest yet (nI k) x4 (nI i) (nI (A i)) (0 : Int32) = _
    rw [← hz0]
    refine p_run (σ := (Nat → Int32) × (Nat → Int32))
      (W := fun m q s => wk_loop (fun k280 : (Nat → Int32) → (Nat → Int32) → (Nat → Int32) → Int32 → Int32 → Int32 → Int32 → Int32 → Option ((Nat → Int32) × (Nat → Int32) × (Nat → Int32)) => B_X11_tables_280 N it hp uh ul ur us uv uw k110 k280) (fun _ _ _ _ _ _ _ _ => none) m put' s.1 s.2 (nI k) x4 (nI i) (nI (A i)) (nI q))
      (fun q s => (∀ c, c < 5 → c < q → s.1 c = nI (R c - F' c) ∧ s.2 c = nI (p_yt A c (i + 1) t)) ∧ ∀ c, c < 5 → q ≤ c → s.1 c = nI (R c) ∧ s.2 c = nI (p_yt A c i t))
      (fun B => ∃ rest' yet' : Nat → Int32, (∀ c, c < 5 → rest' c = nI (R c - F' c) ∧ yet' c = nI (p_yt A c (i + 1) t)) ∧ B = k110 put' rest' yet' (nI k) x4 (nI (i + 1))) e ?_ ?_ e N z (rest, yet) (by omega) (by omega) ⟨fun c _ h => absurd h (by omega), fun c hc _ => ⟨(hR c hc).2.2, (hY c hc).2⟩⟩
    · intro m q s hq hI
      obtain ⟨s1, s2⟩ := s
      obtain ⟨h1, h2⟩ := hI
      dsimp only at h1 h2
      have g5 : ¬ (5 : Int32) ≤ nI q := nI_ge (b := 5) (by omega) (by omega)
      have hys := p_yt_s A q hi
      obtain ⟨w1, w2⟩ := h2 q (by omega) (Nat.le_refl q)
      obtain ⟨v1, v2, v3, v4⟩ := g3 q (by omega)
      refine ⟨(upd s1 q (nI (R q - F' q)), upd s2 q (nI (p_yt A q (i + 1) t))), ?_, fun c hc hcq => ?_, fun c hc hcq => ?_⟩
      · show B_X11_tables_280 N it hp uh ul ur us uv uw k110 _ put' s1 s2 (nI k) x4 (nI i) (nI (A i)) (nI q) = _
        rw [B_X11_tables_280, if_neg g5, p_ck (by omega) (by omega), p_ck (by omega) (by omega), p_ck (by omega) (by omega), p_ck (by omega) (by omega), nI_clamp (by omega), p_has11 N (by omega) (by omega), p_b1, w1, v2, pk_sub v1]
        cases hb : (A i).testBit q with
        | true =>
          rw [hb, if_pos rfl] at hys
          rw [if_neg (show ¬ wk_bI true = 0 by decide), B_X11_tables_326, p_ck (by omega) (by omega), nI_clamp (by omega), w2, show (1 : Int32) = nI 1 from rfl, pk_sub (by omega), p_nm, nI_add, show p_yt A q i t - 1 = p_yt A q (i + 1) t by omega]
        | false =>
          rw [hb, if_neg (by decide), Nat.zero_add] at hys
          rw [if_pos (show wk_bI false = 0 from rfl), B_X11_tables_326, p_ck (by omega) (by omega), nI_clamp (by omega), w2, Int32.sub_zero, p_nm, nI_1, hys]
      · dsimp only
        by_cases b : c = q
        · subst b; rw [pk_us, pk_us]; exact ⟨rfl, rfl⟩
        · rw [pk_un b, pk_un b]; exact h1 c hc (by omega)
      · dsimp only
        rw [pk_un (by omega), pk_un (by omega)]
        exact h2 c hc (by omega)
    · intro m s hI
      refine ⟨s.1, s.2, fun c hc => hI.1 c hc (by omega), ?_⟩
      show B_X11_tables_280 N it hp uh ul ur us uv uw k110 _ put' s.1 s.2 (nI k) x4 (nI i) (nI (A i)) (nI e) = _
      rw [B_X11_tables_280, if_pos (show (5 : Int32) ≤ nI e by rw [he]; decide), p_nm, nI_1]
  obtain ⟨rest', yet', hry, e4⟩ := h280
  rw [e4]
  exact ⟨ah', pl', td', put', rest', yet', fun c => R c - F' c, rfl, rfl, fun c hc => ⟨hah' c hc, (hry c hc).2⟩, fun c hc => ⟨Nat.le_trans (Nat.sub_le _ _) (hR c hc).1, (g3 c hc).2.2.2, (hry c hc).1⟩, fun c hc => by rw [(g3 c hc).2.2.1, (g3 c hc).2.1]⟩
