/-! MY LIBRARY: contracts in one shape (MTi, MTv), the entry, the calls, the pure combinators -/
-- the pure words
def wk_ck {α : Type} (i : Int32) (n : Nat) (k : Option α) : Option α := if i < 0 ∨ n ≤ i.toNatClampNeg then none else k
def wk_dv {α : Type} (y : Int32) (k : Option α) : Option α := if y = 0 then none else k
def wk_dvl {α : Type} (y : Int64) (k : Option α) : Option α := if y = 0 then none else k
def wk_nm {α β : Type} (x : α) (k : α → Option β) : Option β := k x
def wk_b0 {γ : Type} (x : Option Unit) (k : Option γ) : Option γ := match x with | some _ => k | none => none
def wk_b1 {α γ : Type} (x : Option α) (k : α → Option γ) : Option γ := match x with | some a => k a | none => none
def wk_b2 {α β γ : Type} (x : Option (α × β)) (k : α → β → Option γ) : Option γ := match x with | some (a, b) => k a b | none => none
def wk_b3 {α β γ δ : Type} (x : Option (α × β × γ)) (k : α → β → γ → Option δ) : Option δ := match x with | some (a, b, c) => k a b c | none => none
def wk_b4 {a1 a2 a3 a4 δ : Type} (x : Option (a1 × a2 × a3 × a4)) (k : a1 → a2 → a3 → a4 → Option δ) : Option δ := match x with | some (a, b, c, d) => k a b c d | none => none
def wk_b5 {a1 a2 a3 a4 a5 δ : Type} (x : Option (a1 × a2 × a3 × a4 × a5)) (k : a1 → a2 → a3 → a4 → a5 → Option δ) : Option δ := match x with | some (a, b, c, d, e) => k a b c d e | none => none
def wk_b6 {a1 a2 a3 a4 a5 a6 δ : Type} (x : Option (a1 × a2 × a3 × a4 × a5 × a6)) (k : a1 → a2 → a3 → a4 → a5 → a6 → Option δ) : Option δ := match x with | some (a, b, c, d, e, f) => k a b c d e f | none => none
def wk_b7 {a1 a2 a3 a4 a5 a6 a7 δ : Type} (x : Option (a1 × a2 × a3 × a4 × a5 × a6 × a7)) (k : a1 → a2 → a3 → a4 → a5 → a6 → a7 → Option δ) : Option δ := match x with | some (a, b, c, d, e, f, g) => k a b c d e f g | none => none
def wk_b8 {a1 a2 a3 a4 a5 a6 a7 a8 δ : Type} (x : Option (a1 × a2 × a3 × a4 × a5 × a6 × a7 × a8)) (k : a1 → a2 → a3 → a4 → a5 → a6 → a7 → a8 → Option δ) : Option δ := match x with | some (a, b, c, d, e, f, g, h) => k a b c d e f g h | none => none
def wk_b9 {a1 a2 a3 a4 a5 a6 a7 a8 a9 δ : Type} (x : Option (a1 × a2 × a3 × a4 × a5 × a6 × a7 × a8 × a9)) (k : a1 → a2 → a3 → a4 → a5 → a6 → a7 → a8 → a9 → Option δ) : Option δ := match x with | some (a, b, c, d, e, f, g, h, i) => k a b c d e f g h i | none => none
def wk_b10 {a1 a2 a3 a4 a5 a6 a7 a8 a9 a10 δ : Type} (x : Option (a1 × a2 × a3 × a4 × a5 × a6 × a7 × a8 × a9 × a10)) (k : a1 → a2 → a3 → a4 → a5 → a6 → a7 → a8 → a9 → a10 → Option δ) : Option δ := match x with | some (a, b, c, d, e, f, g, h, i, j) => k a b c d e f g h i j | none => none
def wk_loop {κ : Type} (F : κ → κ) (bot : κ) : Nat → κ | 0 => bot | n + 1 => F (wk_loop F bot n)
def wk_bI : Bool → Int32 | true => 1 | false => 0
def wk_zr (x : Int32) : Option Bool := if x = 1 then some true else if x = 0 then some false else none
theorem wk_ckE {α : Type} {i : Int32} {n : Nat} {k : Option α} {y : α} (h : wk_ck i n k = some y) : vp_in i n ∧ k = some y := by
  unfold wk_ck at h
  by_cases c : i < 0 ∨ n ≤ i.toNatClampNeg
  · rw [if_pos c] at h; cases h
  · rw [if_neg c] at h; exact ⟨c, h⟩
theorem wk_dvE {α : Type} {x : Int32} {k : Option α} {y : α} (h : wk_dv x k = some y) : ¬ x = 0 ∧ k = some y := by
  unfold wk_dv at h
  by_cases c : x = 0
  · rw [if_pos c] at h; cases h
  · rw [if_neg c] at h; exact ⟨c, h⟩
theorem wk_dvlE {α : Type} {x : Int64} {k : Option α} {y : α} (h : wk_dvl x k = some y) : ¬ x = 0 ∧ k = some y := by
  unfold wk_dvl at h
  by_cases c : x = 0
  · rw [if_pos c] at h; cases h
  · rw [if_neg c] at h; exact ⟨c, h⟩
theorem wk_nmE {α β : Type} {e : α} {k : α → Option β} {y : Option β} (h : wk_nm e k = y) {x : α} (hx : x = e) : k x = y := by subst hx; exact h
theorem wk_itT {c : Prop} {ic : Decidable c} {α : Type} {a b x : Option α} (hf : (if c then a else b) = x) (h : c) : a = x := by rw [if_pos h] at hf; exact hf
theorem wk_itF {c : Prop} {ic : Decidable c} {α : Type} {a b x : Option α} (hf : (if c then a else b) = x) (h : ¬ c) : b = x := by rw [if_neg h] at hf; exact hf
theorem wk_no {α : Type} {y : α} {P : Prop} (h : (none : Option α) = some y) : P := by cases h
theorem wk_b0E {γ : Type} {x : Option Unit} {k : Option γ} {y : γ} (h : wk_b0 x k = some y) : x = some () ∧ k = some y := by
  cases x with
  | none => cases h
  | some a => exact ⟨rfl, h⟩
theorem wk_b1E {α γ : Type} {x : Option α} {k : α → Option γ} {y : γ} (h : wk_b1 x k = some y) : ∃ a, x = some a ∧ k a = some y := by
  cases x with
  | none => cases h
  | some a => exact ⟨a, rfl, h⟩
theorem wk_b2E {α β γ : Type} {x : Option (α × β)} {k : α → β → Option γ} {y : γ} (h : wk_b2 x k = some y) : ∃ a b, x = some (a, b) ∧ k a b = some y := by
  cases x with
  | none => cases h
  | some a => exact ⟨a.1, a.2, rfl, h⟩
theorem wk_b3E {α β γ δ : Type} {x : Option (α × β × γ)} {k : α → β → γ → Option δ} {y : δ} (h : wk_b3 x k = some y) : ∃ a b c, x = some (a, b, c) ∧ k a b c = some y := by
  cases x with
  | none => cases h
  | some a => exact ⟨a.1, a.2.1, a.2.2, rfl, h⟩
theorem wk_b4E {a1 a2 a3 a4 δ : Type} {x : Option (a1 × a2 × a3 × a4)} {k : a1 → a2 → a3 → a4 → Option δ} {y : δ} (h : wk_b4 x k = some y) : ∃ a b c d, x = some (a, b, c, d) ∧ k a b c d = some y := by
  cases x with
  | none => cases h
  | some a => exact ⟨a.1, a.2.1, a.2.2.1, a.2.2.2, rfl, h⟩
theorem wk_b5E {a1 a2 a3 a4 a5 δ : Type} {x : Option (a1 × a2 × a3 × a4 × a5)} {k : a1 → a2 → a3 → a4 → a5 → Option δ} {y : δ} (h : wk_b5 x k = some y) : ∃ a b c d e, x = some (a, b, c, d, e) ∧ k a b c d e = some y := by
  cases x with
  | none => cases h
  | some a => exact ⟨a.1, a.2.1, a.2.2.1, a.2.2.2.1, a.2.2.2.2, rfl, h⟩
theorem wk_b6E {a1 a2 a3 a4 a5 a6 δ : Type} {x : Option (a1 × a2 × a3 × a4 × a5 × a6)} {k : a1 → a2 → a3 → a4 → a5 → a6 → Option δ} {y : δ} (h : wk_b6 x k = some y) : ∃ a b c d e f, x = some (a, b, c, d, e, f) ∧ k a b c d e f = some y := by
  cases x with
  | none => cases h
  | some a => exact ⟨a.1, a.2.1, a.2.2.1, a.2.2.2.1, a.2.2.2.2.1, a.2.2.2.2.2, rfl, h⟩
theorem wk_b7E {a1 a2 a3 a4 a5 a6 a7 δ : Type} {x : Option (a1 × a2 × a3 × a4 × a5 × a6 × a7)} {k : a1 → a2 → a3 → a4 → a5 → a6 → a7 → Option δ} {y : δ} (h : wk_b7 x k = some y) : ∃ a b c d e f g, x = some (a, b, c, d, e, f, g) ∧ k a b c d e f g = some y := by
  cases x with
  | none => cases h
  | some a => exact ⟨a.1, a.2.1, a.2.2.1, a.2.2.2.1, a.2.2.2.2.1, a.2.2.2.2.2.1, a.2.2.2.2.2.2, rfl, h⟩
theorem wk_b8E {a1 a2 a3 a4 a5 a6 a7 a8 δ : Type} {x : Option (a1 × a2 × a3 × a4 × a5 × a6 × a7 × a8)} {k : a1 → a2 → a3 → a4 → a5 → a6 → a7 → a8 → Option δ} {y : δ} (h : wk_b8 x k = some y) : ∃ a b c d e f g i, x = some (a, b, c, d, e, f, g, i) ∧ k a b c d e f g i = some y := by
  cases x with
  | none => cases h
  | some a => exact ⟨a.1, a.2.1, a.2.2.1, a.2.2.2.1, a.2.2.2.2.1, a.2.2.2.2.2.1, a.2.2.2.2.2.2.1, a.2.2.2.2.2.2.2, rfl, h⟩
theorem wk_b9E {a1 a2 a3 a4 a5 a6 a7 a8 a9 δ : Type} {x : Option (a1 × a2 × a3 × a4 × a5 × a6 × a7 × a8 × a9)} {k : a1 → a2 → a3 → a4 → a5 → a6 → a7 → a8 → a9 → Option δ} {y : δ} (h : wk_b9 x k = some y) : ∃ a b c d e f g i j, x = some (a, b, c, d, e, f, g, i, j) ∧ k a b c d e f g i j = some y := by
  cases x with
  | none => cases h
  | some a => exact ⟨a.1, a.2.1, a.2.2.1, a.2.2.2.1, a.2.2.2.2.1, a.2.2.2.2.2.1, a.2.2.2.2.2.2.1, a.2.2.2.2.2.2.2.1, a.2.2.2.2.2.2.2.2, rfl, h⟩
theorem wk_b10E {a1 a2 a3 a4 a5 a6 a7 a8 a9 a10 δ : Type} {x : Option (a1 × a2 × a3 × a4 × a5 × a6 × a7 × a8 × a9 × a10)} {k : a1 → a2 → a3 → a4 → a5 → a6 → a7 → a8 → a9 → a10 → Option δ} {y : δ} (h : wk_b10 x k = some y) : ∃ a b c d e f g i j m, x = some (a, b, c, d, e, f, g, i, j, m) ∧ k a b c d e f g i j m = some y := by
  cases x with
  | none => cases h
  | some a => exact ⟨a.1, a.2.1, a.2.2.1, a.2.2.2.1, a.2.2.2.2.1, a.2.2.2.2.2.1, a.2.2.2.2.2.2.1, a.2.2.2.2.2.2.2.1, a.2.2.2.2.2.2.2.2.1, a.2.2.2.2.2.2.2.2.2, rfl, h⟩
theorem wk_rt {α β : Type} {x y : α} (h : some x = some y) (g : α → β) : g x = g y := by cases h; rfl
theorem wk_loopI {κ : Type} {F : κ → κ} {bot : κ} (P : κ → Prop) (h0 : P bot) (hs : ∀ k, P k → P (F k)) : ∀ n, P (wk_loop F bot n)
  | 0 => h0
  | n + 1 => hs _ (wk_loopI P h0 hs n)
theorem wk_zrT {x : Int32} {b : Bool} (h : wk_zr x = some b) : x = wk_bI b := by
  unfold wk_zr at h
  by_cases c : x = 1
  · rw [if_pos c] at h; cases h; exact c
  · rw [if_neg c] at h
    by_cases d : x = 0
    · rw [if_pos d] at h; cases h; exact d
    · rw [if_neg d] at h; cases h
theorem wk_nz (b : Bool) : narrow .boolean (.int (wk_bI b)) = .int (wk_bI b) := by cases b <;> rfl
-- the links between nest mates
def wk_Nw (U : State) : Prop := (va_Nw (.methodLinkNest RX10 11 yX3_init RX10) U ∧ va_Nw (.methodLinkNest RX10 28 yX9_init RX10) U ∧ va_Nw (.methodLinkNest RX10 35 yX1_init RX10) U ∧ va_Nw (.methodLinkNest RX10 51 yX0_init RX10) U ∧ va_Nw (.methodLinkNest RX10 58 yX5_init RX10) U) ∧ va_Nw (.methodLinkNest RX0 62 yX10_winnerOf RX10) U ∧ va_Nw (.methodLinkNest RX0 75 yX10_hasBit RX10) U ∧ va_Nw (.methodLinkNest RX0 86 yX10_leadOf RX10) U ∧ va_Nw (.methodLinkNest RX2 37 yX10_letterAt RX10) U ∧ va_Nw (.methodLinkNest RX4 51 yX10_onlyBit RX10) U ∧ va_Nw (.methodLinkNest RX7 76 yX10_hasBit RX10) U ∧ va_Nw (.methodLinkNest RX8 11 yX4_init RX10) U ∧ va_Nw (.methodLinkNest RX8 61 yX10_oneVote RX10) U ∧ va_Nw (.methodLinkNest RX8 67 yX10_votesFor RX10) U ∧ va_Nw (.methodLinkNest RX9 80 yX10_isCountyOrAll RX10) U ∧ va_Nw (.methodLinkNest RX9 83 yX10_isHour RX10) U
theorem wk_Nw.warm {s U : State} (hW : s.WarmedH U.vm) (h : wk_Nw s) : wk_Nw U := by
  obtain ⟨⟨a1, a2, a3, a4, a5⟩, b1, b2, b3, b4, b5, b6, b7, b8, b9, b10, b11⟩ := h
  exact ⟨⟨a1.warmM hW, a2.warmM hW, a3.warmM hW, a4.warmM hW, a5.warmM hW⟩, b1.warmM hW, b2.warmM hW, b3.warmM hW, b4.warmM hW, b5.warmM hW, b6.warmM hW, b7.warmM hW, b8.warmM hW, b9.warmM hW, b10.warmM hW, b11.warmM hW⟩
theorem wk_Nw.same {u U : State} (h : u.vm = U.vm) (hZ : wk_Nw u) : wk_Nw U := by
  obtain ⟨⟨a1, a2, a3, a4, a5⟩, b1, b2, b3, b4, b5, b6, b7, b8, b9, b10, b11⟩ := hZ
  exact ⟨⟨a1.same rfl h, a2.same rfl h, a3.same rfl h, a4.same rfl h, a5.same rfl h⟩, b1.same rfl h, b2.same rfl h, b3.same rfl h, b4.same rfl h, b5.same rfl h, b6.same rfl h, b7.same rfl h, b8.same rfl h, b9.same rfl h, b10.same rfl h, b11.same rfl h⟩
-- the contract's shape
def wk_Pre (D : va_G) (tys : List (ClassId × FieldType)) (W0 : va_W) (sz : Nat) (U : State) : Prop := U.heap.size = sz ∧ va_P D vwCl W0 U.heap ∧ va_K D vwCl tys U ∧ va_D (fun _ => True) W0 ∧ wk_Nw U
def wk_Qi (D : va_G) (tys : List (ClassId × FieldType)) (A : Nat → Prop) (W1 : va_W) (res : Int32) : Array Value → State → Outcome → State → Prop := va_Qi (fun r (_ : Unit) => r = res) (fun _ t => va_P D vwCl W1 t.heap ∧ va_K D vwCl tys t ∧ va_D A W1) A
def wk_Qv (D : va_G) (tys : List (ClassId × FieldType)) (A : Nat → Prop) (W1 : va_W) : Array Value → State → Outcome → State → Prop := va_Qv (fun (_ : Unit) => True) (fun _ t => va_P D vwCl W1 t.heap ∧ va_K D vwCl tys t ∧ va_D A W1) A
def MTi (l : Launch) (y : MethodName) (ws : List Cond) (rm : Room) (D : va_G) (tys : List (ClassId × FieldType)) (av : List Value) (W0 W1 : va_W) (res : Int32) : Prop := ∀ sz, Met l y ws rm (va_Pc av (wk_Pre D tys W0 sz)) (wk_Qi D tys (va_A W0 sz) W1 res) 0 0 (va_A W0 sz)
def MTv (l : Launch) (y : MethodName) (ws : List Cond) (rm : Room) (D : va_G) (tys : List (ClassId × FieldType)) (av : List Value) (W0 W1 : va_W) : Prop := ∀ sz, Met l y ws rm (va_Pc av (wk_Pre D tys W0 sz)) (wk_Qv D tys (va_A W0 sz) W1) 0 0 (va_A W0 sz)
theorem wk_blind (av : List Value) (D : va_G) (tys : List (ClassId × FieldType)) (W0 : va_W) (sz : Nat) : FrameBlind (va_Pc av (wk_Pre D tys W0 sz)) := fun a U g mk q => by
  obtain ⟨q0, q1, qP, qK, qD, qN⟩ := q
  exact ⟨q0, q1, qP, va_K.moved (u := U) (U := U.calling g mk a) (Vm.Alike.refl U.vm) qK, qD, qN.same (u := U) (U := U.calling g mk a) rfl⟩
-- what stands at a method's entry
def wk_C (p : Program) (s : State) (m : MethodId) (args : Array Value) (meth : Method) (c : Code) (cc : ByteArray) (nL : Nat) (ws : List Cond) (own : String) (D : va_G) (tys : List (ClassId × FieldType)) (A : Nat → Prop) : Prop :=
  p.tables.exec = Jvm.exec ∧ c.code = cc ∧ c.maxLocals = nL ∧ (∀ w ∈ ws, w.before args s = true) ∧ s.vm.findClass own = some m.cls ∧ va_K D vwCl tys s ∧ wk_Nw s ∧ (∀ q, s.heap.size ≤ q → A q) ∧ meth.locks = false
theorem MTi.of {l : Launch} {y : MethodName} {ws ws' : List Cond} {rm : Room} {D : va_G} {tys : List (ClassId × FieldType)} {av : List Value} {W0 W1 : va_W} {res : Int32} {cc : ByteArray} {nL : Nat} {rt : FieldType} {own : String}
    (hy : plainName y.cls = true) (hw : ws = Cond.code y cc nL (some rt) :: ws') (hcl : y.cls = own) (hn : (lg_sl av).length ≤ nL) (hnar : narrow rt (.int res) = .int res)
    (body : ∀ (p : Program) (e : Env) (s : State) (m : MethodId) (args : Array Value) (below : List Frame) (meth : Method) (c : Code) (A : Nat → Prop) (ls : Array Slot) (Q : State → Prop), wk_C p s m args meth c cc nL ws own D tys A → va_P D vwCl W0 s.heap → va_D A W0 → va_S A s.heap s.heap [] → lv_has ls nL (lv_args 0 av) →
      (∀ (H : Heap) (locs : List Loc) (ls : Array Slot) (pc : Nat) (v : Int32) (Wx : va_W), decode cc pc = .ok (.ireturn, 1) → v = res → Wx = W1 → va_P D vwCl Wx H → va_D A Wx → va_S A s.heap H locs → W p l e rm s m args below meth c H locs 0 0 Q (F0 m pc ls [.int v])) →
      W p l e rm s m args below meth c s.heap [] 0 0 Q (F0 m 0 ls [])) : MTi l y ws rm D tys av W0 W1 res := by
  intro sz
  refine Met.ofW (cc := cc) (maxL := nL) (ret := some rt) hy hw ?_
  intro p e s m args below meth c s₁ B hml hv
  obtain ⟨rfl, hsz, hP, hK, hD0, hN⟩ := hv
  have hr := B.returns
  have hts := atoms_spec (ws := ws) B.pre
  have hown : s.vm.findClass own = some m.cls := by rw [← hcl]; exact findClass_of_methodNamed B.named
  have hlocks := B.notSynchronized
  subst hsz
  have hl := lv_entry av hn
  rw [lg_entry_eq]
  refine body p e s m _ below meth c (va_A W0 s.heap.size) _ _ ⟨B.exec, B.bytes, hml, hts, hown, hK, hN, fun q h => Or.inr h, hlocks⟩ hP hD0.self va_S.rf hl ?_
  intro H locs ls pc v Wx hdg hv hWx hP1 hD1 hS1
  subst hv; subst hWx
  exact W.zret (ty := rt) B.exec B.bytes hr hnar (fun t ht hW => ⟨⟨v, (), rfl, rfl, by rw [ht]; exact hP1, va_K.moved hW.alike hK, hD1⟩, hS1.F ht⟩) hS1.2.2 hdg
theorem MTv.of {l : Launch} {y : MethodName} {ws ws' : List Cond} {rm : Room} {D : va_G} {tys : List (ClassId × FieldType)} {av : List Value} {W0 W1 : va_W} {cc : ByteArray} {nL : Nat} {own : String}
    (hy : plainName y.cls = true) (hw : ws = Cond.code y cc nL none :: ws') (hcl : y.cls = own) (hn : (lg_sl av).length ≤ nL)
    (body : ∀ (p : Program) (e : Env) (s : State) (m : MethodId) (args : Array Value) (below : List Frame) (meth : Method) (c : Code) (A : Nat → Prop) (ls : Array Slot) (Q : State → Prop), wk_C p s m args meth c cc nL ws own D tys A → va_P D vwCl W0 s.heap → va_D A W0 → va_S A s.heap s.heap [] → lv_has ls nL (lv_args 0 av) →
      (∀ (H : Heap) (locs : List Loc) (ls : Array Slot) (pc : Nat) (Wx : va_W), decode cc pc = .ok (.return_, 1) → Wx = W1 → va_P D vwCl Wx H → va_D A Wx → va_S A s.heap H locs → W p l e rm s m args below meth c H locs 0 0 Q (F0 m pc ls [])) →
      W p l e rm s m args below meth c s.heap [] 0 0 Q (F0 m 0 ls [])) : MTv l y ws rm D tys av W0 W1 := by
  intro sz
  refine Met.ofW (cc := cc) (maxL := nL) (ret := none) hy hw ?_
  intro p e s m args below meth c s₁ B hml hv
  obtain ⟨rfl, hsz, hP, hK, hD0, hN⟩ := hv
  have hr := B.returns
  have hts := atoms_spec (ws := ws) B.pre
  have hown : s.vm.findClass own = some m.cls := by rw [← hcl]; exact findClass_of_methodNamed B.named
  have hlocks := B.notSynchronized
  subst hsz
  have hl := lv_entry av hn
  rw [lg_entry_eq]
  refine body p e s m _ below meth c (va_A W0 s.heap.size) _ _ ⟨B.exec, B.bytes, hml, hts, hown, hK, hN, fun q h => Or.inr h, hlocks⟩ hP hD0.self va_S.rf hl ?_
  intro H locs ls pc Wx hdg hWx hP1 hD1 hS1
  subst hWx
  exact W.vret B.exec B.bytes hr (fun t ht hW => ⟨⟨(), rfl, trivial, by rw [ht]; exact hP1, va_K.moved hW.alike hK, hD1⟩, hS1.F ht⟩) hS1.2.2 hdg
-- the callee's cells put back in their places
def wk_set (ws : va_W) : List Nat → va_W → va_W
  | [], _ => ws
  | _ :: _, [] => ws
  | i :: is, c :: cs => wk_set (ws.set i c) is cs
theorem wk_set_len : ∀ (is : List Nat) (cs ws : va_W), (wk_set ws is cs).length = ws.length
  | [], cs, _ => by cases cs <;> rfl
  | _ :: _, [], _ => rfl
  | i :: is, c :: cs, ws => by rw [wk_set, wk_set_len is cs]; exact List.length_set
theorem wk_set_out : ∀ (is : List Nat) (cs ws : va_W) (k : Nat), k ∉ is → (wk_set ws is cs)[k]? = ws[k]?
  | [], cs, _, _, _ => by cases cs <;> rfl
  | _ :: _, [], _, _, _ => rfl
  | i :: is, c :: cs, ws, k, h => by
    rw [wk_set, wk_set_out is cs _ k (fun h2 => h (List.mem_cons_of_mem _ h2)), List.getElem?_set_ne (fun e => h (by rw [e]; exact List.mem_cons_self))]
theorem wk_set_in : ∀ (is : List Nat) (cs ws : va_W) (j k : Nat) (c : Nat × va_E), va_nd is = true → is[j]? = some k → cs[j]? = some c → k < ws.length → (wk_set ws is cs)[k]? = some c
  | [], _, _, _, _, _, _, h, _, _ => by simp at h
  | _ :: _, [], _, _, _, _, _, _, h, _ => by simp at h
  | i :: is, c0 :: cs, ws, j, k, c, hn, h1, h2, hk => by
    have inj := va_nd_inj (i :: is) hn
    cases j with
    | zero =>
      simp only [List.getElem?_cons_zero, Option.some.injEq] at h1 h2
      subst h1; subst h2
      rw [wk_set, wk_set_out is cs _ i]
      · rw [List.getElem?_set_self hk]
      · intro hm
        obtain ⟨j2, hj2⟩ := List.getElem?_of_mem hm
        have := inj 0 (j2 + 1) i rfl (by simpa using hj2)
        omega
    | succ j =>
      simp only [List.getElem?_cons_succ] at h1 h2
      have hn' : va_nd is = true := by
        simp only [va_nd, Bool.and_eq_true] at hn
        exact hn.2
      rw [wk_set]
      exact wk_set_in is cs _ j k c hn' h1 h2 (by rw [List.length_set]; exact hk)
theorem wk_join {A0 : Nat → Prop} {D : va_G} {cl : List vw_C} {ws W0 W1 Wn : va_W} {H H1 : Heap} (hP : va_P D cl ws H) (hD : va_D A0 ws) (isC : List Nat) (hC : isC.map (fun i => ws[i]?) = W0.map some) (hn : va_nd isC = true) (hWn : wk_set ws isC W1 = Wn) (hfst : W1.map Prod.fst = W0.map Prod.fst)
    (hk : ∀ q : Nat, q < H.size → ¬ va_A W0 H.size q → H1[q]? = H[q]?) (hP1 : va_P D cl W1 H1) : va_P D cl Wn H1 ∧ va_D A0 Wn := by
  subst hWn
  have hlen : isC.length = W0.length := by have := congrArg List.length hC; simpa using this
  have hlen1 : W1.length = W0.length := by have := congrArg List.length hfst; simpa using this
  have at' : ∀ (j i : Nat) (q : Nat × va_E), isC[j]? = some i → W0[j]? = some q → ws[i]? = some q := by
    intro j i q h1 h2
    have h3 : (isC.map (fun i => ws[i]?))[j]? = (W0.map some)[j]? := by rw [hC]
    rw [List.getElem?_map, List.getElem?_map, h1, h2] at h3
    exact Option.some.inj h3
  have fst' : ∀ (j : Nat) (c q : Nat × va_E), W1[j]? = some c → W0[j]? = some q → c.1 = q.1 := by
    intro j c q h1 h2
    have h3 : (W1.map Prod.fst)[j]? = (W0.map Prod.fst)[j]? := by rw [hfst]
    rw [List.getElem?_map, List.getElem?_map, h1, h2] at h3
    exact Option.some.inj h3
  have main : ∀ (k : Nat) (q : Nat × va_E), (wk_set ws isC W1)[k]? = some q → (∃ q0, ws[k]? = some q0 ∧ q0.1 = q.1) ∧ va_at D cl q H1 := by
    intro k q hq
    by_cases hm : k ∈ isC
    · obtain ⟨j, hj⟩ := List.getElem?_of_mem hm
      have hj0 : j < isC.length := (List.getElem?_eq_some_iff.mp hj).1
      obtain ⟨w0, hw0⟩ : ∃ w0, W0[j]? = some w0 := ⟨_, List.getElem?_eq_getElem (by omega)⟩
      obtain ⟨w1, hw1⟩ : ∃ w1, W1[j]? = some w1 := ⟨_, List.getElem?_eq_getElem (by omega)⟩
      have hws := at' j k w0 hj hw0
      have hk2 : k < ws.length := (List.getElem?_eq_some_iff.mp hws).1
      rw [wk_set_in isC W1 ws j k w1 hn hj hw1 hk2] at hq
      cases hq
      exact ⟨⟨w0, hws, (fst' j _ w0 hw1 hw0).symm⟩, hP1 j _ hw1⟩
    · rw [wk_set_out isC W1 ws k hm] at hq
      refine ⟨⟨q, hq, rfl⟩, (hP k q hq).kept (hk q.1 ((hP k q hq).lt) (fun h => ?_))⟩
      rcases h with ⟨j, e, h⟩ | h
      · have hj0 : j < W0.length := (List.getElem?_eq_some_iff.mp h).1
        obtain ⟨i, hi⟩ : ∃ i, isC[j]? = some i := ⟨_, List.getElem?_eq_getElem (by omega)⟩
        have h2 := at' j i _ hi h
        have := hD.1 k i q (q.1, e) hq h2 rfl
        subst this
        exact hm (List.mem_of_getElem? hi)
      · have := (hP k q hq).lt
        omega
  refine ⟨fun k q hq => (main k q hq).2, ⟨fun i j p q hp hq hpq => ?_, fun k q hq => ?_⟩⟩
  · obtain ⟨⟨p0, h1, h2⟩, -⟩ := main i p hp
    obtain ⟨⟨q0, h3, h4⟩, -⟩ := main j q hq
    exact hD.1 i j p0 q0 h1 h3 (by rw [h2, h4, hpq])
  · obtain ⟨⟨q0, h3, h4⟩, -⟩ := main k q hq
    rw [← h4]
    exact hD.2 k q0 h3
