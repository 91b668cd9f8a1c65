def wk_pick (ws : va_W) (is : List Nat) : va_W := is.filterMap (fun i => ws[i]?)
def wk_cov (n : Nat) (isC isR : List Nat) : Bool := va_nd isC && (List.range n).all (fun k => isC.contains k || isR.contains k)
theorem wk_cov_nd {n : Nat} {isC isR : List Nat} (h : wk_cov n isC isR = true) : va_nd isC = true := by
  simp only [wk_cov, Bool.and_eq_true] at h
  exact h.1
theorem wk_join2 {A0 : Nat → Prop} {D : va_G} {cl : List vw_C} {ws W0 W1 Wn : va_W} {H H1 : Heap} (hP : va_P D cl ws H) (hD : va_D A0 ws) (isC isR : List Nat) (nw : Nat) (hcov : wk_cov nw isC isR = true) (hC : isC.map (fun i => ws[i]?) = W0.map some) (hl0 : ws.length = nw) (hl1' : Wn.length = nw) (hC1 : isC.map (fun i => Wn[i]?) = W1.map some) (hR1 : isR.map (fun i => Wn[i]?) = isR.map (fun i => ws[i]?)) (hfst : W1.map Prod.fst = W0.map Prod.fst)
    (hk : ∀ q : Nat, q < H.size → ¬ va_A W0 H.size q → H1[q]? = H[q]?) (hP1 : va_P D cl W1 H1) : va_P D cl Wn H1 ∧ va_D A0 Wn := by
  have hn := wk_cov_nd hcov
  simp only [wk_cov, Bool.and_eq_true, List.all_eq_true, List.mem_range, Bool.or_eq_true, List.contains_iff_mem] at hcov
  obtain ⟨-, hcov⟩ := hcov
  have hlen : ws.length = Wn.length := by omega
  subst hl0
  refine wk_join hP hD isC hC hn ?_ hfst hk hP1
  have hl1 : isC.length = W1.length := by have := congrArg List.length hC1; simpa using this
  refine List.ext_getElem? (fun k => ?_)
  by_cases hkl : k < ws.length
  · by_cases hm : k ∈ isC
    · obtain ⟨j, hj⟩ := List.getElem?_of_mem hm
      have hj0 : j < isC.length := (List.getElem?_eq_some_iff.mp hj).1
      obtain ⟨w1, hw1⟩ : ∃ w1, W1[j]? = some w1 := ⟨_, List.getElem?_eq_getElem (by omega)⟩
      rw [wk_set_in isC W1 ws j k w1 hn hj hw1 hkl]
      have h3 : (isC.map (fun i => Wn[i]?))[j]? = (W1.map some)[j]? := by rw [hC1]
      rw [List.getElem?_map, List.getElem?_map, hj, hw1] at h3
      exact (Option.some.inj h3).symm
    · rw [wk_set_out isC W1 ws k hm]
      have hr : k ∈ isR := (hcov k hkl).resolve_left hm
      obtain ⟨j, hj⟩ := List.getElem?_of_mem hr
      have h3 : (isR.map (fun i => Wn[i]?))[j]? = (isR.map (fun i => ws[i]?))[j]? := by rw [hR1]
      rw [List.getElem?_map, List.getElem?_map, hj] at h3
      exact (Option.some.inj h3).symm
  · rw [List.getElem?_eq_none (by rw [wk_set_len]; omega), List.getElem?_eq_none (by omega)]
section WKH
variable {p : Program} {l : Launch} {e : Env} {R : Room} {s : State} {m : MethodId} {args : Array Value} {below : List Frame} {meth : Method} {c : Code} {H : Heap} {locs : List Loc} {cells slots : Nat} {Q : State → Prop} {cc : ByteArray} {nL : Nat} {Ts : List Cond} {own : String} {D : va_G} {tys : List (ClassId × FieldType)} {A : Nat → Prop} {pc : Nat} {ls : Array Slot} {rest st0 : List Value} {y : MethodName} {bytes : ByteArray} {maxL n index : Nat} {ret : Option FieldType} {wsy : List Cond} {rm : Room} {As : List Value} {b : Nat} {W0 W1 ws Wn : va_W} {res : Int32} {av : Array Value} {Cn host : String} {ci q0 : Nat} {fs : List Value} {qc : vw_C}
theorem wk_goI2 (C : wk_C p s m args meth c cc nL Ts own D tys A) (hr : va_Run p l e R s m args below meth c H locs cells slots 0 0 (F0 m pc ls st0) rest (wk_Qi D tys (va_A W0 H.size) W1 res av) (va_A W0 H.size))
    (hP : va_P D vwCl ws H) (hD : va_D A ws) (hS : va_S A s.heap H locs) (isC isR : List Nat) (nw : Nat) (hcov : wk_cov nw isC isR = true) (hC : isC.map (fun i => ws[i]?) = W0.map some) (hl0 : ws.length = nw) (hl1 : Wn.length = nw) (hC1 : isC.map (fun i => Wn[i]?) = W1.map some) (hR0 : isR.map (fun i => ws[i]?) = (wk_pick ws isR).map some) (hR1 : isR.map (fun i => Wn[i]?) = (wk_pick ws isR).map some) (hfst : W1.map Prod.fst = W0.map Prod.fst)
    (kk : ∀ (H1 : Heap) (locs1 : List Loc), va_P D vwCl Wn H1 → va_D A Wn → va_S A s.heap H1 locs1 → W p l e R s m args below meth c H1 locs1 cells slots Q (F0 m (pc + 3) ls (.int res :: rest))) : W p l e R s m args below meth c H locs cells slots Q (F0 m pc ls st0) := by
  obtain ⟨-, -, -, -, -, -, -, hA, -⟩ := C
  have hF := va_free hD hS hA isC hC
  refine va_calli (post := fun r (_ : Unit) => r = res) (B := fun _ t => va_P D vwCl W1 t.heap ∧ va_K D vwCl tys t ∧ va_D (va_A W0 H.size) W1) (A1 := va_A W0 H.size) hr hS (fun q _ h => hF q h) hF (fun r u t H1 locs1 ht hvm hpost hB hz hk hS1 => ?_)
  obtain ⟨hP1, -, -⟩ := hB
  rw [ht] at hP1
  obtain ⟨hPn, hDn⟩ := wk_join2 hP hD isC isR nw hcov hC hl0 hl1 hC1 (hR1.trans hR0.symm) hfst hk hP1
  rw [hpost]
  exact kk H1 locs1 hPn hDn hS1
theorem wk_goV2 (C : wk_C p s m args meth c cc nL Ts own D tys A) (hr : va_Run p l e R s m args below meth c H locs cells slots 0 0 (F0 m pc ls st0) rest (wk_Qv D tys (va_A W0 H.size) W1 av) (va_A W0 H.size))
    (hP : va_P D vwCl ws H) (hD : va_D A ws) (hS : va_S A s.heap H locs) (isC isR : List Nat) (nw : Nat) (hcov : wk_cov nw isC isR = true) (hC : isC.map (fun i => ws[i]?) = W0.map some) (hl0 : ws.length = nw) (hl1 : Wn.length = nw) (hC1 : isC.map (fun i => Wn[i]?) = W1.map some) (hR0 : isR.map (fun i => ws[i]?) = (wk_pick ws isR).map some) (hR1 : isR.map (fun i => Wn[i]?) = (wk_pick ws isR).map some) (hfst : W1.map Prod.fst = W0.map Prod.fst)
    (kk : ∀ (H1 : Heap) (locs1 : List Loc), va_P D vwCl Wn H1 → va_D A Wn → va_S A s.heap H1 locs1 → W p l e R s m args below meth c H1 locs1 cells slots Q (F0 m (pc + 3) ls rest)) : W p l e R s m args below meth c H locs cells slots Q (F0 m pc ls st0) := by
  obtain ⟨-, -, -, -, -, -, -, hA, -⟩ := C
  have hF := va_free hD hS hA isC hC
  refine va_callv (post := fun (_ : Unit) => True) (B := fun _ t => va_P D vwCl W1 t.heap ∧ va_K D vwCl tys t ∧ va_D (va_A W0 H.size) W1) (A1 := va_A W0 H.size) hr hS (fun q _ h => hF q h) hF (fun u t H1 locs1 ht hvm hpost hB hz hk hS1 => ?_)
  obtain ⟨hP1, -, -⟩ := hB
  rw [ht] at hP1
  obtain ⟨hPn, hDn⟩ := wk_join2 hP hD isC isR nw hcov hC hl0 hl1 hC1 (hR1.trans hR0.symm) hfst hk hP1
  exact kk H1 locs1 hPn hDn hS1
theorem wk_callVi2 (C : wk_C p s m args meth c cc nL Ts own D tys A) (hP : va_P D vwCl ws H) (hD : va_D A ws) (hS : va_S A s.heap H locs) (hM : MTi l y wsy rm D tys (.ref b :: As) W0 W1 res) (cw : CallW R s args own Cn index y bytes maxL ret wsy rm 0 0 n) (hsz : ls.size = nL) (hf : cells ≤ R.cells ∧ slots ≤ R.slots) (isC isR : List Nat) (nw : Nat) (hcov : wk_cov nw isC isR = true) (hC : isC.map (fun i => ws[i]?) = W0.map some) (hl0 : ws.length = nw) (hl1 : Wn.length = nw) (hC1 : isC.map (fun i => Wn[i]?) = W1.map some) (hR0 : isR.map (fun i => ws[i]?) = (wk_pick ws isR).map some) (hR1 : isR.map (fun i => Wn[i]?) = (wk_pick ws isR).map some) (hfst : W1.map Prod.fst = W0.map Prod.fst) (hc : vwCl[ci]? = some qc) (hcn : qc.1 = Cn) (he : ws[q0]? = some (b, .inr (ci, fs))) (hn : As.length = n) (hst : st0 = As.reverse ++ .ref b :: rest) (hrm : (rest.map fun v => v.category).sum ≤ 8) (hdg : decode cc pc = .ok (.invokevirtual index, 3))
    (kk : ∀ (H1 : Heap) (locs1 : List Loc), va_P D vwCl Wn H1 → va_D A Wn → va_S A s.heap H1 locs1 → W p l e R s m args below meth c H1 locs1 cells slots Q (F0 m (pc + 3) ls (.int res :: rest))) : W p l e R s m args below meth c H locs cells slots Q (F0 m pc ls st0) :=
  wk_goI2 C (va_runV (As := As) (rest := rest) (wk_fix C) (hM H.size) cw (wk_preV C hP hD isC hC (wk_cov_nd hcov) hc hcn he) rfl hn hsz hst (lv_room hrm) hdg hf) hP hD hS isC isR nw hcov hC hl0 hl1 hC1 hR0 hR1 hfst kk
theorem wk_callVv2 (C : wk_C p s m args meth c cc nL Ts own D tys A) (hP : va_P D vwCl ws H) (hD : va_D A ws) (hS : va_S A s.heap H locs) (hM : MTv l y wsy rm D tys (.ref b :: As) W0 W1) (cw : CallW R s args own Cn index y bytes maxL ret wsy rm 0 0 n) (hsz : ls.size = nL) (hf : cells ≤ R.cells ∧ slots ≤ R.slots) (isC isR : List Nat) (nw : Nat) (hcov : wk_cov nw isC isR = true) (hC : isC.map (fun i => ws[i]?) = W0.map some) (hl0 : ws.length = nw) (hl1 : Wn.length = nw) (hC1 : isC.map (fun i => Wn[i]?) = W1.map some) (hR0 : isR.map (fun i => ws[i]?) = (wk_pick ws isR).map some) (hR1 : isR.map (fun i => Wn[i]?) = (wk_pick ws isR).map some) (hfst : W1.map Prod.fst = W0.map Prod.fst) (hc : vwCl[ci]? = some qc) (hcn : qc.1 = Cn) (he : ws[q0]? = some (b, .inr (ci, fs))) (hn : As.length = n) (hst : st0 = As.reverse ++ .ref b :: rest) (hrm : (rest.map fun v => v.category).sum ≤ 8) (hdg : decode cc pc = .ok (.invokevirtual index, 3))
    (kk : ∀ (H1 : Heap) (locs1 : List Loc), va_P D vwCl Wn H1 → va_D A Wn → va_S A s.heap H1 locs1 → W p l e R s m args below meth c H1 locs1 cells slots Q (F0 m (pc + 3) ls rest)) : W p l e R s m args below meth c H locs cells slots Q (F0 m pc ls st0) :=
  wk_goV2 C (va_runV (As := As) (rest := rest) (wk_fix C) (hM H.size) cw (wk_preV C hP hD isC hC (wk_cov_nd hcov) hc hcn he) rfl hn hsz hst (lv_room hrm) hdg hf) hP hD hS isC isR nw hcov hC hl0 hl1 hC1 hR0 hR1 hfst kk
theorem wk_callSi2 (C : wk_C p s m args meth c cc nL Ts own D tys A) (hP : va_P D vwCl ws H) (hD : va_D A ws) (hS : va_S A s.heap H locs) (hM : MTi l y wsy rm D tys As W0 W1 res) (cw : CallB R s args own index y bytes maxL ret wsy rm 0 0 n ∧ (Cond.static y).before args s = true) (hsz : ls.size = nL) (hf : cells ≤ R.cells ∧ slots ≤ R.slots) (isC isR : List Nat) (nw : Nat) (hcov : wk_cov nw isC isR = true) (hC : isC.map (fun i => ws[i]?) = W0.map some) (hl0 : ws.length = nw) (hl1 : Wn.length = nw) (hC1 : isC.map (fun i => Wn[i]?) = W1.map some) (hR0 : isR.map (fun i => ws[i]?) = (wk_pick ws isR).map some) (hR1 : isR.map (fun i => Wn[i]?) = (wk_pick ws isR).map some) (hfst : W1.map Prod.fst = W0.map Prod.fst) (hn : As.length = n) (hst : st0 = As.reverse ++ rest) (hrm : (rest.map fun v => v.category).sum ≤ 8) (hdg : decode cc pc = .ok (.invokestatic index, 3))
    (kk : ∀ (H1 : Heap) (locs1 : List Loc), va_P D vwCl Wn H1 → va_D A Wn → va_S A s.heap H1 locs1 → W p l e R s m args below meth c H1 locs1 cells slots Q (F0 m (pc + 3) ls (.int res :: rest))) : W p l e R s m args below meth c H locs cells slots Q (F0 m pc ls st0) :=
  wk_goI2 C (va_runS (As := As) (rest := rest) (wk_fix C) (hM H.size) cw (wk_preS C hP hD isC hC (wk_cov_nd hcov)) rfl hn hsz hst (lv_room hrm) hdg hf) hP hD hS isC isR nw hcov hC hl0 hl1 hC1 hR0 hR1 hfst kk
theorem wk_callNi2 (C : wk_C p s m args meth c cc nL Ts own D tys A) (hP : va_P D vwCl ws H) (hD : va_D A ws) (hS : va_S A s.heap H locs) (hM : MTi l y wsy rm D tys As W0 W1 res) (cw : va_CN R s args own index y host bytes maxL ret wsy rm 0 0 n ∧ (Cond.static y).before args s = true ∧ True) (hsz : ls.size = nL) (hf : cells ≤ R.cells ∧ slots ≤ R.slots) (isC isR : List Nat) (nw : Nat) (hcov : wk_cov nw isC isR = true) (hC : isC.map (fun i => ws[i]?) = W0.map some) (hl0 : ws.length = nw) (hl1 : Wn.length = nw) (hC1 : isC.map (fun i => Wn[i]?) = W1.map some) (hR0 : isR.map (fun i => ws[i]?) = (wk_pick ws isR).map some) (hR1 : isR.map (fun i => Wn[i]?) = (wk_pick ws isR).map some) (hfst : W1.map Prod.fst = W0.map Prod.fst) (hn : As.length = n) (hst : st0 = As.reverse ++ rest) (hrm : (rest.map fun v => v.category).sum ≤ 8) (hdg : decode cc pc = .ok (.invokestatic index, 3))
    (kk : ∀ (H1 : Heap) (locs1 : List Loc), va_P D vwCl Wn H1 → va_D A Wn → va_S A s.heap H1 locs1 → W p l e R s m args below meth c H1 locs1 cells slots Q (F0 m (pc + 3) ls (.int res :: rest))) : W p l e R s m args below meth c H locs cells slots Q (F0 m pc ls st0) :=
  wk_goI2 C (va_runSN (As := As) (rest := rest) (wk_fix C) (hM H.size) cw (wk_preS C hP hD isC hC (wk_cov_nd hcov)) rfl hn hsz hst (lv_room hrm) hdg hf) hP hD hS isC isR nw hcov hC hl0 hl1 hC1 hR0 hR1 hfst kk
end WKH
/-! MY LIBRARY: answers that are references; constructors; new arrays of a known class -/
def wk_Qr (D : va_G) (tys : List (ClassId × FieldType)) (A : Nat → Prop) (W1 : va_W) (res : Nat) : Array Value → State → Outcome → State → Prop := va_Qr (fun (_ : Unit) => True) (fun _ a t => a = res ∧ va_P D vwCl W1 t.heap ∧ va_K D vwCl tys t ∧ va_D A W1) A
def MTr (l : Launch) (y : MethodName) (ws : List Cond) (rm : Room) (D : va_G) (tys : List (ClassId × FieldType)) (av : List Value) (W0 W1 : va_W) (res : Nat) : Prop := ∀ sz, Met l y ws rm (va_Pc av (wk_Pre D tys W0 sz)) (wk_Qr D tys (va_A W0 sz) W1 res) 0 0 (va_A W0 sz)
theorem MTr.of {l : Launch} {y : MethodName} {ws ws' : List Cond} {rm : Room} {D : va_G} {tys : List (ClassId × FieldType)} {av : List Value} {W0 W1 : va_W} {res : Nat} {cc : ByteArray} {nL : Nat} {cn own : String}
    (hy : plainName y.cls = true) (hw : ws = Cond.code y cc nL (some (.object cn)) :: ws') (hcl : y.cls = own) (hn : (lg_sl av).length ≤ nL)
    (body : ∀ (p : Program) (e : Env) (s : State) (m : MethodId) (args : Array Value) (below : List Frame) (meth : Method) (c : Code) (A : Nat → Prop) (ls : Array Slot) (Q : State → Prop), wk_C p s m args meth c cc nL ws own D tys A → va_P D vwCl W0 s.heap → va_D A W0 → va_S A s.heap s.heap [] → lv_has ls nL (lv_args 0 av) →
      (∀ (H : Heap) (locs : List Loc) (ls : Array Slot) (pc : Nat) (v : Nat) (Wx : va_W), decode cc pc = .ok (.areturn, 1) → v = res → Wx = W1 → va_P D vwCl Wx H → va_D A Wx → va_S A s.heap H locs → W p l e rm s m args below meth c H locs 0 0 Q (F0 m pc ls [.ref v])) →
      W p l e rm s m args below meth c s.heap [] 0 0 Q (F0 m 0 ls [])) : MTr l y ws rm D tys av W0 W1 res := by
  intro sz
  refine Met.ofW (cc := cc) (maxL := nL) (ret := some (.object cn)) hy hw ?_
  intro p e s m args below meth c s₁ B hml hv
  obtain ⟨rfl, hsz, hP, hK, hD0, hN⟩ := hv
  have hr := B.returns
  have hts := atoms_spec (ws := ws) B.pre
  have hown : s.vm.findClass own = some m.cls := by rw [← hcl]; exact findClass_of_methodNamed B.named
  have hlocks := B.notSynchronized
  subst hsz
  have hl := lv_entry av hn
  rw [lg_entry_eq]
  refine body p e s m _ below meth c (va_A W0 s.heap.size) _ _ ⟨B.exec, B.bytes, hml, hts, hown, hK, hN, fun q h => Or.inr h, hlocks⟩ hP hD0.self va_S.rf hl ?_
  intro H locs ls pc v Wx hdg hv hWx hP1 hD1 hS1
  subst hv; subst hWx
  exact W.aret (rt := .object cn) B.exec B.bytes hr (Or.inl ⟨cn, rfl⟩) (Or.inr ⟨v, rfl⟩) (fun t ht hW => ⟨⟨(), v, rfl, trivial, rfl, by rw [ht]; exact hP1, va_K.moved hW.alike hK, hD1⟩, hS1.F ht⟩) hS1.2.2 hdg
def MTn {S : Type} (l : Launch) (y : MethodName) (ws : List Cond) (rm : Room) (D : va_G) (tys : List (ClassId × FieldType)) (av : List Value) (W0 : va_W) (W1 : S → va_W) (mc ms : Nat) : Prop := ∀ sz, Met l y ws rm (va_Pc av (wk_Pre D tys W0 sz)) (va_Qv (fun (_ : S) => True) (fun u t => va_P D vwCl (W1 u) t.heap ∧ va_K D vwCl tys t ∧ va_D (va_A W0 sz) (W1 u)) (va_A W0 sz)) mc ms (va_A W0 sz)
theorem MTn.of {S : Type} {l : Launch} {y : MethodName} {ws ws' : List Cond} {rm : Room} {D : va_G} {tys : List (ClassId × FieldType)} {av : List Value} {W0 : va_W} {W1 : S → va_W} {mc ms : Nat} {cc : ByteArray} {nL : Nat} {own : String}
    (hy : plainName y.cls = true) (hw : ws = Cond.code y cc nL none :: ws') (hcl : y.cls = own) (hyn : y.name = "<init>") (hn : (lg_sl av).length ≤ nL)
    (body : ∀ (p : Program) (e : Env) (s : State) (m : MethodId) (args : Array Value) (below : List Frame) (meth : Method) (c : Code) (A : Nat → Prop) (ls : Array Slot) (Q : State → Prop), wk_C p s m args meth c cc nL ws own D tys A → meth.name = "<init>" → va_P D vwCl W0 s.heap → va_D A W0 → va_S A s.heap s.heap [] → lv_has ls nL (lv_args 0 av) →
      (∀ (u : S) (H : Heap) (locs : List Loc) (ls : Array Slot) (pc : Nat), decode cc pc = .ok (.return_, 1) → va_P D vwCl (W1 u) H → va_D A (W1 u) → va_S A s.heap H locs → W p l e rm s m args below meth c H locs mc ms Q (F0 m pc ls [])) →
      W p l e rm s m args below meth c s.heap [] 0 0 Q (F0 m 0 ls [])) : MTn l y ws rm D tys av W0 W1 mc ms := by
  intro sz
  refine Met.ofW (cc := cc) (maxL := nL) (ret := none) hy hw ?_
  intro p e s m args below meth c s₁ B hml hv
  obtain ⟨rfl, hsz, hP, hK, hD0, hN⟩ := hv
  have hr := B.returns
  have hts := atoms_spec (ws := ws) B.pre
  have hown : s.vm.findClass own = some m.cls := by rw [← hcl]; exact findClass_of_methodNamed B.named
  have hlocks := B.notSynchronized
  have hin : meth.name = "<init>" := (name_of_methodNamed B.named B.method).1.trans hyn
  subst hsz
  have hl := lv_entry av hn
  rw [lg_entry_eq]
  refine body p e s m _ below meth c (va_A W0 s.heap.size) _ _ ⟨B.exec, B.bytes, hml, hts, hown, hK, hN, fun q h => Or.inr h, hlocks⟩ hin hP hD0.self va_S.rf hl ?_
  intro u H locs ls pc hdg hP1 hD1 hS1
  exact W.vret B.exec B.bytes hr (fun t ht hW => ⟨⟨u, rfl, trivial, by rw [ht]; exact hP1, va_K.moved hW.alike hK, hD1⟩, hS1.F ht⟩) hS1.2.2 hdg
section WKG2
variable {p : Program} {l : Launch} {e : Env} {R : Room} {s : State} {m : MethodId} {args : Array Value} {below : List Frame} {meth : Method} {c : Code} {H : Heap} {locs : List Loc} {cells slots : Nat} {Q : State → Prop} {cc : ByteArray} {nL : Nat} {Ts : List Cond} {own : String} {D : va_G} {tys : List (ClassId × FieldType)} {A : Nat → Prop} {pc : Nat} {ls : Array Slot} {rest st0 : List Value} {y : MethodName} {bytes : ByteArray} {maxL n index : Nat} {ret : Option FieldType} {wsy : List Cond} {rm : Room} {As : List Value} {b : Nat} {W0 W1 ws Wn : va_W} {res : Nat} {av : Array Value} {Cn host : String} {ci q0 : Nat} {fs : List Value} {qc : vw_C} {mc ms : Nat} {S : Type} {V1 : S → va_W}
theorem wk_callVr (C : wk_C p s m args meth c cc nL Ts own D tys A) (hP : va_P D vwCl ws H) (hD : va_D A ws) (hS : va_S A s.heap H locs) (hM : MTr l y wsy rm D tys (.ref b :: As) W0 W1 res) (cw : CallW R s args own Cn index y bytes maxL ret wsy rm 0 0 n) (hsz : ls.size = nL) (hf : cells ≤ R.cells ∧ slots ≤ R.slots) (isC isR : List Nat) (nw : Nat) (hcov : wk_cov nw isC isR = true) (hC : isC.map (fun i => ws[i]?) = W0.map some) (hl0 : ws.length = nw) (hl1 : Wn.length = nw) (hC1 : isC.map (fun i => Wn[i]?) = W1.map some) (hR0 : isR.map (fun i => ws[i]?) = (wk_pick ws isR).map some) (hR1 : isR.map (fun i => Wn[i]?) = (wk_pick ws isR).map some) (hfst : W1.map Prod.fst = W0.map Prod.fst) (hc : vwCl[ci]? = some qc) (hcn : qc.1 = Cn) (he : ws[q0]? = some (b, .inr (ci, fs))) (hn : As.length = n) (hst : st0 = As.reverse ++ .ref b :: rest) (hrm : (rest.map fun v => v.category).sum ≤ 8) (hdg : decode cc pc = .ok (.invokevirtual index, 3))
    (kk : ∀ (H1 : Heap) (locs1 : List Loc), va_P D vwCl Wn H1 → va_D A Wn → va_S A s.heap H1 locs1 → W p l e R s m args below meth c H1 locs1 cells slots Q (F0 m (pc + 3) ls (.ref res :: rest))) : W p l e R s m args below meth c H locs cells slots Q (F0 m pc ls st0) := by
  have hA := C.2.2.2.2.2.2.2.1
  have hF := va_free hD hS hA isC hC
  refine va_callr (post := fun (_ : Unit) => True) (B := fun _ a t => a = res ∧ va_P D vwCl W1 t.heap ∧ va_K D vwCl tys t ∧ va_D (va_A W0 H.size) W1) (A1 := va_A W0 H.size) (va_runV (As := As) (rest := rest) (wk_fix C) (hM H.size) cw (wk_preV C hP hD isC hC (wk_cov_nd hcov) hc hcn he) rfl hn hsz hst (lv_room hrm) hdg hf) hS (fun q _ h => hF q h) hF (fun u ra t H1 locs1 ht hvm hpost hB hz hk hS1 => ?_)
  obtain ⟨rfl, hP1, -, -⟩ := hB
  rw [ht] at hP1
  obtain ⟨hPn, hDn⟩ := wk_join2 hP hD isC isR nw hcov hC hl0 hl1 hC1 (hR1.trans hR0.symm) hfst hk hP1
  exact kk H1 locs1 hPn hDn hS1
theorem wk_goN (C : wk_C p s m args meth c cc nL Ts own D tys A) (hr : va_Run p l e R s m args below meth c H locs cells slots mc ms (F0 m pc ls st0) rest (va_Qv (fun (_ : S) => True) (fun u t => va_P D vwCl (V1 u) t.heap ∧ va_K D vwCl tys t ∧ va_D (va_A W0 H.size) (V1 u)) (va_A W0 H.size) av) (va_A W0 H.size))
    (hP : va_P D vwCl ws H) (hD : va_D A ws) (hS : va_S A s.heap H locs) (isC isR : List Nat) (hC : isC.map (fun i => ws[i]?) = W0.map some) (hR : isR.map (fun i => ws[i]?) = (wk_pick ws isR).map some) (hnd : va_nd isR = true) (hdis : ∀ i ∈ isR, i ∉ isC)
    (kk : ∀ (u : S) (H1 : Heap) (locs1 : List Loc), va_P D vwCl (wk_pick ws isR ++ V1 u) H1 → va_D A (wk_pick ws isR ++ V1 u) → va_S A s.heap H1 locs1 → W p l e R s m args below meth c H1 locs1 (cells + mc) (slots + ms) Q (F0 m (pc + 3) ls rest)) : W p l e R s m args below meth c H locs cells slots Q (F0 m pc ls st0) := by
  have hA := C.2.2.2.2.2.2.2.1
  have hF := va_free hD hS hA isC hC
  refine va_callv hr hS (fun q _ h => hF q h) hF (fun u t H1 locs1 ht hvm hpost hB hz hk hS1 => ?_)
  obtain ⟨hP1, -, hD1⟩ := hB
  rw [ht] at hP1
  obtain ⟨hPn, hDn⟩ := va_join (wr := wk_pick ws isR) (w1 := V1 u) hP hD isC isR hC hR hnd hdis hk hF hP1 hD1
  exact kk u H1 locs1 hPn hDn hS1
theorem wk_newI (C : wk_C p s m args meth c cc nL Ts own D tys A) (hM : MTn l y wsy rm D tys (.ref b :: As) W0 V1 mc ms) (cw : CallB R s args own index y bytes maxL none wsy rm mc ms n ∧ y.name = "<init>" ∧ (Cond.instanceMethod y).before args s = true) (hP : va_P D vwCl ws H) (hD : va_D A ws) (hS : va_S A s.heap H locs) (hsz : ls.size = nL) (hf : cells + mc ≤ R.cells ∧ slots + ms ≤ R.slots) (isC isR : List Nat) (hC : isC.map (fun i => ws[i]?) = W0.map some) (hR : isR.map (fun i => ws[i]?) = (wk_pick ws isR).map some) (hndC : va_nd isC = true) (hnd : va_nd isR = true) (hdis : ∀ i ∈ isR, i ∉ isC) (hn : As.length = n) (hst : st0 = As.reverse ++ .ref b :: rest) (hrm : (rest.map fun v => v.category).sum ≤ 8) (hdg : decode cc pc = .ok (.invokespecial index, 3))
    (kk : ∀ (u : S) (H1 : Heap) (locs1 : List Loc), va_P D vwCl (wk_pick ws isR ++ V1 u) H1 → va_D A (wk_pick ws isR ++ V1 u) → va_S A s.heap H1 locs1 → W p l e R s m args below meth c H1 locs1 (cells + mc) (slots + ms) Q (F0 m (pc + 3) ls rest)) : W p l e R s m args below meth c H locs cells slots Q (F0 m pc ls st0) :=
  wk_goN C (va_runI (As := As) (rest := rest) (wk_fix C) (hM H.size) cw (wk_preS (As := .ref b :: As) C hP hD isC hC hndC) rfl hn hsz hst (lv_room hrm) hdg hf) hP hD hS isC isR hC hR hnd hdis kk
theorem wk_newN (C : wk_C p s m args meth c cc nL Ts own D tys A) (hM : MTn l y wsy rm D tys (.ref b :: As) W0 V1 mc ms) (cw : va_CN R s args own index y host bytes maxL none wsy rm mc ms n ∧ y.name = "<init>" ∧ (Cond.instanceMethod y).before args s = true) (hP : va_P D vwCl ws H) (hD : va_D A ws) (hS : va_S A s.heap H locs) (hsz : ls.size = nL) (hf : cells + mc ≤ R.cells ∧ slots + ms ≤ R.slots) (isC isR : List Nat) (hC : isC.map (fun i => ws[i]?) = W0.map some) (hR : isR.map (fun i => ws[i]?) = (wk_pick ws isR).map some) (hndC : va_nd isC = true) (hnd : va_nd isR = true) (hdis : ∀ i ∈ isR, i ∉ isC) (hn : As.length = n) (hst : st0 = As.reverse ++ .ref b :: rest) (hrm : (rest.map fun v => v.category).sum ≤ 8) (hdg : decode cc pc = .ok (.invokespecial index, 3))
    (kk : ∀ (u : S) (H1 : Heap) (locs1 : List Loc), va_P D vwCl (wk_pick ws isR ++ V1 u) H1 → va_D A (wk_pick ws isR ++ V1 u) → va_S A s.heap H1 locs1 → W p l e R s m args below meth c H1 locs1 (cells + mc) (slots + ms) Q (F0 m (pc + 3) ls rest)) : W p l e R s m args below meth c H locs cells slots Q (F0 m pc ls st0) :=
  wk_goN C (va_runIN (As := As) (rest := rest) (wk_fix C) (hM H.size) cw (wk_preS (As := .ref b :: As) C hP hD isC hC hndC) rfl hn hsz hst (lv_room hrm) hdg hf) hP hD hS isC isR hC hR hnd hdis kk
/-- a new array, of the class that the words know -/
theorem wk_newarr {ty : FieldType} {atype : ArrayType} {cA : ClassId} {a0 : vp_A} {N' : Nat} {x : Int32} (C : wk_C p s m args meth c cc nL Ts own D tys A) (harr : (Cond.arrayClass (newarray.typeOf atype)).before args s = true) (hty : newarray.typeOf atype = ty) (hprim : ∀ U cB, va_RA U cB ty → U.vm.findClass ("[" ++ ty.toString) = some cB) (hP : va_P D vwCl ws H) (hD : va_D A ws) (hS : va_S A s.heap H locs) (t0 : Nat) (ht : tys[t0]? = some (cA, ty)) (ha : ∀ cA : ClassId, vp_cell cA a0 = arrV cA N' (fun _ => defaultValue ty)) (hn : ¬ x < 0) (hN : x.toNatClampNeg = N') (hbytes : N' * componentBytes ty ≤ 536870912) (hcells : cells + 1 ≤ R.cells) (hslots : slots + N' ≤ R.slots) (hdg : decode cc pc = .ok (.newarray atype, 2))
    (kk : ∀ (q : Nat) (H1 : Heap), va_P D vwCl (ws ++ [(q, .inl (cA, a0))]) H1 → va_D A (ws ++ [(q, .inl (cA, a0))]) → va_S A s.heap H1 locs →
      W p l e R s m args below meth c H1 locs (cells + 1) (slots + N') Q (F0 m (pc + 2) ls (.ref q :: rest))) : W p l e R s m args below meth c H locs cells slots Q (F0 m pc ls (.int x :: rest)) := by
  obtain ⟨hx, hb, -, -, -, hK, -, hA, -⟩ := C
  refine va_newa (atype := atype) hx hb harr hty hK hP hD hS hA ha hn hN hbytes hcells hslots hdg (fun q cB H1 hK1 hP1 hD1 hS1 => ?_)
  have h1 := hprim _ _ (hK.2 t0 _ ht).2
  have h2 := hprim _ _ (hK1.2 tys.length (cB, ty) (by simp)).2
  have h3 : cA = cB := Option.some.inj (h1.symm.trans h2)
  subst h3
  exact kk q H1 hP1 hD1 hS1
end WKG2
