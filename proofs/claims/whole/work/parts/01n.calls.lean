/-! MY LIBRARY: calls by MTi, MTv -/
theorem wk_Psub {D : va_G} {cl : List vw_C} {ws W0 : va_W} {H : Heap} (h : va_P D cl ws H) (isC : List Nat) (hC : isC.map (fun i => ws[i]?) = W0.map some) : va_P D cl W0 H := by
  intro k q hk
  have h1 : (isC.map (fun i => ws[i]?))[k]? = (W0.map some)[k]? := by rw [hC]
  rw [List.getElem?_map, List.getElem?_map, hk] at h1
  cases hi : isC[k]? with
  | none => rw [hi] at h1; simp at h1
  | some i => rw [hi] at h1; exact h i q (Option.some.inj h1)
section WKG
variable {p : Program} {l : Launch} {e : Env} {R : Room} {s : State} {m : MethodId} {args : Array Value} {below : List Frame} {meth : Method} {c : Code} {H : Heap} {locs : List Loc} {cells slots : Nat} {Q : State → Prop} {cc : ByteArray} {nL : Nat} {Ts : List Cond} {own : String} {D : va_G} {tys : List (ClassId × FieldType)} {A : Nat → Prop} {pc : Nat} {ls : Array Slot} {rest st0 : List Value} {y : MethodName} {bytes : ByteArray} {maxL n index : Nat} {ret : Option FieldType} {wsy : List Cond} {rm : Room} {As : List Value} {b : Nat} {W0 W1 ws Wn : va_W} {res : Int32} {av : Array Value} {Cn host : String} {ci q0 : Nat} {fs : List Value} {qc : vw_C}
theorem wk_goI (C : wk_C p s m args meth c cc nL Ts own D tys A) (hr : va_Run p l e R s m args below meth c H locs cells slots 0 0 (F0 m pc ls st0) rest (wk_Qi D tys (va_A W0 H.size) W1 res av) (va_A W0 H.size))
    (hP : va_P D vwCl ws H) (hD : va_D A ws) (hS : va_S A s.heap H locs) (isC : List Nat) (hC : isC.map (fun i => ws[i]?) = W0.map some) (hnd : va_nd isC = true) (hWn : wk_set ws isC W1 = Wn) (hfst : W1.map Prod.fst = W0.map Prod.fst)
    (kk : ∀ (H1 : Heap) (locs1 : List Loc), va_P D vwCl Wn H1 → va_D A Wn → va_S A s.heap H1 locs1 → W p l e R s m args below meth c H1 locs1 cells slots Q (F0 m (pc + 3) ls (.int res :: rest))) : W p l e R s m args below meth c H locs cells slots Q (F0 m pc ls st0) := by
  obtain ⟨-, -, -, -, -, -, -, hA, -⟩ := C
  have hF := va_free hD hS hA isC hC
  refine va_calli (post := fun r (_ : Unit) => r = res) (B := fun _ t => va_P D vwCl W1 t.heap ∧ va_K D vwCl tys t ∧ va_D (va_A W0 H.size) W1) (A1 := va_A W0 H.size) hr hS (fun q _ h => hF q h) hF (fun r u t H1 locs1 ht hvm hpost hB hz hk hS1 => ?_)
  obtain ⟨hP1, -, -⟩ := hB
  rw [ht] at hP1
  obtain ⟨hPn, hDn⟩ := wk_join hP hD isC hC hnd hWn hfst hk hP1
  rw [hpost]
  exact kk H1 locs1 hPn hDn hS1
theorem wk_goV (C : wk_C p s m args meth c cc nL Ts own D tys A) (hr : va_Run p l e R s m args below meth c H locs cells slots 0 0 (F0 m pc ls st0) rest (wk_Qv D tys (va_A W0 H.size) W1 av) (va_A W0 H.size))
    (hP : va_P D vwCl ws H) (hD : va_D A ws) (hS : va_S A s.heap H locs) (isC : List Nat) (hC : isC.map (fun i => ws[i]?) = W0.map some) (hnd : va_nd isC = true) (hWn : wk_set ws isC W1 = Wn) (hfst : W1.map Prod.fst = W0.map Prod.fst)
    (kk : ∀ (H1 : Heap) (locs1 : List Loc), va_P D vwCl Wn H1 → va_D A Wn → va_S A s.heap H1 locs1 → W p l e R s m args below meth c H1 locs1 cells slots Q (F0 m (pc + 3) ls rest)) : W p l e R s m args below meth c H locs cells slots Q (F0 m pc ls st0) := by
  obtain ⟨-, -, -, -, -, -, -, hA, -⟩ := C
  have hF := va_free hD hS hA isC hC
  refine va_callv (post := fun (_ : Unit) => True) (B := fun _ t => va_P D vwCl W1 t.heap ∧ va_K D vwCl tys t ∧ va_D (va_A W0 H.size) W1) (A1 := va_A W0 H.size) hr hS (fun q _ h => hF q h) hF (fun u t H1 locs1 ht hvm hpost hB hz hk hS1 => ?_)
  obtain ⟨hP1, -, -⟩ := hB
  rw [ht] at hP1
  obtain ⟨hPn, hDn⟩ := wk_join hP hD isC hC hnd hWn hfst hk hP1
  exact kk H1 locs1 hPn hDn hS1
theorem wk_preS (C : wk_C p s m args meth c cc nL Ts own D tys A) (hP : va_P D vwCl ws H) (hD : va_D A ws) (isC : List Nat) (hC : isC.map (fun i => ws[i]?) = W0.map some) (hnd : va_nd isC = true) : PreS s H (va_Pc As (wk_Pre D tys W0 H.size)) As := by
  obtain ⟨-, -, -, -, -, hK, hN, -, -⟩ := C
  exact ⟨wk_blind _ _ _ _ _, fun U hU hW => ⟨rfl, by rw [hU], by rw [hU]; exact wk_Psub hP isC hC, va_K.moved hW.alike hK, (hD.sub isC hnd hC).weaken (fun _ _ _ _ => trivial), hN.warm hW⟩⟩
theorem wk_preV (C : wk_C p s m args meth c cc nL Ts own D tys A) (hP : va_P D vwCl ws H) (hD : va_D A ws) (isC : List Nat) (hC : isC.map (fun i => ws[i]?) = W0.map some) (hnd : va_nd isC = true) (hc : vwCl[ci]? = some qc) (hcn : qc.1 = Cn) (he : ws[q0]? = some (b, .inr (ci, fs))) : PreV s H Cn b (va_Pc (.ref b :: As) (wk_Pre D tys W0 H.size)) As := by
  obtain ⟨h1, h2⟩ := wk_preS (As := .ref b :: As) C hP hD isC hC hnd
  obtain ⟨-, -, -, -, -, hK, -, -, -⟩ := C
  subst hcn
  exact ⟨h1, va_recv hK hP hc he, h2⟩
theorem wk_fix (C : wk_C p s m args meth c cc nL Ts own D tys A) : CallFix p m c cc nL s args Ts own := ⟨C.1, C.2.1, C.2.2.1, C.2.2.2.2.1, C.2.2.2.1⟩
-- invokevirtual
theorem wk_callVi (C : wk_C p s m args meth c cc nL Ts own D tys A) (hP : va_P D vwCl ws H) (hD : va_D A ws) (hS : va_S A s.heap H locs) (hM : MTi l y wsy rm D tys (.ref b :: As) W0 W1 res) (cw : CallW R s args own Cn index y bytes maxL ret wsy rm 0 0 n) (hsz : ls.size = nL) (hf : cells ≤ R.cells ∧ slots ≤ R.slots) (isC : List Nat) (hC : isC.map (fun i => ws[i]?) = W0.map some) (hnd : va_nd isC = true) (hWn : wk_set ws isC W1 = Wn) (hfst : W1.map Prod.fst = W0.map Prod.fst) (hc : vwCl[ci]? = some qc) (hcn : qc.1 = Cn) (he : ws[q0]? = some (b, .inr (ci, fs))) (hn : As.length = n) (hst : st0 = As.reverse ++ .ref b :: rest) (hrm : (rest.map fun v => v.category).sum ≤ 8) (hdg : decode cc pc = .ok (.invokevirtual index, 3))
    (kk : ∀ (H1 : Heap) (locs1 : List Loc), va_P D vwCl Wn H1 → va_D A Wn → va_S A s.heap H1 locs1 → W p l e R s m args below meth c H1 locs1 cells slots Q (F0 m (pc + 3) ls (.int res :: rest))) : W p l e R s m args below meth c H locs cells slots Q (F0 m pc ls st0) :=
  wk_goI C (va_runV (As := As) (rest := rest) (wk_fix C) (hM H.size) cw (wk_preV C hP hD isC hC hnd hc hcn he) rfl hn hsz hst (lv_room hrm) hdg hf) hP hD hS isC hC hnd hWn hfst kk
theorem wk_callVv (C : wk_C p s m args meth c cc nL Ts own D tys A) (hP : va_P D vwCl ws H) (hD : va_D A ws) (hS : va_S A s.heap H locs) (hM : MTv l y wsy rm D tys (.ref b :: As) W0 W1) (cw : CallW R s args own Cn index y bytes maxL ret wsy rm 0 0 n) (hsz : ls.size = nL) (hf : cells ≤ R.cells ∧ slots ≤ R.slots) (isC : List Nat) (hC : isC.map (fun i => ws[i]?) = W0.map some) (hnd : va_nd isC = true) (hWn : wk_set ws isC W1 = Wn) (hfst : W1.map Prod.fst = W0.map Prod.fst) (hc : vwCl[ci]? = some qc) (hcn : qc.1 = Cn) (he : ws[q0]? = some (b, .inr (ci, fs))) (hn : As.length = n) (hst : st0 = As.reverse ++ .ref b :: rest) (hrm : (rest.map fun v => v.category).sum ≤ 8) (hdg : decode cc pc = .ok (.invokevirtual index, 3))
    (kk : ∀ (H1 : Heap) (locs1 : List Loc), va_P D vwCl Wn H1 → va_D A Wn → va_S A s.heap H1 locs1 → W p l e R s m args below meth c H1 locs1 cells slots Q (F0 m (pc + 3) ls rest)) : W p l e R s m args below meth c H locs cells slots Q (F0 m pc ls st0) :=
  wk_goV C (va_runV (As := As) (rest := rest) (wk_fix C) (hM H.size) cw (wk_preV C hP hD isC hC hnd hc hcn he) rfl hn hsz hst (lv_room hrm) hdg hf) hP hD hS isC hC hnd hWn hfst kk
-- invokestatic
theorem wk_callSi (C : wk_C p s m args meth c cc nL Ts own D tys A) (hP : va_P D vwCl ws H) (hD : va_D A ws) (hS : va_S A s.heap H locs) (hM : MTi l y wsy rm D tys As W0 W1 res) (cw : CallB R s args own index y bytes maxL ret wsy rm 0 0 n ∧ (Cond.static y).before args s = true) (hsz : ls.size = nL) (hf : cells ≤ R.cells ∧ slots ≤ R.slots) (isC : List Nat) (hC : isC.map (fun i => ws[i]?) = W0.map some) (hnd : va_nd isC = true) (hWn : wk_set ws isC W1 = Wn) (hfst : W1.map Prod.fst = W0.map Prod.fst) (hn : As.length = n) (hst : st0 = As.reverse ++ rest) (hrm : (rest.map fun v => v.category).sum ≤ 8) (hdg : decode cc pc = .ok (.invokestatic index, 3))
    (kk : ∀ (H1 : Heap) (locs1 : List Loc), va_P D vwCl Wn H1 → va_D A Wn → va_S A s.heap H1 locs1 → W p l e R s m args below meth c H1 locs1 cells slots Q (F0 m (pc + 3) ls (.int res :: rest))) : W p l e R s m args below meth c H locs cells slots Q (F0 m pc ls st0) :=
  wk_goI C (va_runS (As := As) (rest := rest) (wk_fix C) (hM H.size) cw (wk_preS C hP hD isC hC hnd) rfl hn hsz hst (lv_room hrm) hdg hf) hP hD hS isC hC hnd hWn hfst kk
-- invokestatic of a nest mate's private method
theorem wk_callNi (C : wk_C p s m args meth c cc nL Ts own D tys A) (hP : va_P D vwCl ws H) (hD : va_D A ws) (hS : va_S A s.heap H locs) (hM : MTi l y wsy rm D tys As W0 W1 res) (cw : va_CN R s args own index y host bytes maxL ret wsy rm 0 0 n ∧ (Cond.static y).before args s = true ∧ True) (hsz : ls.size = nL) (hf : cells ≤ R.cells ∧ slots ≤ R.slots) (isC : List Nat) (hC : isC.map (fun i => ws[i]?) = W0.map some) (hnd : va_nd isC = true) (hWn : wk_set ws isC W1 = Wn) (hfst : W1.map Prod.fst = W0.map Prod.fst) (hn : As.length = n) (hst : st0 = As.reverse ++ rest) (hrm : (rest.map fun v => v.category).sum ≤ 8) (hdg : decode cc pc = .ok (.invokestatic index, 3))
    (kk : ∀ (H1 : Heap) (locs1 : List Loc), va_P D vwCl Wn H1 → va_D A Wn → va_S A s.heap H1 locs1 → W p l e R s m args below meth c H1 locs1 cells slots Q (F0 m (pc + 3) ls (.int res :: rest))) : W p l e R s m args below meth c H locs cells slots Q (F0 m pc ls st0) :=
  wk_goI C (va_runSN (As := As) (rest := rest) (wk_fix C) (hM H.size) cw (wk_preS C hP hD isC hC hnd) rfl hn hsz hst (lv_room hrm) hdg hf) hP hD hS isC hC hnd hWn hfst kk
end WKG
