/-! the whole, from the entry to the end -/
theorem whole_start {p : Program} {e : Env} {s : State} {m : MethodId} {below : List Frame} {meth : Method} {c : Code} (l : Launch) (hflags : l.flags = flags0) {b L : Nat} {xs : Nat → Int32} (hL : L ≤ 3072) (C0 : lw_At p s m meth c b L xs) : W p l e room_1 s m #[Value.ref b] below meth c s.heap [] 0 0 (lw_Z below #[Value.ref b] s) (entryFrame m ([Value.ref b] : List Value).toArray 4) := by
  obtain ⟨N, hN⟩ : ∃ N : Nat, 40000 ≤ N := ⟨40000, Nat.le_refl _⟩
  exact start_open N (wk_Rel N) (wk_ops N hN) (wk_Rel_init N hN) l hL C0
