/-! The whole, out of the law's truth. -/
section WHOLE
theorem whole_start {p : Program} {e : Env} {s : State} {m : MethodId} {below : List Frame} {meth : Method} {c : Code} (l : Launch) (hflags : l.flags = flags0) {b : Addr} {L : Nat} {xs : Nat → Int32} (hL : L ≤ 260) (C0 : lw_At p s m meth c b L xs) : W p l e room_1 s m #[Value.ref b] below meth c s.heap [] 0 0 (lw_Z below #[Value.ref b] s) (entryFrame m ([Value.ref b] : List Value).toArray 23) := by
  obtain ⟨h1, hf⟩ := law_true (X := (b, L, xs)) (h := st_0 s.heap.size 691079 7028461 b L xs) hL ⟨fun a z => absurd rfl z, rfl, by show s.heap.size + 100 + 1540 ≤ s.heap.size + 691079; omega, by show 0 + 1000 + 20 * 1540 ≤ 7028461; omega⟩
  exact whole_of l hflags C0 hf
end WHOLE
