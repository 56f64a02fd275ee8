/-! The constructors, the law's answer, and the claim. -/
section CLOSE
def FIN (z : Nat) (f g o : Nat → Int32) : fSt := hp z (CS z f g o ++ [some (.inr (1, 1, .inr (.inl (fun _ => 0))))] ++ [some (.inr (3, 1, .inr (.inr (.inr (.inl (fun _ => 0))))))]) (1005 + 1 + 1) (z + 754925) 6837462
theorem XF_FIN {z : Nat} {f g o : Nat → Int32} : XF z (FIN z f g o) := by
  unfold XF FIN
  exact ⟨hp_F0.trans rfl, hp_F.trans rfl, hp_F.trans rfl, hp_F.trans rfl, hp_F.trans rfl, hp_F.trans rfl, hp_F.trans rfl, hp_F.trans rfl, hp_F.trans rfl, ⟨0, 0, 1, 0, hp_F.trans rfl⟩, ⟨0, 0, hp_F.trans rfl⟩, ⟨0, 0, hp_F.trans rfl⟩, ⟨0, 0, hp_F.trans rfl⟩, ⟨0, 0, hp_F.trans rfl⟩⟩
theorem MG_FIN {z : Nat} {f g o : Nat → Int32} (p : PI 30 f g o) : MG z 0 0 0 0 0 (FIN z f g o) := by
  obtain ⟨p1, p2, p3, p4⟩ := p
  obtain ⟨q1, q2, q3⟩ := p1 (by decide)
  refine ⟨?_, ⟨fun _ => 0, hp_F.trans rfl, rfl⟩, ⟨fun _ => 0, hp_F.trans rfl, rfl⟩, Nat.le_of_eq rfl⟩
  unfold MF FIN
  exact ⟨hp_F.trans rfl, ⟨_, hp_F.trans rfl, rfl⟩, ⟨_, hp_F.trans rfl, rfl⟩, ⟨_, hp_F.trans rfl, rfl⟩, ⟨_, hp_F.trans rfl, rfl⟩, ⟨_, hp_F.trans rfl, rfl⟩, ⟨_, hp_F.trans rfl, rfl⟩, ⟨_, hp_F.trans rfl⟩, ⟨_, hp_F.trans rfl⟩, ⟨_, hp_F.trans rfl, q1⟩, ⟨_, hp_F.trans rfl, q2⟩, ⟨_, hp_F.trans rfl, rfl⟩, ⟨_, hp_F.trans rfl⟩, ⟨_, hp_F.trans rfl, p2, p3, p4, q3⟩, ⟨_, hp_F.trans rfl⟩, ⟨_, hp_F.trans rfl⟩, ⟨_, hp_F.trans rfl⟩, ⟨_, hp_F.trans rfl⟩, ⟨_, hp_F.trans rfl⟩, ⟨_, hp_F.trans rfl⟩, ⟨_, hp_F.trans rfl⟩, ⟨_, hp_F.trans rfl⟩⟩
theorem RM_FIN {z : Nat} {f g o : Nat → Int32} : RM (999 + 1) (FIN z f g o) := ⟨by show z + 39 + (999 + 1) ≤ z + 754925; omega, by show 1005 + 1 + 1 + 10 * (999 + 1) ≤ 6837462; omega⟩
theorem law_in (L : Nat) (xs : Nat → Int32) (z : Nat) : ∃ f g o, PI 30 f g o ∧ f_L_law_L0 L xs (st_0 z 754925 6837462) = f_L_law_L28 L xs 4096 (some z) (some (z + 15)) (some (z + 37)) (some (z + 38)) 0 (FIN z f g o) := by
  obtain ⟨f, g, o, e8, p⟩ := in_X8 (z := z)
  refine ⟨f, g, o, p, ?_⟩
  have n1 : ¬ ((1 : Int32) < 0 ∨ 67000000 < 1) := by decide
  have a1 : fnew (hp z [] 0 (z + 754925) 6837462) (.inl (7, [.null, .null, .null, .null, .null, .int 0, .int 0, .int 0, .null, .int 0])) 10 = some (z, hp z [some (.inl (7, [.null, .null, .null, .null, .null, .int 0, .int 0, .int 0, .null, .int 0]))] 10 (z + 754925) 6837462) := by
    rw [hp_new, if_pos ⟨Nat.le_of_ble_eq_true rfl, by decide⟩]; rfl
  have a2 : fnew (hp z ([some (.inl (7, [.ref (z + 1), .ref (z + 2), .ref (z + 3), .ref (z + 9), .ref (z + 10), .int 1, .int 0, .int 0, .ref (z + 3), .int 1])), some (.inr (4, 30, .inr (.inr (.inr (.inr (va_up (fun _ => none) 0 (some (z + 3)))))))), some (.inr (5, 12, .inr (.inr (.inr (.inr (fun _ => none)))))), some (.inl (4, [.int 0, .int 0, .ref (z + 8), .ref (z + 4), .ref (z + 5), .ref (z + 6), .ref (z + 7), .int 1, .int 1, .int 0, .int 0, .int 0, .null, .int 0, .null, .null, .null, .null, .int 0])), some (.inl (6, [.int (-200), .int 200, .int 0, .int 0, .int 0, .int 0, .int 0, .null, .int 0])), some (.inl (6, [.int (-200), .int 200, .int 0, .int 0, .int 0, .int 0, .int 0, .null, .int 0])), some (.inl (6, [.int (0), .int 3, .int 0, .int 0, .int 0, .int 0, .int 0, .null, .int 0])), some (.inl (6, [.int (0), .int 100, .int 100, .int 0, .int 0, .int 0, .int 0, .null, .int 0])), some (.inl (2, [.int 0, .int 0, .int 0, .int 0])), some (.inl (5, [.long 0, .long 0, .long 1, .int 0])), some (.inl (0, [.ref (z + 11), .ref (z + 12), .ref (z + 13), .ref (z + 14)])), some (.inl (1, [.long 0, .long 0])), some (.inl (1, [.long 0, .long 0])), some (.inl (1, [.long 0, .long 0])), some (.inl (1, [.long 0, .long 0]))]) 127 (z + 754925) 6837462) (.inl (8, [.int 0, .int 0, .null, .null, .null, .null, .null, .null, .null, .null, .null, .null, .null, .null, .null, .null, .int 0, .int 0, .null, .null, .null, .null, .null, .null, .null, .int 0])) 26 = some (z + 15, hp z ([some (.inl (7, [.ref (z + 1), .ref (z + 2), .ref (z + 3), .ref (z + 9), .ref (z + 10), .int 1, .int 0, .int 0, .ref (z + 3), .int 1])), some (.inr (4, 30, .inr (.inr (.inr (.inr (va_up (fun _ => none) 0 (some (z + 3)))))))), some (.inr (5, 12, .inr (.inr (.inr (.inr (fun _ => none)))))), some (.inl (4, [.int 0, .int 0, .ref (z + 8), .ref (z + 4), .ref (z + 5), .ref (z + 6), .ref (z + 7), .int 1, .int 1, .int 0, .int 0, .int 0, .null, .int 0, .null, .null, .null, .null, .int 0])), some (.inl (6, [.int (-200), .int 200, .int 0, .int 0, .int 0, .int 0, .int 0, .null, .int 0])), some (.inl (6, [.int (-200), .int 200, .int 0, .int 0, .int 0, .int 0, .int 0, .null, .int 0])), some (.inl (6, [.int (0), .int 3, .int 0, .int 0, .int 0, .int 0, .int 0, .null, .int 0])), some (.inl (6, [.int (0), .int 100, .int 100, .int 0, .int 0, .int 0, .int 0, .null, .int 0])), some (.inl (2, [.int 0, .int 0, .int 0, .int 0])), some (.inl (5, [.long 0, .long 0, .long 1, .int 0])), some (.inl (0, [.ref (z + 11), .ref (z + 12), .ref (z + 13), .ref (z + 14)])), some (.inl (1, [.long 0, .long 0])), some (.inl (1, [.long 0, .long 0])), some (.inl (1, [.long 0, .long 0])), some (.inl (1, [.long 0, .long 0])), some (.inl (8, [.int 0, .int 0, .null, .null, .null, .null, .null, .null, .null, .null, .null, .null, .null, .null, .null, .null, .int 0, .int 0, .null, .null, .null, .null, .null, .null, .null, .int 0]))]) 153 (z + 754925) 6837462) := by
    rw [hp_new, if_pos ⟨Nat.le_of_ble_eq_true rfl, by decide⟩]; rfl
  have a3 : fnew (hp z (CS z f g o) 1005 (z + 754925) 6837462) (.inr (1, 1, .inr (.inl (fun _ => 0)))) 1 = some (z + 37, hp z (CS z f g o ++ [some (.inr (1, 1, .inr (.inl (fun _ => 0))))]) (1005 + 1) (z + 754925) 6837462) := by
    rw [hp_new, if_pos ⟨Nat.le_of_ble_eq_true rfl, by decide⟩]; rfl
  have a4 : fnew (hp z (CS z f g o ++ [some (.inr (1, 1, .inr (.inl (fun _ => 0))))]) (1005 + 1) (z + 754925) 6837462) (.inr (3, 1, .inr (.inr (.inr (.inl (fun _ => 0)))))) 1 = some (z + 38, FIN z f g o) := by
    rw [hp_new, if_pos ⟨Nat.le_of_ble_eq_true rfl, by decide⟩]; rfl
  simp only [hp_0, f_L_law_L0, a1, in_X7, a2, e8, nc1, if_neg n1, a3, a4, Option.bind_some]
theorem law_ok (L : Nat) (hL : L ≤ 6) (xs : Nat → Int32) (z : Nat) : ∃ h1, f_L_law_L0 L xs (st_0 z 754925 6837462) = some ((1 : Int32), h1) := by
  obtain ⟨f, g, o, p, e⟩ := law_in L xs z
  rw [e]
  by_cases q : L = 6
  · subst q
    exact law6 XF_FIN (MG_FIN p) RM_FIN xs
  · exact ⟨_, law5 L (by omega) xs _ _ _ _ _⟩
theorem whole_start {p : Program} {e : Env} {s : State} {m : MethodId} {below : List Frame} {meth : Method} {c : Code} (l : Launch) (hflags : l.flags = flags0) {b : Addr} {L : Nat} {xs : Nat → Int32} (hL : L ≤ 6) (C0 : lw_At p s m meth c b L xs) : W p l e room_1 s m #[Value.ref b] below meth c s.heap [] 0 0 (lw_Z below #[Value.ref b] s) (entryFrame m ([Value.ref b] : List Value).toArray 9) := by
  obtain ⟨h1, hf⟩ := law_ok L hL xs s.heap.size
  exact whole_of l hflags C0 hf
end CLOSE
