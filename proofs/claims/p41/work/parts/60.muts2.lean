/-! Keys, kids, and what goes: contracts of the methods that change chains. -/
section MUT2
variable {G : qS} {F : Nat → Option fCe} {X : Nat × Nat × (Nat → Int32)} {k : Nat} {h : fSt} {a : Nat}
def qIns (G : qS) (t : Int32) (m : Nat) : List Nat → List Nat
  | [] => [m]
  | a :: l => if t < (G.ky a).time then m :: a :: l else a :: qIns G t m l
def qPut (G : qS) (p m : Nat) (t v : Int32) : qS := match qLast G t none (G.kl p) with
  | none => ((((G.addK m (qK.mk t v (G.pp p).fk)).setP p (((G.pp p).s_fk (some m)).s_cnt ((G.pp p).cnt + 1)))).s_kl (qu G.kl p (qIns G t m (G.kl p))))
  | some b => if (G.ky b).time = t then G.setK b ((G.ky b).s_value (v)) else (((((G.addK m (qK.mk t v (G.ky b).next)).setK b ((G.ky b).s_next (some m))).setP p ((G.pp p).s_cnt ((G.pp p).cnt + 1)))).s_kl (qu G.kl p (qIns G t m (G.kl p))))
theorem x_newK (R : qR G F X (k + 1) h) (t v : Int32) : ∃ m h1 h2, fnew h (.inl (3, [.int 0, .int 0, .null])) 3 = some (m, h1) ∧ f_X3_init m t v h1 = some ((), h2) ∧ qR (G.addK m (qK.mk t v none)) F X k h2 ∧ ¬ G.K m := by
  have Rn := R.newK (qK.mk 0 0 none) (n := 3) (by decide)
  have hm : (G.addK (fZ h) (qK.mk 0 0 none)).K (fZ h) := Or.inl rfl
  obtain ⟨h2, w2, R2⟩ := wK_time Rn hm at_addK t
  obtain ⟨h3, w3, R3⟩ := wK_value R2 (a := fZ h) hm at_setK v
  rw [setK_setK, addK_setK] at R3
  refine ⟨fZ h, _, h3, fnew_C (by have := R.rm.1; omega) (by have := R.rm.2; omega), ?_, R3, R.fresh.2.2.1⟩
  unfold f_X3_init f_X3_init_L0
  rw [show fobj (fPush h (.inl (3, [.int 0, .int 0, .null])) 3) (some (fZ h)) 3 = some (fZ h) from oK Rn hm, Option.bind_some]
  rw [show fput (fPush h (.inl (3, [.int 0, .int 0, .null])) 3) (some (fZ h)) 3 0 (.int t) = some h2 from w2, Option.bind_some, w3, Option.bind_some]
theorem x_put (R : qR G F X (k + 1) h) (V : qV G) {p : Nat} (hp : G.P p) (t v : Int32) : ∃ m h2, f_X6_putKey p t v h = some ((), h2) ∧ qR (qPut G p m t v) F X k h2 ∧ ¬ G.K m := by
  obtain ⟨c, hl⟩ := V.kc p hp
  obtain ⟨m, h1, h2, f1, f2, R2, hm⟩ := x_newK R t v
  unfold f_X6_putKey f_X6_putKey_L0 f_X6_putKey_L24 f_X6_putKey_L72
  rw [oP R hp, Option.bind_some, x_last R V hp t, Option.bind_some]
  dsimp only
  cases e : qLast G t none (G.kl p) with
  | none =>
    obtain ⟨h3, w3, R3⟩ := wK_next R2 (a := m) (Or.inl rfl) at_addK (G.pp p).fk
    rw [addK_setK] at R3
    obtain ⟨h4, w4, R4⟩ := wP_fk R3 (a := p) hp (d := G.pp p) rfl (some m)
    obtain ⟨h5, w5, R5⟩ := wP_cnt R4 (a := p) hp at_setP ((G.pp p).cnt + 1)
    rw [setP_setP] at R5
    refine ⟨m, h5, ?_, ?_, hm⟩
    · rw [if_pos rfl, f1, Option.bind_some]
      dsimp only
      rw [f2, Option.bind_some]
      dsimp only
      rw [if_pos rfl, show fgR h2 (some p) 6 7 = some (G.pp p).fk from (by have g := gP_fk R2 (a := p) hp; exact g), Option.bind_some, w3, Option.bind_some, w4, Option.bind_some]
      rw [show fgI h4 (some p) 6 8 = some (G.pp p).cnt from (gP_cnt R4 (a := p) hp).trans (by rw [at_setP]; rfl), Option.bind_some, w5, Option.bind_some]
    · unfold qPut
      rw [e]
      exact R5
  | some b =>
    have hb : b ∈ G.kl p := (qLast_in G t _ _ _ e).resolve_left (fun z => nomatch z)
    have kb := c.D b hb
    rw [if_neg (fun z => nomatch z), gK_time R kb, Option.bind_some]
    by_cases q : (G.ky b).time = t
    · obtain ⟨h3, w3, R3⟩ := wK_value R kb rfl v
      refine ⟨m, h3, ?_, ?_, hm⟩
      · rw [if_pos q, w3, Option.bind_some]
      · unfold qPut
        rw [e]
        dsimp only
        rw [if_pos q]
        exact R3.le (Nat.le_succ _)
    · have bm : b ≠ m := fun z => hm (by rw [← z]; exact kb)
      have eb : (G.addK m (qK.mk t v none)).ky b = G.ky b := qu_ne bm
      obtain ⟨h3, w3, R3⟩ := wK_next R2 (a := m) (Or.inl rfl) at_addK (G.ky b).next
      rw [addK_setK] at R3
      have eb2 : (G.addK m ((qK.mk t v none).s_next (G.ky b).next)).ky b = G.ky b := qu_ne bm
      obtain ⟨h4, w4, R4⟩ := wK_next R3 (a := b) (Or.inr kb) eb2 (some m)
      obtain ⟨h5, w5, R5⟩ := wP_cnt R4 (a := p) hp (d := G.pp p) rfl ((G.pp p).cnt + 1)
      refine ⟨m, h5, ?_, ?_, hm⟩
      · rw [if_neg q, f1, Option.bind_some]
        dsimp only
        rw [f2, Option.bind_some]
        dsimp only
        rw [if_neg (fun z => nomatch z), show fgR h2 (some b) 3 2 = some (G.ky b).next from (gK_next R2 (a := b) (Or.inr kb)).trans (by rw [eb]), Option.bind_some, w3, Option.bind_some, w4, Option.bind_some]
        rw [show fgI h4 (some p) 6 8 = some (G.pp p).cnt from (by have g := gP_cnt R4 (a := p) hp; exact g), Option.bind_some, w5, Option.bind_some]
      · unfold qPut
        rw [e]
        dsimp only
        rw [if_neg q]
        exact R5
theorem m_key (R : qR G F X (k + 1) h) (V : qV G) {i t v : Int32} {p : Nat} (hi : 0 ≤ i.toInt ∧ i.toInt < G.tracked.toInt) (e : G.tr i.toNatClampNeg = some p) (ht : 0 ≤ t.toInt ∧ t.toInt ≤ 999) (hv : (G.pp p).least.toInt ≤ v.toInt ∧ v.toInt ≤ (G.pp p).most.toInt) (hd : (G.pp p).done = 0) (hc : (G.pp p).cnt.toInt < 8) : ∃ m h2, f_X7_key G.z i t v h = some (.inl ((qPut G p m t v).pp p).cnt, h2) ∧ qR (qPut G p m t v) F X k h2 ∧ ¬ G.K m := by
  obtain ⟨t0, t1, -⟩ := V.tk
  have e12 : (12 : Int32).toInt = 12 := by decide
  have e0 : (0 : Int32).toInt = 0 := by decide
  have e8 : (8 : Int32).toInt = 8 := by decide
  obtain ⟨p2, e2, hp, e3⟩ := tr_at R V hi.1 hi.2
  rw [e] at e2
  cases e2
  obtain ⟨m, h2, f2, R2, hm⟩ := x_put R V hp t v
  have hp2 : (qPut G p m t v).P p := by
    unfold qPut
    cases qLast G t none (G.kl p) with
    | none => exact hp
    | some b =>
      dsimp only
      by_cases q : (G.ky b).time = t
      · rw [if_pos q]; exact hp
      · rw [if_neg q]; exact hp
  refine ⟨m, h2, ?_, R2, hm⟩
  unfold f_X7_key f_X7_key_L0 f_X7_key_L74 f_X7_foundTrack f_X7_foundTrack_L0 f_X7_foundTrack_L23
  rw [oS R, Option.bind_some, if_neg (i32_nlt (by omega)), gS_ta R, Option.bind_some, lta R, Option.bind_some, if_pos (i32_lt2 (by omega)), Option.bind_some, e3, Option.bind_some, if_neg (fun z => nomatch z), Option.bind_some]
  dsimp only [Sum.elim_inl]
  rw [x_from1 (l := 0) (u := 999) ht, Option.bind_some, if_neg (show ¬ (1 : Int32) = 0 by decide)]
  dsimp only
  rw [oP R hp, Option.bind_some, x_allows R hp hv, Option.bind_some, if_neg (show ¬ (1 : Int32) = 0 by decide)]
  dsimp only
  rw [gP_done R hp, Option.bind_some, if_pos hd, gP_cnt R hp, Option.bind_some, if_pos (i32_lt2 (by omega)), oP R hp, Option.bind_some, f2, Option.bind_some]
  dsimp only
  rw [gP_cnt R2 hp2, Option.bind_some]
/-! kids -/
def qLs : Option Nat → List Nat → Option Nat
  | r, [] => r
  | _, a :: l => qLs (some a) l
theorem qLs_app (r : Option Nat) (b : Nat) : ∀ l : List Nat, qLs r (l ++ [b]) = some b
  | [] => rfl
  | a :: l => by
    show qLs (some a) (l ++ [b]) = some b
    exact qLs_app (some a) b l
def qTk1 (G : qS) (a c : Nat) : qS := match qLs none (G.kd a) with
  | none => G.setN a ((G.nd a).s_fst (some c))
  | some b => G.setN b ((G.nd b).s_nxt (some c))
/-- the last kid taken in -/
def qTake (G : qS) (a c : Nat) : qS := ((((qTk1 G a c).setN c ((((qTk1 G a c).nd c).s_nxt (none)).s_par (some a)))).s_kd (qu G.kd a (G.kd a ++ [c])))
theorem x_takeL (R : qR G F X k h) (c : Nat) : ∀ (l : List Nat) (o r : Option Nat) (n : Nat), Ch G.nxtF G.N l o → l.length < n → f_X4_takeIn_L7 n (some a) (some c) r o h = f_X4_takeIn_L7 1 (some a) (some c) (qLs r l) none h
  | [], o, r, n + 1, cc, _ => by
    obtain rfl : o = none := cc
    rw [sN_X4_takeIn_L7, sN_X4_takeIn_L7]
    rfl
  | b :: l, o, r, n + 1, cc, hn => by
    obtain ⟨rfl, hb, c2⟩ := cc
    have hn2 : l.length + 1 < n + 1 := hn
    rw [sS_X4_takeIn_L7, gN_nxt R hb, Option.bind_some]
    exact x_takeL R c l _ (some b) n c2 (by omega)
theorem qLs_in : ∀ (l : List Nat) (r : Option Nat) (b : Nat), qLs r l = some b → r = some b ∨ b ∈ l
  | [], _, _, e => Or.inl e
  | a :: l, r, b, e => by
    rcases qLs_in l (some a) b e with z | z
    · cases z; exact Or.inr List.mem_cons_self
    · exact Or.inr (List.mem_cons_of_mem _ z)
theorem x_take (R : qR G F X k h) {c : Nat} (ha : G.N a) (hc : G.N c) (kc : Ch G.nxtF G.N (G.kd a) (G.nd a).fst) (kl : (G.kd a).length ≤ 100) : ∃ h2, f_X4_takeIn a (some c) h = some ((), h2) ∧ qR (qTake G a c) F X k h2 := by
  unfold f_X4_takeIn f_X4_takeIn_L0
  rw [gN_fst R ha, Option.bind_some, x_takeL R c _ _ none 4096 kc (by omega), sN_X4_takeIn_L7]
  have fin : ∀ (G1 : qS) (h1 : fSt), G1.N c → qR G1 F X k h1 → ∃ h2, f_X4_takeIn_L38 (some a) (some c) h1 = some ((), h2) ∧ qR (G1.setN c (((G1.nd c).s_nxt (none)).s_par (some a))) F X k h2 := by
    intro G1 h1 hc R1
    obtain ⟨h2, w2, R2⟩ := wN_nxt R1 hc rfl none
    obtain ⟨h3, w3, R3⟩ := wN_par R2 (a := c) hc at_setN (some a)
    rw [setN_setN] at R3
    refine ⟨h3, ?_, R3⟩
    unfold f_X4_takeIn_L38
    rw [w2, Option.bind_some, w3, Option.bind_some]
  cases e : qLs none (G.kd a) with
  | none =>
    obtain ⟨h1, w1, R1⟩ := wN_fst R ha rfl (some c)
    obtain ⟨h2, e2, R2⟩ := fin (G.setN a ((G.nd a).s_fst (some c))) h1 hc R1
    refine ⟨h2, ?_, ?_⟩
    · rw [if_pos rfl, w1, Option.bind_some, e2]
    · unfold qTake qTk1
      rw [e]
      exact R2
  | some b =>
    have hb : G.N b := kc.D b ((qLs_in _ _ _ e).resolve_left (fun z => nomatch z))
    obtain ⟨h1, w1, R1⟩ := wN_nxt R hb rfl (some c)
    obtain ⟨h2, e2, R2⟩ := fin (G.setN b ((G.nd b).s_nxt (some c))) h1 hc R1
    refine ⟨h2, ?_, ?_⟩
    · rw [if_neg (fun z => nomatch z), w1, Option.bind_some, e2]
    · unfold qTake qTk1
      rw [e]
      exact R2
/-- the end of the walk along the kids -/
theorem x_lvA (R : qR G F X k h) : ∀ (l : List Nat) (o : Option Nat) (n : Nat), Ch G.nxtF G.N l o → l.length < n → (∀ b, b ∈ l → (G.nd b).nxt ≠ some a) → f_X4_leaveParent_L38 n (some a) o h = f_X4_leaveParent_L38 1 (some a) none h
  | [], o, n + 1, c, _, _ => by
    obtain rfl : o = none := c
    rw [sN_X4_leaveParent_L38, sN_X4_leaveParent_L38]
  | b :: l, o, n + 1, c, hn, hq => by
    obtain ⟨rfl, hb, c2⟩ := c
    have hn2 : l.length + 1 < n + 1 := hn
    rw [sS_X4_leaveParent_L38, gN_nxt R hb, Option.bind_some, if_neg (hq b List.mem_cons_self)]
    unfold f_X4_leaveParent_L58
    rw [gN_nxt R hb, Option.bind_some]
    exact x_lvA R l _ n c2 (by omega) (fun d hd => hq d (List.mem_cons_of_mem _ hd))
end MUT2
