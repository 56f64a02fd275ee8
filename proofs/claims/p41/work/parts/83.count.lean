/-! Counts by numbers, and what hangs where: hanging and hang. -/
section COUNT
variable {G : qS} {F : Nat → Option fCe} {X : Nat × Nat × (Nat → Int32)} {k : Nat} {h : fSt} {a c : Nat} {S : lS}
def qS.gone0 (G : qS) (a : Nat) : Bool := decide ((G.nd a).gone = 0)
theorem nodup_sub_len : ∀ {l1 l2 : List Nat}, l1.Nodup → (∀ x, x ∈ l1 → x ∈ l2) → l1.length ≤ l2.length
  | [], _, _, _ => Nat.zero_le _
  | a :: l1, l2, d, s => by
    obtain ⟨d1, d2⟩ := List.nodup_cons.mp d
    obtain ⟨u, v, e⟩ := List.append_of_mem (s a List.mem_cons_self)
    have := nodup_sub_len (l2 := u ++ v) d2 (fun x hx => by
      have h1 := s x (List.mem_cons_of_mem _ hx)
      rw [e] at h1
      rcases List.mem_append.mp h1 with z | z
      · exact List.mem_append_left _ z
      · rcases List.mem_cons.mp z with z | z
        · rw [z] at hx; exact absurd hx d1
        · exact List.mem_append_right _ z)
    rw [e, List.length_cons]
    simp only [List.length_append, List.length_cons] at this ⊢
    omega
theorem nodup_len_eq {l1 l2 : List Nat} (d1 : l1.Nodup) (d2 : l2.Nodup) (s : ∀ x, x ∈ l1 ↔ x ∈ l2) : l1.length = l2.length :=
  Nat.le_antisymm (nodup_sub_len d1 (fun x hx => (s x).mp hx)) (nodup_sub_len d2 (fun x hx => (s x).mpr hx))
/-- how many of a list, of those with numbers below i -/
def qCn (f : Nat → Nat) (p : Nat → Bool) (i : Nat) (l : List Nat) : Nat := l.countP (fun b => p b && decide (f b < i))
theorem qCn_out {f : Nat → Nat} {p : Nat → Bool} {i : Nat} : ∀ {l : List Nat}, (∀ b, b ∈ l → f b ≠ i) → qCn f p (i + 1) l = qCn f p i l
  | [], _ => rfl
  | x :: l, h => by
    have ih := qCn_out (f := f) (p := p) (i := i) (l := l) (fun b hb => h b (List.mem_cons_of_mem _ hb))
    have hx := h x List.mem_cons_self
    unfold qCn at ih ⊢
    rw [List.countP_cons, List.countP_cons, ih]
    have e : decide (f x < i + 1) = decide (f x < i) := by
      by_cases z : f x < i
      · rw [decide_eq_true z, decide_eq_true (Nat.lt_succ_of_lt z)]
      · rw [decide_eq_false z, decide_eq_false (by omega)]
    rw [e]
theorem qCn_in {f : Nat → Nat} {p : Nat → Bool} {b : Nat} : ∀ {l : List Nat}, l.Nodup → (∀ x y, x ∈ l → y ∈ l → f x = f y → x = y) → b ∈ l → qCn f p (f b + 1) l = qCn f p (f b) l + if p b then 1 else 0
  | x :: l, d, inj, hb => by
    obtain ⟨d1, d2⟩ := List.nodup_cons.mp d
    have e0 : decide (f b < f b + 1) = true := decide_eq_true (Nat.lt_succ_self _)
    have e1 : decide (f b < f b) = false := decide_eq_false (Nat.lt_irrefl _)
    by_cases z : b = x
    · subst z
      have o := qCn_out (f := f) (p := p) (i := f b) (l := l) (fun y hy w => by
        have := inj y b (List.mem_cons_of_mem _ hy) List.mem_cons_self w
        rw [this] at hy
        exact d1 hy)
      unfold qCn at o ⊢
      rw [List.countP_cons, List.countP_cons, o, e0, e1, Bool.and_true, Bool.and_false]
      simp
    · have hb2 : b ∈ l := (List.mem_cons.mp hb).resolve_left z
      have ih := qCn_in (f := f) (p := p) d2 (fun u v hu hv => inj u v (List.mem_cons_of_mem _ hu) (List.mem_cons_of_mem _ hv)) hb2
      have fx : f x ≠ f b := fun w => z (inj b x hb List.mem_cons_self w.symm)
      have e : decide (f x < f b + 1) = decide (f x < f b) := by
        by_cases z : f x < f b
        · rw [decide_eq_true z, decide_eq_true (Nat.lt_succ_of_lt z)]
        · rw [decide_eq_false z, decide_eq_false (by omega)]
      unfold qCn at ih ⊢
      rw [List.countP_cons, List.countP_cons, ih, e]
      omega
theorem qCn_all {f : Nat → Nat} {p : Nat → Bool} {i : Nat} {l : List Nat} (h : ∀ b, b ∈ l → f b < i) : qCn f p i l = l.countP p := by
  unfold qCn
  refine List.countP_congr (fun b hb => ?_)
  rw [decide_eq_true (h b hb), Bool.and_true]
theorem qCn_0 {f : Nat → Nat} {p : Nat → Bool} {l : List Nat} : qCn f p 0 l = 0 := by
  unfold qCn
  rw [List.countP_eq_zero]
  intro b _
  simp
theorem od_nd (I : qI G) : G.od.Nodup := by
  rw [I.C.od]
  exact List.pairwise_reverse.mpr (I.odm.1.imp (fun h => h.symm))
theorem nm_inj (I : qI G) {x y : Nat} (hx : G.N x) (hy : G.N y) (e : G.nm x = G.nm y) : x = y := by
  obtain ⟨-, -, e1, -⟩ := I.nm hx
  obtain ⟨-, -, e2, -⟩ := I.nm hy
  rw [e, e2] at e1
  exact (Option.some.inj e1).symm
/-- a step of counting -/
theorem cn_step (I : qI G) (p : Nat → Bool) (ha : G.N a) : qCn G.nm p (G.nm a + 1) G.od = qCn G.nm p (G.nm a) G.od + if G.gone0 a && p a then 1 else 0 := by
  by_cases la : G.Lv a
  · have hm := (od_mem I a).mpr la
    rw [qCn_in (od_nd I) (fun x y hx hy e => nm_inj I ((od_mem I x).mp hx).1 ((od_mem I y).mp hy).1 e) hm]
    have e : G.gone0 a = true := decide_eq_true la.2
    rw [e, Bool.true_and]
  · have e : G.gone0 a = false := decide_eq_false (fun z => la ⟨ha, z⟩)
    rw [e, Bool.false_and, if_neg (by decide), Nat.add_zero]
    refine qCn_out (fun b hb w => ?_)
    have lb := (od_mem I b).mp hb
    have := nm_inj I lb.1 ha w
    rw [this] at lb
    exact la lb
theorem cn_le (I : qI G) (p : Nat → Bool) (i : Nat) : qCn G.nm p i G.od ≤ 30 := by
  have h1 : qCn G.nm p i G.od ≤ G.od.length := List.countP_le_length
  have h2 := I.V.od.2.1
  omega
theorem cn_end (I : qI G) (p : Nat → Bool) : qCn G.nm p G.added.toInt.toNat G.od = G.od.countP p := by
  refine qCn_all (fun b hb => ?_)
  have := (I.nm ((od_mem I b).mp hb).1).2.1
  omega
/-! how many hang in a node -/
theorem kd_count (I : qI G) (la : G.Lv a) : G.od.countP (fun b => decide ((G.nd b).par = some a)) = (G.kd a).length := by
  rw [List.countP_eq_length_filter]
  obtain ⟨t1, t2⟩ := I.B.tk.1 a la
  refine nodup_len_eq ((od_nd I).filter _) t1 (fun x => ?_)
  rw [List.mem_filter, od_mem I x, t2 x]
  constructor
  · rintro ⟨z1, z2⟩
    exact ⟨z1, of_decide_eq_true z2⟩
  · rintro ⟨z1, z2⟩
    exact ⟨z1, decide_eq_true z2⟩
theorem nI_s (n : Nat) : (1 : Int32) + nI n = nI (n + 1) := by rw [Int32.add_comm, nI_succ]
theorem h_hangingL (H : lH X G S F k h) (la : G.Lv a) : ∀ (m n : Nat) (i : Int32), m < n → 1 ≤ i.toInt → i.toInt + m = G.added.toInt → f_X8_hanging_L4 n (some S.lm) (G.nd a).number (nI (qCn G.nm (fun b => decide ((G.nd b).par = some a)) i.toInt.toNat G.od)) i h = some (nI (G.kd a).length, h)
  | 0, n + 1, i, hn, h0, e => by
    rw [st_X8_hanging_L4, gL_added H.R H.L, Option.bind_some, H.g.ad, if_pos (i32_le (by omega)), show i.toInt.toNat = G.added.toInt.toNat by omega, cn_end H.I, kd_count H.I la]
  | m + 1, n + 1, i, hn, h0, e => by
    obtain ⟨a1, a2⟩ := H.I.A.ad
    have s1 := i32_s (i := i) (by omega) (by omega)
    obtain ⟨b, hb, eb⟩ := H.I.idx (i := i) (by omega) (by omega)
    obtain ⟨t1, t2⟩ := h_isThere H hb eb
    obtain ⟨r1, r2, r3, r4, r5⟩ := H.I.rg hb eb
    have st := cn_step H.I (fun b => decide ((G.nd b).par = some a)) hb
    rw [show G.nm b = i.toInt.toNat by omega] at st
    have ih := h_hangingL H la m n (i + 1) (by omega) (by omega) (by omega)
    rw [show (i + 1).toInt.toNat = i.toInt.toNat + 1 by omega, st] at ih
    have no : (G.gone0 b && decide ((G.nd b).par = some a)) = false → f_X8_hanging_L37 (f_X8_hanging_L4 n) (some S.lm) (G.nd a).number i (nI (qCn G.nm (fun b => decide ((G.nd b).par = some a)) i.toInt.toNat G.od)) h = some (nI (G.kd a).length, h) := by
      intro z
      rw [z, if_neg (by decide), Nat.add_zero] at ih
      unfold f_X8_hanging_L37 f_X8_hanging_L38
      rw [Int32.add_zero]
      exact ih
    rw [st_X8_hanging_L4, gL_added H.R H.L, Option.bind_some, H.g.ad, if_neg (i32_nle (by omega)), oL H.R H.L, Option.bind_some]
    by_cases lb : G.Lv b
    · rw [t1 lb, Option.bind_some]
      dsimp only
      obtain ⟨n1, n2⟩ := h_node H hb eb
      have v0 := vN H.R H.L n2 (j := 0) (by decide) (by decide)
      rw [show (0 : Int32).toNatClampNeg = 0 by decide, (H.g.lv b lb).1] at v0
      rw [if_neg (show ¬ (1 : Int32) = 0 by decide), gL_a1 H.R H.L, Option.bind_some, n1, Option.bind_some, v0, Option.bind_some]
      have g0 : G.gone0 b = true := decide_eq_true lb.2
      by_cases q : (G.nd b).par = some a
      · have e1 : qPn G b = (G.nd a).number := by
          unfold qPn; rw [q]
        rw [if_pos e1]
        rw [g0, decide_eq_true q, if_pos (by decide)] at ih
        unfold f_X8_hanging_L38
        rw [← nI_succ]
        exact ih
      · have e1 : qPn G b ≠ (G.nd a).number := by
          rcases H.I.pn lb with ⟨-, z⟩ | ⟨-, p, ep, lp, z, -⟩
          · rw [z]
            intro w
            have := (H.I.nm la.1).1
            rw [← w] at this
            have em : (-1 : Int32).toInt = -1 := by decide
            omega
          · rw [z]
            intro w
            have := H.I.inj lp.1 la.1 w
            rw [this] at ep
            exact q ep
        rw [if_neg e1]
        exact no (by rw [decide_eq_false q, Bool.and_false])
    · rw [t2 lb, Option.bind_some]
      dsimp only
      rw [if_pos rfl]
      exact no (by rw [show G.gone0 b = false from decide_eq_false (fun z => lb ⟨hb, z⟩), Bool.false_and])
theorem h_hanging (H : lH X G S F k h) (la : G.Lv a) : f_X8_hanging S.lm (G.nd a).number h = some (nI (G.kd a).length, h) := by
  obtain ⟨a1, a2⟩ := H.I.A.ad
  have st := cn_step H.I (fun b => decide ((G.nd b).par = some a)) H.I.B.wl.1
  have w0 : G.nm G.wh = 0 := by
    unfold qS.nm
    rw [H.I.wh0]
    decide
  have wp : (G.nd G.wh).par = none := H.I.B.wp
  rw [w0, qCn_0, wp, decide_eq_false (fun z => nomatch z), Bool.and_false, if_neg (by decide)] at st
  have e1 : (1 : Int32).toInt = 1 := by decide
  have := h_hangingL H la (G.added.toInt - 1).toNat 4096 1 (by omega) (by omega) (by omega)
  rw [show (1 : Int32).toInt.toNat = 0 + 1 by decide, st] at this
  exact this
end COUNT
