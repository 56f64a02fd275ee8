/-! THE CLAIM OUT OF ONE WALK OF THE LAW'S BODY. Your part is whole_start (and what it stands on); all else here is the same for every law, but numbers. -/
def R_law : String := "TapestrySceneLaw"
def lw_P (b : Addr) (xs : List Int32) (args : Array Value) (s : State) : Prop := args = #[.ref b] ∧ s.IntsAt b xs ∧ xs.length ≤ 260 ∧ (Jvm.Cond.and given_1 narrow_1).before args s = true
def lw_Q (_ : Array Value) (s : State) (o : Outcome) (t : State) : Prop := o = .returned (some (.int 1)) ∧ Framed s o t [] 691079 7028461
def lw_Z (below : List Frame) (a : Array Value) (s : State) : State → Prop := fun t => ∃ o, t.status = .running ∧ Ended t below o ∧ lw_Q a s o t
/-- the law's own end, with 1 on the stack, nothing written that was there before, its room as the claim has it -/
theorem lw_ret {p : Program} {l : Launch} {e : Env} {s : State} {m : MethodId} {below : List Frame} {meth : Method} {c : Code} {b : Nat} (hx : p.tables.exec = Jvm.exec) (hb : c.code = code) (hr : meth.sig.returnType = ret) (hlocks : meth.locks = false) {pc : Nat} {H : Heap} {ls : Array Slot} (hdg : decode code pc = .ok (.ireturn, 1)) : W p l e room_1 s m #[Value.ref b] below meth c H [] 691079 7028461 (lw_Z below #[Value.ref b] s) (F0 m pc ls [.int 1]) := by
  intro T hT X
  obtain ⟨fs, hret, hrun, hended, hW, hframe⟩ := X.leave (v := some (.int 1)) (hlocks := hlocks) (fun h => by rw [hr] at h; cases h)
  have hmeth' : T.vm.method? m = some meth := X.method'
  refine ⟨T.setFrames fs, ?_, .returned (some (.int 1)), hrun, hended, rfl, ⟨_, rfl⟩, hW, hframe⟩
  jvm_step X.here [X.here.top, hx, hb, hdg, hmeth', hr, ret, narrow_b1]
  (try refine ⟨rfl, ?_⟩); (try refine ⟨rfl, ?_⟩)
  first | (intro acts; rw [hret _ acts rfl rfl rfl]) | rw [hret _ _ rfl rfl rfl]
  exact Steps.refl _
/-- what holds at the law's entry: the machine, the code, the tables' words (any of lw_tbl by 'hts w (by decide +kernel)'), the script of L ints xs at the cell b, what the Statement gives of the start (any of its parts by flat_of_before) -/
def lw_At (p : Program) (s : State) (m : MethodId) (meth : Method) (c : Code) (b L : Nat) (xs : Nat → Int32) : Prop :=
  p.tables.exec = Jvm.exec ∧ c.code = code ∧ meth.sig.returnType = ret ∧ c.maxLocals = 23 ∧ s.vm.findClass R_law = some m.cls ∧ (∀ w ∈ lw_tbl, w.before #[Value.ref b] s = true) ∧ va_X b L xs s s.heap ∧ b < s.heap.size ∧ meth.locks = false ∧ (Jvm.Cond.and given_1 narrow_1).before #[Value.ref b] s = true

theorem st_cls {s : State} {args : Array Value} (hts : ∀ w ∈ WA, w.before args s = true) : ∀ k : Nat, ∃ (c : ClassId) (iS : Nat → Nat), ∀ q : vw_C, fcl[k]? = some q → u_Kn s q.1 q.2.1 q.2.2 c iS := by
  intro k
  match k with
  | 0 =>
    obtain ⟨c, i, h⟩ := u_known (C := RX0) (T := TX0) (N := 4) (n := 4) hts ct_0.2.1 (hts (.instantiable RX0 4) (wIn 584 (by decide +kernel) (by decide +kernel)))
    refine ⟨c, i, fun q hq => ?_⟩
    obtain rfl := Option.some.inj (show some (RX0, TX0, 4) = some q from hq)
    exact h
  | 1 =>
    obtain ⟨c, i, h⟩ := u_known (C := RX1) (T := TX1) (N := 2) (n := 2) hts ct_1.2.1 (hts (.instantiable RX1 2) (wIn 590 (by decide +kernel) (by decide +kernel)))
    refine ⟨c, i, fun q hq => ?_⟩
    obtain rfl := Option.some.inj (show some (RX1, TX1, 2) = some q from hq)
    exact h
  | 2 =>
    obtain ⟨c, i, h⟩ := u_known (C := RX2) (T := TX2) (N := 4) (n := 4) hts ct_2.2.1 (hts (.instantiable RX2 4) (wIn 457 (by decide +kernel) (by decide +kernel)))
    refine ⟨c, i, fun q hq => ?_⟩
    obtain rfl := Option.some.inj (show some (RX2, TX2, 4) = some q from hq)
    exact h
  | 3 =>
    obtain ⟨c, i, h⟩ := u_known (C := RX3) (T := TX3) (N := 3) (n := 3) hts ct_3.2.1 (hts (.instantiable RX3 3) (wIn 906 (by decide +kernel) (by decide +kernel)))
    refine ⟨c, i, fun q hq => ?_⟩
    obtain rfl := Option.some.inj (show some (RX3, TX3, 3) = some q from hq)
    exact h
  | 4 =>
    obtain ⟨c, i, h⟩ := u_known (C := RX4) (T := TX4) (N := 19) (n := 19) hts ct_4.2.1 (hts (.instantiable RX4 19) (wIn 413 (by decide +kernel) (by decide +kernel)))
    refine ⟨c, i, fun q hq => ?_⟩
    obtain rfl := Option.some.inj (show some (RX4, TX4, 19) = some q from hq)
    exact h
  | 5 =>
    obtain ⟨c, i, h⟩ := u_known (C := RX5) (T := TX5) (N := 4) (n := 4) hts ct_5.2.1 (hts (.instantiable RX5 4) (wIn 214 (by decide +kernel) (by decide +kernel)))
    refine ⟨c, i, fun q hq => ?_⟩
    obtain rfl := Option.some.inj (show some (RX5, TX5, 4) = some q from hq)
    exact h
  | 6 =>
    obtain ⟨c, i, h⟩ := u_known (C := RX6) (T := TX6) (N := 9) (n := 9) hts ct_6.2.1 (hts (.instantiable RX6 9) (wIn 199 (by decide +kernel) (by decide +kernel)))
    refine ⟨c, i, fun q hq => ?_⟩
    obtain rfl := Option.some.inj (show some (RX6, TX6, 9) = some q from hq)
    exact h
  | 7 =>
    obtain ⟨c, i, h⟩ := u_known (C := RX7) (T := TX7) (N := 10) (n := 10) hts ct_7.2.1 (hts (.instantiable RX7 10) (wIn 50 (by decide +kernel) (by decide +kernel)))
    refine ⟨c, i, fun q hq => ?_⟩
    obtain rfl := Option.some.inj (show some (RX7, TX7, 10) = some q from hq)
    exact h
  | 8 =>
    obtain ⟨c, i, h⟩ := u_known (C := RX8) (T := TX8) (N := 14) (n := 14) hts ct_8.2.1 (hts (.instantiable RX8 14) (wIn 399 (by decide +kernel) (by decide +kernel)))
    refine ⟨c, i, fun q hq => ?_⟩
    obtain rfl := Option.some.inj (show some (RX8, TX8, 14) = some q from hq)
    exact h
  | k + 9 => exact ⟨0, fun _ => 0, fun q hq => by simp [fcl] at hq⟩
theorem st_arr {s : State} {args : Array Value} (hts : ∀ w ∈ lw_tbl, w.before args s = true) : ∀ k : Nat, ∃ c : ClassId, ∀ ty : FieldType, ftl[k]? = some ty → ArrOfT s c ty ∧ va_RA s c ty := by
  intro k
  match k with
  | 0 =>
    obtain ⟨c, k, comp, h1, h2, h3⟩ := Cond.arrayClass_spec (hts (.arrayClass Jvm.ClassFile.FieldType.int) (by decide +kernel))
    refine ⟨c, fun ty hq => ?_⟩
    obtain rfl := Option.some.inj (show some Jvm.ClassFile.FieldType.int = some ty from hq)
    exact ⟨fun N z => ⟨(fun k h => by cases h), k, h2, comp, h3⟩, h1⟩
  | 1 =>
    obtain ⟨c, k, comp, h1, h2, h3⟩ := Cond.arrayClass_spec (hts (.arrayClass Jvm.ClassFile.FieldType.boolean) (by decide +kernel))
    refine ⟨c, fun ty hq => ?_⟩
    obtain rfl := Option.some.inj (show some Jvm.ClassFile.FieldType.boolean = some ty from hq)
    exact ⟨fun N z => ⟨(fun k h => by cases h), k, h2, comp, h3⟩, h1⟩
  | 2 =>
    obtain ⟨comp, c, k, h1, h2, h3, h4, h5⟩ := Cond.arrayOver_spec (hts (.arrayOver (.object "TapestryScene$Node")) (by decide +kernel))
    refine ⟨c, fun ty hq => ?_⟩
    obtain rfl := Option.some.inj (show some (FieldType.object "TapestryScene$Node") = some ty from hq)
    exact ⟨fun N z => ⟨(fun k h => by cases h), k, h3, comp, h4⟩, ⟨k, comp, h3, h4, h1, h5⟩⟩
  | 3 =>
    obtain ⟨comp, c, k, h1, h2, h3, h4, h5⟩ := Cond.arrayOver_spec (hts (.arrayOver (.object "TapestryScene$Property")) (by decide +kernel))
    refine ⟨c, fun ty hq => ?_⟩
    obtain rfl := Option.some.inj (show some (FieldType.object "TapestryScene$Property") = some ty from hq)
    exact ⟨fun N z => ⟨(fun k h => by cases h), k, h3, comp, h4⟩, ⟨k, comp, h3, h4, h1, h5⟩⟩
  | 4 =>
    obtain ⟨comp, c, k, h1, h2, h3, h4, h5⟩ := arrayOverA_spec (hts (.arrayOver (.array .int)) (by decide +kernel))
    refine ⟨c, fun ty hq => ?_⟩
    obtain rfl := Option.some.inj (show some (FieldType.array .int) = some ty from hq)
    exact ⟨fun N z => ⟨(fun k h => by cases h), k, h3, comp, h4⟩, h5⟩
  | k + 5 => exact ⟨0, fun ty hq => by simp [ftl] at hq⟩
theorem st_world {s : State} {b : Nat} (hts : ∀ w ∈ lw_tbl, w.before #[Value.ref b] s = true) (hgv : (Jvm.Cond.and given_1 narrow_1).before #[Value.ref b] s = true) {h0 : fSt} (hF : ∀ a, fF h0 a = none) (hZ : s.heap.size = fZ h0) (hS : fScr h0 s) : ∃ (D : va_G) (cA : Nat → ClassId), fKw D cA h0 s := by
  have hwa : ∀ w ∈ WA, w.before #[Value.ref b] s = true := fun w hw => hts w (List.mem_filter.mp hw).1
  have hflat := flat_of_before _ hgv
  have hc := st_cls hwa
  have ha := st_arr hts
  refine ⟨(fun k => Classical.choose (hc k), fun k => Classical.choose (Classical.choose_spec (hc k))), fun k => Classical.choose (ha k), ⟨fun k q hq => Classical.choose_spec (Classical.choose_spec (hc k)) q hq, fun k q hq => ?_⟩, ?_, ?_, fun q hq => ?_, fun q hq => (nomatch hq), fun w hw => ?_, hS, ?_⟩
  · unfold fTys at hq
    rw [List.getElem?_map, List.getElem?_zipIdx] at hq
    cases hk : ftl[k]? with
    | none => rw [hk] at hq; cases hq
    | some ty =>
      rw [hk] at hq
      cases hq
      simpa using Classical.choose_spec (ha k) ty hk
  · exact vx_Zqof (hts _ (show Cond.laysStatic Bundle.tN "UNASSIGNED_STACK" Bundle.steD ∈ lw_tbl by decide +kernel)) (hts _ (show Cond.initialized Bundle.tN ∈ lw_tbl by decide +kernel)) (hflat _ (by decide +kernel)) (fun a hlt hA => hA.elim (fun z => z (hF a)) (fun z => by omega))
  · exact vx_Zqof (hts _ (show Cond.laysStatic Bundle.tN "SUPPRESSED_SENTINEL" Bundle.listD ∈ lw_tbl by decide +kernel)) (hts _ (show Cond.initialized Bundle.tN ∈ lw_tbl by decide +kernel)) (hflat _ (by decide +kernel)) (fun a hlt hA => hA.elim (fun z => z (hF a)) (fun z => by omega))
  · have h1 : ∀ q ∈ fStr, Cond.stringRef q.1 q.2.1 q.2.2 ∈ lw_tbl := by decide +kernel
    have h2 : ∀ q ∈ fStr, Cond.exactly (.string q.1 q.2.1) "java/lang/String" ∈ flatC (Jvm.Cond.and given_1 narrow_1) := by decide +kernel
    obtain ⟨a, c, cell, k, e1, -⟩ := Cond.exactly_spec (hflat _ (h2 q hq))
    exact ⟨a, vk_R.of (hts _ (h1 q hq)) e1⟩
  · obtain ⟨hw1, hw2⟩ := List.mem_filter.mp hw
    have h3 := hts w hw1
    unfold fNgood at hw2
    split at hw2
    · exact va_Nw.of rfl h3
    · exact va_Nw.of rfl h3
    · exact va_Nw.of rfl h3
    · exact va_AO.of h3
    · cases hw2
  · have a0 := Classical.choose_spec (ha 0) .int rfl
    have a4 := Classical.choose_spec (ha 4) (.array .int) rfl
    obtain ⟨comp, c, k, h1, h2, h3, h4, h5⟩ := arrayOverA_spec (hts (.arrayOver (.array .int)) (by decide +kernel))
    obtain ⟨c2, k2, comp2, g1, g2, g3⟩ := Cond.arrayClass_spec (hts (.arrayClass .int) (by decide +kernel))
    have e0 : s.vm.findClass "[I" = some (Classical.choose (ha 0)) := a0.2
    have e4 : s.vm.findClass "[[I" = some (Classical.choose (ha 4)) := a4.2
    have e1 : comp = Classical.choose (ha 0) := Option.some.inj (h1.symm.trans e0)
    have e2 : c = Classical.choose (ha 4) := Option.some.inj (h5.symm.trans e4)
    have e3 : c2 = Classical.choose (ha 0) := Option.some.inj (g1.symm.trans e0)
    subst e1; subst e2
    rw [e3] at g2
    exact ⟨e0, h2, ⟨k, h3, h4⟩, k2, comp2, g2, g3⟩
/-- the state at the law's entry: nothing of ours, the caps -/
def st_0 (sz cb lb b L : Nat) (xs : Nat → Int32) : fSt := (fun _ => none, sz, 0, sz + cb, lb, b, L, xs)

set_option maxRecDepth 100000 in
/-- the law's walk, out of its function: the answer is true within the room -/
theorem whole_of {p : Program} {e : Env} {s : State} {m : MethodId} {below : List Frame} {meth : Method} {c : Code} (l : Launch) (hflags : l.flags = flags0) {b L : Nat} {xs : Nat → Int32} (C0 : lw_At p s m meth c b L xs) {h1 : fSt} (hf : f_L_law_L0 (some b) (st_0 s.heap.size 691079 7028461 b L xs) = some ((1 : Int32), h1)) : W p l e room_1 s m #[Value.ref b] below meth c s.heap [] 0 0 (lw_Z below #[Value.ref b] s) (entryFrame m ([Value.ref b] : List Value).toArray 23) := by
  obtain ⟨hx, hb, hr, hml, hown, hts, hX, hbl, hlocks, hgv⟩ := C0
  have hfl : l.stackTraces = false := by
    unfold Launch.stackTraces
    rw [hflags]
    decide +kernel
  have hF : ∀ a, fF (st_0 s.heap.size 691079 7028461 b L xs) a = none := fun _ => rfl
  obtain ⟨D, cA, K⟩ := st_world hts hgv hF (show s.heap.size = fZ (st_0 s.heap.size 691079 7028461 b L xs) from rfl) ⟨hX, hbl, fun z => z.elim (fun q => q rfl) (fun q => absurd hbl (Nat.not_lt.mpr q))⟩
  have hR : room_1.cells = fCB (st_0 s.heap.size 691079 7028461 b L xs) - fZ (st_0 s.heap.size 691079 7028461 b L xs) ∧ room_1.slots = fLB (st_0 s.heap.size 691079 7028461 b L xs) - fL (st_0 s.heap.size 691079 7028461 b L xs) := ⟨by show (691079 : Nat) = s.heap.size + 691079 - s.heap.size; omega, rfl⟩
  have hC : fCur D cA s (st_0 s.heap.size 691079 7028461 b L xs) (st_0 s.heap.size 691079 7028461 b L xs) s.heap [] := ⟨fun a x h => (nomatch (show (none : Option fCe) = some x from h)), rfl, Nat.le_add_right _ _, fExt.rfl, ⟨Nat.le_add_right _ _, Nat.zero_le _⟩, va_S.rf, rfl⟩
  have hl := lv_entry ([.ref b]) (n := 23) (Nat.le_of_ble_eq_true rfl)
  rw [lg_entry_eq]
  generalize (lg_sl ([.ref b]) ++ List.replicate (23 - (lg_sl ([.ref b])).length) Slot.unset).toArray = ls at hl ⊢
  have hl : lv_has ls 23 [(0, .ref b)] := hl
  have M : fM p s m #[Value.ref b] meth c D cA (st_0 s.heap.size 691079 7028461 b L xs) room_1 code 23 ret R_law := ⟨hx, hb, hml, hr, hlocks, fun w hw => hts w (List.mem_filter.mp hw).1, hown, K, hR⟩
  refine w_L_law_L0 M hfl (Nat.le_of_ble_eq_true rfl) (Nat.le_of_ble_eq_true rfl) ?_ _ _ hf _ _ _ _ _ hC (lv_sub hl [0] rfl)
  intro x h H locs cells slots ls pc hxr hC1 hdg
  have hx1 : x = 1 := congrArg Prod.fst hxr
  subst hx1
  obtain ⟨c1, c2, c3, ⟨d1, d2, d3, d4, -⟩, ⟨o1, o2⟩, c6, c7⟩ := id hC1
  have e1 : fCB (st_0 s.heap.size 691079 7028461 b L xs) = s.heap.size + 691079 := rfl
  have e2 : fLB (st_0 s.heap.size 691079 7028461 b L xs) = 7028461 := rfl
  have e3 : fZ (st_0 s.heap.size 691079 7028461 b L xs) = s.heap.size := rfl
  have e4 : fL (st_0 s.heap.size 691079 7028461 b L xs) = 0 := rfl
  refine fr_tight hC1 (va_forget (fun q hq => ?_) (W.widen (k := 691079) (n := 7028461) (by omega) (by omega) ?_))
  · exact (c6.2.2 q hq).elim (fun z => absurd rfl z) id
  · exact lw_ret hx hb hr hlocks hdg
